/-! where a method branches, calls, makes, ends -/
theorem eX0_init_1 : decode mX0_init.2.1 1 = .ok (.invokespecial 5, 3) := px_tab_at tX0_init_ok 1 (e := (1, 3, .invokespecial 5, 0, 0, .null)) rfl
theorem eX0_init_8 : decode mX0_init.2.1 8 = .ok (.newarray .int, 2) := px_tab_at tX0_init_ok 4 (e := (8, 2, .newarray .int, 0, 0, .null)) rfl
set_option maxRecDepth 100000 in
theorem eX0_init_10 : decode mX0_init.2.1 10 = .ok (.putfield 13, 3) := by decide +kernel
theorem eX0_init_15 : decode mX0_init.2.1 15 = .ok (.newarray .int, 2) := px_tab_at tX0_init_ok 7 (e := (15, 2, .newarray .int, 0, 0, .null)) rfl
set_option maxRecDepth 100000 in
theorem eX0_init_17 : decode mX0_init.2.1 17 = .ok (.putfield 17, 3) := by decide +kernel
theorem eX0_init_23 : decode mX0_init.2.1 23 = .ok (.newarray .int, 2) := px_tab_at tX0_init_ok 10 (e := (23, 2, .newarray .int, 0, 0, .null)) rfl
set_option maxRecDepth 100000 in
theorem eX0_init_25 : decode mX0_init.2.1 25 = .ok (.putfield 20, 3) := by decide +kernel
theorem eX0_init_28 : decode mX0_init.2.1 28 = .ok (.return_, 1) := px_tab_at tX0_init_ok 11 (e := (28, 1, .return_, 0, 0, .null)) rfl
theorem eX0_clear_7 : decode mX0_clear.2.1 7 = .ok (.invokevirtual 27, 3) := px_tab_at tX0_clear_ok 5 (e := (7, 3, .invokevirtual 27, 0, 0, .null)) rfl
theorem eX0_clear_13 : decode mX0_clear.2.1 13 = .ok (.invokevirtual 31, 3) := px_tab_at tX0_clear_ok 9 (e := (13, 3, .invokevirtual 31, 0, 0, .null)) rfl
theorem eX0_clear_20 : decode mX0_clear.2.1 20 = .ok (.invokevirtual 31, 3) := px_tab_at tX0_clear_ok 13 (e := (20, 3, .invokevirtual 31, 0, 0, .null)) rfl
theorem eX0_clear_25 : decode mX0_clear.2.1 25 = .ok (.invokevirtual 27, 3) := px_tab_at tX0_clear_ok 16 (e := (25, 3, .invokevirtual 27, 0, 0, .null)) rfl
theorem eX0_clear_30 : decode mX0_clear.2.1 30 = .ok (.invokevirtual 27, 3) := px_tab_at tX0_clear_ok 19 (e := (30, 3, .invokevirtual 27, 0, 0, .null)) rfl
theorem eX0_clear_36 : decode mX0_clear.2.1 36 = .ok (.invokevirtual 31, 3) := px_tab_at tX0_clear_ok 23 (e := (36, 3, .invokevirtual 31, 0, 0, .null)) rfl
theorem eX0_clear_43 : decode mX0_clear.2.1 43 = .ok (.invokevirtual 31, 3) := px_tab_at tX0_clear_ok 27 (e := (43, 3, .invokevirtual 31, 0, 0, .null)) rfl
theorem eX0_clear_46 : decode mX0_clear.2.1 46 = .ok (.return_, 1) := px_tab_at tX0_clear_ok 28 (e := (46, 1, .return_, 0, 0, .null)) rfl
theorem eX0_begin_10 : decode mX0_begin.2.1 10 = .ok (.return_, 1) := px_tab_at tX0_begin_ok 6 (e := (10, 1, .return_, 0, 0, .null)) rfl
theorem eX0_add_7 : decode mX0_add.2.1 7 = .ok (.if_icmp .ge 27, 3) := px_tab_at tX0_add_ok 3 (e := (7, 3, .if_icmp .ge 27, 0, 0, .null)) rfl
theorem eX0_add_34 : decode mX0_add.2.1 34 = .ok (.return_, 1) := px_tab_at tX0_add_ok 20 (e := (34, 1, .return_, 0, 0, .null)) rfl
theorem eX0_addTest_4 : decode mX0_addTest.2.1 4 = .ok (.invokevirtual 31, 3) := px_tab_at tX0_addTest_ok 3 (e := (4, 3, .invokevirtual 31, 0, 0, .null)) rfl
theorem eX0_addTest_13 : decode mX0_addTest.2.1 13 = .ok (.ireturn, 1) := px_tab_at tX0_addTest_ok 8 (e := (13, 1, .ireturn, 0, 0, .null)) rfl
theorem eX0_aim_15 : decode mX0_aim.2.1 15 = .ok (.return_, 1) := px_tab_at tX0_aim_ok 10 (e := (15, 1, .return_, 0, 0, .null)) rfl
theorem eX0_value_18 : decode mX0_value.2.1 18 = .ok (.if_icmp .ge 242, 3) := px_tab_at tX0_value_ok 11 (e := (18, 3, .if_icmp .ge 242, 0, 0, .null)) rfl
theorem eX0_value_27 : decode mX0_value.2.1 27 = .ok (.if_icmp .ge 233, 3) := px_tab_at tX0_value_ok 15 (e := (27, 3, .if_icmp .ge 233, 0, 0, .null)) rfl
theorem eX0_value_60 : decode mX0_value.2.1 60 = .ok (.if_icmp .ne 15, 3) := px_tab_at tX0_value_ok 33 (e := (60, 3, .if_icmp .ne 15, 0, 0, .null)) rfl
theorem eX0_value_74 : decode mX0_value.2.1 74 = .ok (.ireturn, 1) := px_tab_at tX0_value_ok 42 (e := (74, 1, .ireturn, 0, 0, .null)) rfl
theorem eX0_value_77 : decode mX0_value.2.1 77 = .ok (.ifCond .eq 9, 3) := px_tab_at tX0_value_ok 44 (e := (77, 3, .ifCond .eq 9, 0, 0, .null)) rfl
theorem eX0_value_83 : decode mX0_value.2.1 83 = .ok (.if_icmp .ne 35, 3) := px_tab_at tX0_value_ok 47 (e := (83, 3, .if_icmp .ne 35, 0, 0, .null)) rfl
theorem eX0_value_96 : decode mX0_value.2.1 96 = .ok (.ifCond .ne 8, 3) := px_tab_at tX0_value_ok 54 (e := (96, 3, .ifCond .ne 8, 0, 0, .null)) rfl
theorem eX0_value_101 : decode mX0_value.2.1 101 = .ok (.goto 10, 3) := px_tab_at tX0_value_ok 56 (e := (101, 3, .goto 10, 0, 0, .null)) rfl
theorem eX0_value_115 : decode mX0_value.2.1 115 = .ok (.goto 139, 3) := px_tab_at tX0_value_ok 64 (e := (115, 3, .goto 139, 0, 0, .null)) rfl
theorem eX0_value_148 : decode mX0_value.2.1 148 = .ok (.if_icmp .ne 25, 3) := px_tab_at tX0_value_ok 85 (e := (148, 3, .if_icmp .ne 25, 0, 0, .null)) rfl
theorem eX0_value_158 : decode mX0_value.2.1 158 = .ok (.if_icmp .ge 8, 3) := px_tab_at tX0_value_ok 89 (e := (158, 3, .if_icmp .ge 8, 0, 0, .null)) rfl
theorem eX0_value_163 : decode mX0_value.2.1 163 = .ok (.goto 5, 3) := px_tab_at tX0_value_ok 91 (e := (163, 3, .goto 5, 0, 0, .null)) rfl
theorem eX0_value_170 : decode mX0_value.2.1 170 = .ok (.goto 84, 3) := px_tab_at tX0_value_ok 94 (e := (170, 3, .goto 84, 0, 0, .null)) rfl
theorem eX0_value_176 : decode mX0_value.2.1 176 = .ok (.if_icmp .ne 13, 3) := px_tab_at tX0_value_ok 97 (e := (176, 3, .if_icmp .ne 13, 0, 0, .null)) rfl
theorem eX0_value_186 : decode mX0_value.2.1 186 = .ok (.goto 52, 3) := px_tab_at tX0_value_ok 102 (e := (186, 3, .goto 52, 0, 0, .null)) rfl
theorem eX0_value_192 : decode mX0_value.2.1 192 = .ok (.if_icmp .ne 13, 3) := px_tab_at tX0_value_ok 105 (e := (192, 3, .if_icmp .ne 13, 0, 0, .null)) rfl
theorem eX0_value_202 : decode mX0_value.2.1 202 = .ok (.goto 36, 3) := px_tab_at tX0_value_ok 110 (e := (202, 3, .goto 36, 0, 0, .null)) rfl
theorem eX0_value_208 : decode mX0_value.2.1 208 = .ok (.if_icmp .ne 13, 3) := px_tab_at tX0_value_ok 113 (e := (208, 3, .if_icmp .ne 13, 0, 0, .null)) rfl
theorem eX0_value_218 : decode mX0_value.2.1 218 = .ok (.goto 20, 3) := px_tab_at tX0_value_ok 118 (e := (218, 3, .goto 20, 0, 0, .null)) rfl
theorem eX0_value_223 : decode mX0_value.2.1 223 = .ok (.ifCond .eq 13, 3) := px_tab_at tX0_value_ok 120 (e := (223, 3, .ifCond .eq 13, 0, 0, .null)) rfl
theorem eX0_value_233 : decode mX0_value.2.1 233 = .ok (.goto 5, 3) := px_tab_at tX0_value_ok 125 (e := (233, 3, .goto 5, 0, 0, .null)) rfl
theorem eX0_value_237 : decode mX0_value.2.1 237 = .ok (.ireturn, 1) := px_tab_at tX0_value_ok 127 (e := (237, 1, .ireturn, 0, 0, .null)) rfl
theorem eX0_value_257 : decode mX0_value.2.1 257 = .ok (.goto (-244), 3) := px_tab_at tX0_value_ok 139 (e := (257, 3, .goto (-244), 0, 0, .null)) rfl
theorem eX0_value_261 : decode mX0_value.2.1 261 = .ok (.ireturn, 1) := px_tab_at tX0_value_ok 141 (e := (261, 1, .ireturn, 0, 0, .null)) rfl
theorem eX1_init_1 : decode mX1_init.2.1 1 = .ok (.invokespecial 3, 3) := px_tab_at tX1_init_ok 1 (e := (1, 3, .invokespecial 3, 0, 0, .null)) rfl
theorem eX1_init_7 : decode mX1_init.2.1 7 = .ok (.newarray .int, 2) := px_tab_at tX1_init_ok 4 (e := (7, 2, .newarray .int, 0, 0, .null)) rfl
set_option maxRecDepth 100000 in
theorem eX1_init_9 : decode mX1_init.2.1 9 = .ok (.putfield 9, 3) := by decide +kernel
theorem eX1_init_15 : decode mX1_init.2.1 15 = .ok (.newarray .int, 2) := px_tab_at tX1_init_ok 7 (e := (15, 2, .newarray .int, 0, 0, .null)) rfl
set_option maxRecDepth 100000 in
theorem eX1_init_17 : decode mX1_init.2.1 17 = .ok (.putfield 15, 3) := by decide +kernel
theorem eX1_init_22 : decode mX1_init.2.1 22 = .ok (.newarray .int, 2) := px_tab_at tX1_init_ok 10 (e := (22, 2, .newarray .int, 0, 0, .null)) rfl
set_option maxRecDepth 100000 in
theorem eX1_init_24 : decode mX1_init.2.1 24 = .ok (.putfield 18, 3) := by decide +kernel
theorem eX1_init_29 : decode mX1_init.2.1 29 = .ok (.newarray .int, 2) := px_tab_at tX1_init_ok 13 (e := (29, 2, .newarray .int, 0, 0, .null)) rfl
set_option maxRecDepth 100000 in
theorem eX1_init_31 : decode mX1_init.2.1 31 = .ok (.putfield 21, 3) := by decide +kernel
theorem eX1_init_34 : decode mX1_init.2.1 34 = .ok (.return_, 1) := px_tab_at tX1_init_ok 14 (e := (34, 1, .return_, 0, 0, .null)) rfl
theorem eX1_beginFirst_17 : decode mX1_beginFirst.2.1 17 = .ok (.invokevirtual 34, 3) := px_tab_at tX1_beginFirst_ok 11 (e := (17, 3, .invokevirtual 34, 0, 0, .null)) rfl
theorem eX1_beginFirst_25 : decode mX1_beginFirst.2.1 25 = .ok (.if_icmp .ge 21, 3) := px_tab_at tX1_beginFirst_ok 16 (e := (25, 3, .if_icmp .ge 21, 0, 0, .null)) rfl
theorem eX1_beginFirst_43 : decode mX1_beginFirst.2.1 43 = .ok (.goto (-21), 3) := px_tab_at tX1_beginFirst_ok 26 (e := (43, 3, .goto (-21), 0, 0, .null)) rfl
theorem eX1_beginFirst_50 : decode mX1_beginFirst.2.1 50 = .ok (.if_icmp .ge 24, 3) := px_tab_at tX1_beginFirst_ok 31 (e := (50, 3, .if_icmp .ge 24, 0, 0, .null)) rfl
theorem eX1_beginFirst_71 : decode mX1_beginFirst.2.1 71 = .ok (.goto (-23), 3) := px_tab_at tX1_beginFirst_ok 43 (e := (71, 3, .goto (-23), 0, 0, .null)) rfl
theorem eX1_beginFirst_74 : decode mX1_beginFirst.2.1 74 = .ok (.return_, 1) := px_tab_at tX1_beginFirst_ok 44 (e := (74, 1, .return_, 0, 0, .null)) rfl
theorem eX1_beginNext_12 : decode mX1_beginNext.2.1 12 = .ok (.invokevirtual 34, 3) := px_tab_at tX1_beginNext_ok 8 (e := (12, 3, .invokevirtual 34, 0, 0, .null)) rfl
theorem eX1_beginNext_19 : decode mX1_beginNext.2.1 19 = .ok (.if_icmp .ge 61, 3) := px_tab_at tX1_beginNext_ok 13 (e := (19, 3, .if_icmp .ge 61, 0, 0, .null)) rfl
theorem eX1_beginNext_30 : decode mX1_beginNext.2.1 30 = .ok (.if_icmp .eq 14, 3) := px_tab_at tX1_beginNext_ok 19 (e := (30, 3, .if_icmp .eq 14, 0, 0, .null)) rfl
theorem eX1_beginNext_41 : decode mX1_beginNext.2.1 41 = .ok (.if_icmp .ne 14, 3) := px_tab_at tX1_beginNext_ok 25 (e := (41, 3, .if_icmp .ne 14, 0, 0, .null)) rfl
theorem eX1_beginNext_52 : decode mX1_beginNext.2.1 52 = .ok (.goto 22, 3) := px_tab_at tX1_beginNext_ok 31 (e := (52, 3, .goto 22, 0, 0, .null)) rfl
theorem eX1_beginNext_63 : decode mX1_beginNext.2.1 63 = .ok (.if_icmp .eq 11, 3) := px_tab_at tX1_beginNext_ok 37 (e := (63, 3, .if_icmp .eq 11, 0, 0, .null)) rfl
theorem eX1_beginNext_77 : decode mX1_beginNext.2.1 77 = .ok (.goto (-60), 3) := px_tab_at tX1_beginNext_ok 44 (e := (77, 3, .goto (-60), 0, 0, .null)) rfl
theorem eX1_beginNext_80 : decode mX1_beginNext.2.1 80 = .ok (.return_, 1) := px_tab_at tX1_beginNext_ok 45 (e := (80, 1, .return_, 0, 0, .null)) rfl
theorem eX1_putToSleep_12 : decode mX1_putToSleep.2.1 12 = .ok (.invokevirtual 44, 3) := px_tab_at tX1_putToSleep_ok 8 (e := (12, 3, .invokevirtual 44, 0, 0, .null)) rfl
theorem eX1_putToSleep_23 : decode mX1_putToSleep.2.1 23 = .ok (.if_icmp .ge 21, 3) := px_tab_at tX1_putToSleep_ok 14 (e := (23, 3, .if_icmp .ge 21, 0, 0, .null)) rfl
theorem eX1_putToSleep_41 : decode mX1_putToSleep.2.1 41 = .ok (.goto (-21), 3) := px_tab_at tX1_putToSleep_ok 24 (e := (41, 3, .goto (-21), 0, 0, .null)) rfl
theorem eX1_putToSleep_44 : decode mX1_putToSleep.2.1 44 = .ok (.return_, 1) := px_tab_at tX1_putToSleep_ok 25 (e := (44, 1, .return_, 0, 0, .null)) rfl
theorem eX1_asleepOn_7 : decode mX1_asleepOn.2.1 7 = .ok (.if_icmp .ge 25, 3) := px_tab_at tX1_asleepOn_ok 6 (e := (7, 3, .if_icmp .ge 25, 0, 0, .null)) rfl
theorem eX1_asleepOn_17 : decode mX1_asleepOn.2.1 17 = .ok (.if_icmp .ne 9, 3) := px_tab_at tX1_asleepOn_ok 12 (e := (17, 3, .if_icmp .ne 9, 0, 0, .null)) rfl
theorem eX1_asleepOn_29 : decode mX1_asleepOn.2.1 29 = .ok (.goto (-25), 3) := px_tab_at tX1_asleepOn_ok 20 (e := (29, 3, .goto (-25), 0, 0, .null)) rfl
theorem eX1_asleepOn_38 : decode mX1_asleepOn.2.1 38 = .ok (.ireturn, 1) := px_tab_at tX1_asleepOn_ok 25 (e := (38, 1, .ireturn, 0, 0, .null)) rfl
theorem eX1_allOvers_6 : decode mX1_allOvers.2.1 6 = .ok (.if_icmp .ge 18, 3) := px_tab_at tX1_allOvers_ok 6 (e := (6, 3, .if_icmp .ge 18, 0, 0, .null)) rfl
theorem eX1_allOvers_21 : decode mX1_allOvers.2.1 21 = .ok (.goto (-17), 3) := px_tab_at tX1_allOvers_ok 15 (e := (21, 3, .goto (-17), 0, 0, .null)) rfl
theorem eX1_allOvers_25 : decode mX1_allOvers.2.1 25 = .ok (.ireturn, 1) := px_tab_at tX1_allOvers_ok 17 (e := (25, 1, .ireturn, 0, 0, .null)) rfl
theorem eX1_copy_52 : decode mX1_copy.2.1 52 = .ok (.invokestatic 52, 3) := px_tab_at tX1_copy_ok 27 (e := (52, 3, .invokestatic 52, 0, 0, .null)) rfl
theorem eX1_copy_67 : decode mX1_copy.2.1 67 = .ok (.invokestatic 52, 3) := px_tab_at tX1_copy_ok 35 (e := (67, 3, .invokestatic 52, 0, 0, .null)) rfl
theorem eX1_copy_81 : decode mX1_copy.2.1 81 = .ok (.invokestatic 52, 3) := px_tab_at tX1_copy_ok 43 (e := (81, 3, .invokestatic 52, 0, 0, .null)) rfl
theorem eX1_copy_95 : decode mX1_copy.2.1 95 = .ok (.invokestatic 52, 3) := px_tab_at tX1_copy_ok 51 (e := (95, 3, .invokestatic 52, 0, 0, .null)) rfl
theorem eX1_copy_98 : decode mX1_copy.2.1 98 = .ok (.return_, 1) := px_tab_at tX1_copy_ok 52 (e := (98, 1, .return_, 0, 0, .null)) rfl
theorem eX2_init_1 : decode mX2_init.2.1 1 = .ok (.invokespecial 3, 3) := px_tab_at tX2_init_ok 1 (e := (1, 3, .invokespecial 3, 0, 0, .null)) rfl
theorem eX2_init_7 : decode mX2_init.2.1 7 = .ok (.newarray .int, 2) := px_tab_at tX2_init_ok 4 (e := (7, 2, .newarray .int, 0, 0, .null)) rfl
set_option maxRecDepth 100000 in
theorem eX2_init_9 : decode mX2_init.2.1 9 = .ok (.putfield 9, 3) := by decide +kernel
theorem eX2_init_14 : decode mX2_init.2.1 14 = .ok (.newarray .int, 2) := px_tab_at tX2_init_ok 7 (e := (14, 2, .newarray .int, 0, 0, .null)) rfl
set_option maxRecDepth 100000 in
theorem eX2_init_16 : decode mX2_init.2.1 16 = .ok (.putfield 15, 3) := by decide +kernel
theorem eX2_init_20 : decode mX2_init.2.1 20 = .ok (.new 18, 3) := px_tab_at tX2_init_ok 9 (e := (20, 3, .new 18, 0, 0, .null)) rfl
theorem eX2_init_24 : decode mX2_init.2.1 24 = .ok (.invokespecial 20, 3) := px_tab_at tX2_init_ok 11 (e := (24, 3, .invokespecial 20, 0, 0, .null)) rfl
set_option maxRecDepth 100000 in
theorem eX2_init_27 : decode mX2_init.2.1 27 = .ok (.putfield 21, 3) := by decide +kernel
theorem eX2_init_31 : decode mX2_init.2.1 31 = .ok (.new 18, 3) := px_tab_at tX2_init_ok 13 (e := (31, 3, .new 18, 0, 0, .null)) rfl
theorem eX2_init_35 : decode mX2_init.2.1 35 = .ok (.invokespecial 20, 3) := px_tab_at tX2_init_ok 15 (e := (35, 3, .invokespecial 20, 0, 0, .null)) rfl
set_option maxRecDepth 100000 in
theorem eX2_init_38 : decode mX2_init.2.1 38 = .ok (.putfield 25, 3) := by decide +kernel
theorem eX2_init_42 : decode mX2_init.2.1 42 = .ok (.new 28, 3) := px_tab_at tX2_init_ok 17 (e := (42, 3, .new 28, 0, 0, .null)) rfl
theorem eX2_init_48 : decode mX2_init.2.1 48 = .ok (.invokespecial 30, 3) := px_tab_at tX2_init_ok 20 (e := (48, 3, .invokespecial 30, 0, 0, .null)) rfl
set_option maxRecDepth 100000 in
theorem eX2_init_51 : decode mX2_init.2.1 51 = .ok (.putfield 33, 3) := by decide +kernel
theorem eX2_init_57 : decode mX2_init.2.1 57 = .ok (.newarray .int, 2) := px_tab_at tX2_init_ok 23 (e := (57, 2, .newarray .int, 0, 0, .null)) rfl
set_option maxRecDepth 100000 in
theorem eX2_init_59 : decode mX2_init.2.1 59 = .ok (.putfield 37, 3) := by decide +kernel
theorem eX2_init_64 : decode mX2_init.2.1 64 = .ok (.newarray .int, 2) := px_tab_at tX2_init_ok 26 (e := (64, 2, .newarray .int, 0, 0, .null)) rfl
set_option maxRecDepth 100000 in
theorem eX2_init_66 : decode mX2_init.2.1 66 = .ok (.putfield 40, 3) := by decide +kernel
theorem eX2_init_73 : decode mX2_init.2.1 73 = .ok (.newarray .int, 2) := px_tab_at tX2_init_ok 29 (e := (73, 2, .newarray .int, 0, 0, .null)) rfl
set_option maxRecDepth 100000 in
theorem eX2_init_75 : decode mX2_init.2.1 75 = .ok (.putfield 43, 3) := by decide +kernel
theorem eX2_init_80 : decode mX2_init.2.1 80 = .ok (.newarray .int, 2) := px_tab_at tX2_init_ok 32 (e := (80, 2, .newarray .int, 0, 0, .null)) rfl
set_option maxRecDepth 100000 in
theorem eX2_init_82 : decode mX2_init.2.1 82 = .ok (.putfield 46, 3) := by decide +kernel
set_option maxRecDepth 100000 in
theorem eX2_init_87 : decode mX2_init.2.1 87 = .ok (.putfield 49, 3) := by decide +kernel
theorem eX2_init_90 : decode mX2_init.2.1 90 = .ok (.return_, 1) := px_tab_at tX2_init_ok 35 (e := (90, 1, .return_, 0, 0, .null)) rfl
theorem eX2_findRows_13 : decode mX2_findRows.2.1 13 = .ok (.if_icmp .ge 62, 3) := px_tab_at tX2_findRows_ok 7 (e := (13, 3, .if_icmp .ge 62, 0, 0, .null)) rfl
theorem eX2_findRows_28 : decode mX2_findRows.2.1 28 = .ok (.if_icmp .ge 41, 3) := px_tab_at tX2_findRows_ok 17 (e := (28, 3, .if_icmp .ge 41, 0, 0, .null)) rfl
theorem eX2_findRows_39 : decode mX2_findRows.2.1 39 = .ok (.ifCond .ne 24, 3) := px_tab_at tX2_findRows_ok 24 (e := (39, 3, .ifCond .ne 24, 0, 0, .null)) rfl
theorem eX2_findRows_59 : decode mX2_findRows.2.1 59 = .ok (.invokevirtual 68, 3) := px_tab_at tX2_findRows_ok 37 (e := (59, 3, .invokevirtual 68, 0, 0, .null)) rfl
theorem eX2_findRows_66 : decode mX2_findRows.2.1 66 = .ok (.goto (-41), 3) := px_tab_at tX2_findRows_ok 40 (e := (66, 3, .goto (-41), 0, 0, .null)) rfl
theorem eX2_findRows_72 : decode mX2_findRows.2.1 72 = .ok (.goto (-70), 3) := px_tab_at tX2_findRows_ok 42 (e := (72, 3, .goto (-70), 0, 0, .null)) rfl
theorem eX2_findRows_83 : decode mX2_findRows.2.1 83 = .ok (.invokevirtual 75, 3) := px_tab_at tX2_findRows_ok 49 (e := (83, 3, .invokevirtual 75, 0, 0, .null)) rfl
theorem eX2_findRows_90 : decode mX2_findRows.2.1 90 = .ok (.ireturn, 1) := px_tab_at tX2_findRows_ok 52 (e := (90, 1, .ireturn, 0, 0, .null)) rfl
theorem eX2_tryRows_11 : decode mX2_tryRows.2.1 11 = .ok (.if_icmp .ge 9, 3) := px_tab_at tX2_tryRows_ok 5 (e := (11, 3, .if_icmp .ge 9, 0, 0, .null)) rfl
theorem eX2_tryRows_17 : decode mX2_tryRows.2.1 17 = .ok (.if_icmp .lt 8, 3) := px_tab_at tX2_tryRows_ok 8 (e := (17, 3, .if_icmp .lt 8, 0, 0, .null)) rfl
theorem eX2_tryRows_21 : decode mX2_tryRows.2.1 21 = .ok (.invokevirtual 82, 3) := px_tab_at tX2_tryRows_ok 10 (e := (21, 3, .invokevirtual 82, 0, 0, .null)) rfl
theorem eX2_tryRows_24 : decode mX2_tryRows.2.1 24 = .ok (.return_, 1) := px_tab_at tX2_tryRows_ok 11 (e := (24, 1, .return_, 0, 0, .null)) rfl
theorem eX2_tryRows_35 : decode mX2_tryRows.2.1 35 = .ok (.ifCond .ne 7, 3) := px_tab_at tX2_tryRows_ok 20 (e := (35, 3, .ifCond .ne 7, 0, 0, .null)) rfl
theorem eX2_tryRows_39 : decode mX2_tryRows.2.1 39 = .ok (.goto 13, 3) := px_tab_at tX2_tryRows_ok 22 (e := (39, 3, .goto 13, 0, 0, .null)) rfl
theorem eX2_tryRows_61 : decode mX2_tryRows.2.1 61 = .ok (.if_icmp .ge 49, 3) := px_tab_at tX2_tryRows_ok 32 (e := (61, 3, .if_icmp .ge 49, 0, 0, .null)) rfl
theorem eX2_tryRows_88 : decode mX2_tryRows.2.1 88 = .ok (.invokevirtual 75, 3) := px_tab_at tX2_tryRows_ok 51 (e := (88, 3, .invokevirtual 75, 0, 0, .null)) rfl
theorem eX2_tryRows_107 : decode mX2_tryRows.2.1 107 = .ok (.goto (-50), 3) := px_tab_at tX2_tryRows_ok 63 (e := (107, 3, .goto (-50), 0, 0, .null)) rfl
theorem eX2_tryRows_110 : decode mX2_tryRows.2.1 110 = .ok (.return_, 1) := px_tab_at tX2_tryRows_ok 64 (e := (110, 1, .return_, 0, 0, .null)) rfl
theorem eX2_weighRow_25 : decode mX2_weighRow.2.1 25 = .ok (.if_icmp .ge 30, 3) := px_tab_at tX2_weighRow_ok 15 (e := (25, 3, .if_icmp .ge 30, 0, 0, .null)) rfl
theorem eX2_weighRow_45 : decode mX2_weighRow.2.1 45 = .ok (.invokestatic 85, 3) := px_tab_at tX2_weighRow_ok 28 (e := (45, 3, .invokestatic 85, 0, 0, .null)) rfl
theorem eX2_weighRow_52 : decode mX2_weighRow.2.1 52 = .ok (.goto (-38), 3) := px_tab_at tX2_weighRow_ok 31 (e := (52, 3, .goto (-38), 0, 0, .null)) rfl
theorem eX2_weighRow_60 : decode mX2_weighRow.2.1 60 = .ok (.if_icmp .le 23, 3) := px_tab_at tX2_weighRow_ok 35 (e := (60, 3, .if_icmp .le 23, 0, 0, .null)) rfl
theorem eX2_weighRow_80 : decode mX2_weighRow.2.1 80 = .ok (.invokestatic 91, 3) := px_tab_at tX2_weighRow_ok 46 (e := (80, 3, .invokestatic 91, 0, 0, .null)) rfl
theorem eX2_weighRow_83 : decode mX2_weighRow.2.1 83 = .ok (.return_, 1) := px_tab_at tX2_weighRow_ok 47 (e := (83, 1, .return_, 0, 0, .null)) rfl
theorem eX2_findMove_5 : decode mX2_findMove.2.1 5 = .ok (.invokevirtual 97, 3) := px_tab_at tX2_findMove_ok 3 (e := (5, 3, .invokevirtual 97, 0, 0, .null)) rfl
theorem eX2_findMove_19 : decode mX2_findMove.2.1 19 = .ok (.invokevirtual 104, 3) := px_tab_at tX2_findMove_ok 11 (e := (19, 3, .invokevirtual 104, 0, 0, .null)) rfl
theorem eX2_findMove_38 : decode mX2_findMove.2.1 38 = .ok (.if_icmp .ge 94, 3) := px_tab_at tX2_findMove_ok 20 (e := (38, 3, .if_icmp .ge 94, 0, 0, .null)) rfl
theorem eX2_findMove_54 : decode mX2_findMove.2.1 54 = .ok (.if_icmp .ge 57, 3) := px_tab_at tX2_findMove_ok 28 (e := (54, 3, .if_icmp .ge 57, 0, 0, .null)) rfl
theorem eX2_findMove_75 : decode mX2_findMove.2.1 75 = .ok (.invokevirtual 104, 3) := px_tab_at tX2_findMove_ok 39 (e := (75, 3, .invokevirtual 104, 0, 0, .null)) rfl
theorem eX2_findMove_86 : decode mX2_findMove.2.1 86 = .ok (.if_icmp .le 19, 3) := px_tab_at tX2_findMove_ok 44 (e := (86, 3, .if_icmp .le 19, 0, 0, .null)) rfl
theorem eX2_findMove_108 : decode mX2_findMove.2.1 108 = .ok (.goto (-65), 3) := px_tab_at tX2_findMove_ok 55 (e := (108, 3, .goto (-65), 0, 0, .null)) rfl
theorem eX2_findMove_129 : decode mX2_findMove.2.1 129 = .ok (.goto (-102), 3) := px_tab_at tX2_findMove_ok 66 (e := (129, 3, .goto (-102), 0, 0, .null)) rfl
theorem eX2_findMove_137 : decode mX2_findMove.2.1 137 = .ok (.if_icmp .eq 7, 3) := px_tab_at tX2_findMove_ok 70 (e := (137, 3, .if_icmp .eq 7, 0, 0, .null)) rfl
theorem eX2_findMove_141 : decode mX2_findMove.2.1 141 = .ok (.goto 4, 3) := px_tab_at tX2_findMove_ok 72 (e := (141, 3, .goto 4, 0, 0, .null)) rfl
theorem eX2_findMove_145 : decode mX2_findMove.2.1 145 = .ok (.ireturn, 1) := px_tab_at tX2_findMove_ok 74 (e := (145, 1, .ireturn, 0, 0, .null)) rfl
theorem eX2_findCheapest_5 : decode mX2_findCheapest.2.1 5 = .ok (.invokevirtual 97, 3) := px_tab_at tX2_findCheapest_ok 3 (e := (5, 3, .invokevirtual 97, 0, 0, .null)) rfl
theorem eX2_findCheapest_18 : decode mX2_findCheapest.2.1 18 = .ok (.if_icmp .ge 87, 3) := px_tab_at tX2_findCheapest_ok 11 (e := (18, 3, .if_icmp .ge 87, 0, 0, .null)) rfl
theorem eX2_findCheapest_29 : decode mX2_findCheapest.2.1 29 = .ok (.invokevirtual 114, 3) := px_tab_at tX2_findCheapest_ok 16 (e := (29, 3, .invokevirtual 114, 0, 0, .null)) rfl
theorem eX2_findCheapest_42 : decode mX2_findCheapest.2.1 42 = .ok (.ifCond .ne 57, 3) := px_tab_at tX2_findCheapest_ok 24 (e := (42, 3, .ifCond .ne 57, 0, 0, .null)) rfl
theorem eX2_findCheapest_50 : decode mX2_findCheapest.2.1 50 = .ok (.if_icmp .eq 15, 3) := px_tab_at tX2_findCheapest_ok 28 (e := (50, 3, .if_icmp .eq 15, 0, 0, .null)) rfl
theorem eX2_findCheapest_59 : decode mX2_findCheapest.2.1 59 = .ok (.if_icmp .lt 6, 3) := px_tab_at tX2_findCheapest_ok 32 (e := (59, 3, .if_icmp .lt 6, 0, 0, .null)) rfl
theorem eX2_findCheapest_62 : decode mX2_findCheapest.2.1 62 = .ok (.goto 37, 3) := px_tab_at tX2_findCheapest_ok 33 (e := (62, 3, .goto 37, 0, 0, .null)) rfl
theorem eX2_findCheapest_81 : decode mX2_findCheapest.2.1 81 = .ok (.invokevirtual 104, 3) := px_tab_at tX2_findCheapest_ok 42 (e := (81, 3, .invokevirtual 104, 0, 0, .null)) rfl
theorem eX2_findCheapest_85 : decode mX2_findCheapest.2.1 85 = .ok (.if_icmp .lt 14, 3) := px_tab_at tX2_findCheapest_ok 44 (e := (85, 3, .if_icmp .lt 14, 0, 0, .null)) rfl
theorem eX2_findCheapest_102 : decode mX2_findCheapest.2.1 102 = .ok (.goto (-87), 3) := px_tab_at tX2_findCheapest_ok 52 (e := (102, 3, .goto (-87), 0, 0, .null)) rfl
theorem eX2_findCheapest_110 : decode mX2_findCheapest.2.1 110 = .ok (.if_icmp .eq 7, 3) := px_tab_at tX2_findCheapest_ok 56 (e := (110, 3, .if_icmp .eq 7, 0, 0, .null)) rfl
theorem eX2_findCheapest_114 : decode mX2_findCheapest.2.1 114 = .ok (.goto 4, 3) := px_tab_at tX2_findCheapest_ok 58 (e := (114, 3, .goto 4, 0, 0, .null)) rfl
theorem eX2_findCheapest_118 : decode mX2_findCheapest.2.1 118 = .ok (.ireturn, 1) := px_tab_at tX2_findCheapest_ok 60 (e := (118, 1, .ireturn, 0, 0, .null)) rfl
theorem eX2_findMissed_5 : decode mX2_findMissed.2.1 5 = .ok (.invokevirtual 97, 3) := px_tab_at tX2_findMissed_ok 3 (e := (5, 3, .invokevirtual 97, 0, 0, .null)) rfl
theorem eX2_findMissed_26 : decode mX2_findMissed.2.1 26 = .ok (.if_icmp .ge 78, 3) := px_tab_at tX2_findMissed_ok 14 (e := (26, 3, .if_icmp .ge 78, 0, 0, .null)) rfl
theorem eX2_findMissed_37 : decode mX2_findMissed.2.1 37 = .ok (.ifCond .ne 6, 3) := px_tab_at tX2_findMissed_ok 21 (e := (37, 3, .ifCond .ne 6, 0, 0, .null)) rfl
theorem eX2_findMissed_40 : decode mX2_findMissed.2.1 40 = .ok (.goto 58, 3) := px_tab_at tX2_findMissed_ok 22 (e := (40, 3, .goto 58, 0, 0, .null)) rfl
theorem eX2_findMissed_68 : decode mX2_findMissed.2.1 68 = .ok (.invokevirtual 104, 3) := px_tab_at tX2_findMissed_ok 38 (e := (68, 3, .invokevirtual 104, 0, 0, .null)) rfl
theorem eX2_findMissed_77 : decode mX2_findMissed.2.1 77 = .ok (.if_icmp .eq 11, 3) := px_tab_at tX2_findMissed_ok 43 (e := (77, 3, .if_icmp .eq 11, 0, 0, .null)) rfl
theorem eX2_findMissed_85 : decode mX2_findMissed.2.1 85 = .ok (.if_icmp .ge 13, 3) := px_tab_at tX2_findMissed_ok 47 (e := (85, 3, .if_icmp .ge 13, 0, 0, .null)) rfl
theorem eX2_findMissed_101 : decode mX2_findMissed.2.1 101 = .ok (.goto (-86), 3) := px_tab_at tX2_findMissed_ok 55 (e := (101, 3, .goto (-86), 0, 0, .null)) rfl
theorem eX2_findMissed_104 : decode mX2_findMissed.2.1 104 = .ok (.return_, 1) := px_tab_at tX2_findMissed_ok 56 (e := (104, 1, .return_, 0, 0, .null)) rfl
theorem eX2_findOrder_11 : decode mX2_findOrder.2.1 11 = .ok (.invokevirtual 124, 3) := px_tab_at tX2_findOrder_ok 7 (e := (11, 3, .invokevirtual 124, 0, 0, .null)) rfl
theorem eX2_findOrder_23 : decode mX2_findOrder.2.1 23 = .ok (.invokevirtual 128, 3) := px_tab_at tX2_findOrder_ok 14 (e := (23, 3, .invokevirtual 128, 0, 0, .null)) rfl
theorem eX2_findOrder_27 : decode mX2_findOrder.2.1 27 = .ok (.invokevirtual 132, 3) := px_tab_at tX2_findOrder_ok 16 (e := (27, 3, .invokevirtual 132, 0, 0, .null)) rfl
theorem eX2_findOrder_34 : decode mX2_findOrder.2.1 34 = .ok (.ireturn, 1) := px_tab_at tX2_findOrder_ok 19 (e := (34, 1, .ireturn, 0, 0, .null)) rfl
theorem eX2_tryOrders_1 : decode mX2_tryOrders.2.1 1 = .ok (.ifCond .eq 8, 3) := px_tab_at tX2_tryOrders_ok 1 (e := (1, 3, .ifCond .eq 8, 0, 0, .null)) rfl
theorem eX2_tryOrders_6 : decode mX2_tryOrders.2.1 6 = .ok (.if_icmp .lt 85, 3) := px_tab_at tX2_tryOrders_ok 4 (e := (6, 3, .if_icmp .lt 85, 0, 0, .null)) rfl
theorem eX2_tryOrders_18 : decode mX2_tryOrders.2.1 18 = .ok (.invokevirtual 136, 3) := px_tab_at tX2_tryOrders_ok 10 (e := (18, 3, .invokevirtual 136, 0, 0, .null)) rfl
theorem eX2_tryOrders_28 : decode mX2_tryOrders.2.1 28 = .ok (.if_icmp .ge 46, 3) := px_tab_at tX2_tryOrders_ok 15 (e := (28, 3, .if_icmp .ge 46, 0, 0, .null)) rfl
theorem eX2_tryOrders_39 : decode mX2_tryOrders.2.1 39 = .ok (.invokevirtual 139, 3) := px_tab_at tX2_tryOrders_ok 20 (e := (39, 3, .invokevirtual 139, 0, 0, .null)) rfl
theorem eX2_tryOrders_42 : decode mX2_tryOrders.2.1 42 = .ok (.ifCond .eq 32, 3) := px_tab_at tX2_tryOrders_ok 21 (e := (42, 3, .ifCond .eq 32, 0, 0, .null)) rfl
theorem eX2_tryOrders_65 : decode mX2_tryOrders.2.1 65 = .ok (.invokevirtual 146, 3) := px_tab_at tX2_tryOrders_ok 32 (e := (65, 3, .invokevirtual 146, 0, 0, .null)) rfl
theorem eX2_tryOrders_71 : decode mX2_tryOrders.2.1 71 = .ok (.goto (-47), 3) := px_tab_at tX2_tryOrders_ok 34 (e := (71, 3, .goto (-47), 0, 0, .null)) rfl
theorem eX2_tryOrders_87 : decode mX2_tryOrders.2.1 87 = .ok (.invokevirtual 153, 3) := px_tab_at tX2_tryOrders_ok 42 (e := (87, 3, .invokevirtual 153, 0, 0, .null)) rfl
theorem eX2_tryOrders_90 : decode mX2_tryOrders.2.1 90 = .ok (.return_, 1) := px_tab_at tX2_tryOrders_ok 43 (e := (90, 1, .return_, 0, 0, .null)) rfl
theorem eX2_tryOrders_97 : decode mX2_tryOrders.2.1 97 = .ok (.if_icmp .ge 104, 3) := px_tab_at tX2_tryOrders_ok 48 (e := (97, 3, .if_icmp .ge 104, 0, 0, .null)) rfl
theorem eX2_tryOrders_107 : decode mX2_tryOrders.2.1 107 = .ok (.if_icmp .ne 88, 3) := px_tab_at tX2_tryOrders_ok 55 (e := (107, 3, .if_icmp .ne 88, 0, 0, .null)) rfl
theorem eX2_tryOrders_119 : decode mX2_tryOrders.2.1 119 = .ok (.invokevirtual 136, 3) := px_tab_at tX2_tryOrders_ok 61 (e := (119, 3, .invokevirtual 136, 0, 0, .null)) rfl
theorem eX2_tryOrders_154 : decode mX2_tryOrders.2.1 154 = .ok (.invokevirtual 146, 3) := px_tab_at tX2_tryOrders_ok 78 (e := (154, 3, .invokevirtual 146, 0, 0, .null)) rfl
theorem eX2_tryOrders_168 : decode mX2_tryOrders.2.1 168 = .ok (.invokevirtual 124, 3) := px_tab_at tX2_tryOrders_ok 86 (e := (168, 3, .invokevirtual 124, 0, 0, .null)) rfl
theorem eX2_tryOrders_192 : decode mX2_tryOrders.2.1 192 = .ok (.invokevirtual 132, 3) := px_tab_at tX2_tryOrders_ok 104 (e := (192, 3, .invokevirtual 132, 0, 0, .null)) rfl
theorem eX2_tryOrders_198 : decode mX2_tryOrders.2.1 198 = .ok (.goto (-104), 3) := px_tab_at tX2_tryOrders_ok 106 (e := (198, 3, .goto (-104), 0, 0, .null)) rfl
theorem eX2_tryOrders_201 : decode mX2_tryOrders.2.1 201 = .ok (.return_, 1) := px_tab_at tX2_tryOrders_ok 107 (e := (201, 1, .return_, 0, 0, .null)) rfl
theorem eX2_weighOrder_5 : decode mX2_weighOrder.2.1 5 = .ok (.if_icmp .le 22, 3) := px_tab_at tX2_weighOrder_ok 3 (e := (5, 3, .if_icmp .le 22, 0, 0, .null)) rfl
theorem eX2_weighOrder_24 : decode mX2_weighOrder.2.1 24 = .ok (.invokestatic 91, 3) := px_tab_at tX2_weighOrder_ok 14 (e := (24, 3, .invokestatic 91, 0, 0, .null)) rfl
theorem eX2_weighOrder_27 : decode mX2_weighOrder.2.1 27 = .ok (.return_, 1) := px_tab_at tX2_weighOrder_ok 15 (e := (27, 1, .return_, 0, 0, .null)) rfl
theorem eX2_hoursUntilOver_5 : decode mX2_hoursUntilOver.2.1 5 = .ok (.invokevirtual 97, 3) := px_tab_at tX2_hoursUntilOver_ok 3 (e := (5, 3, .invokevirtual 97, 0, 0, .null)) rfl
theorem eX2_hoursUntilOver_38 : decode mX2_hoursUntilOver.2.1 38 = .ok (.invokevirtual 159, 3) := px_tab_at tX2_hoursUntilOver_ok 20 (e := (38, 3, .invokevirtual 159, 0, 0, .null)) rfl
theorem eX2_hoursUntilOver_41 : decode mX2_hoursUntilOver.2.1 41 = .ok (.ireturn, 1) := px_tab_at tX2_hoursUntilOver_ok 21 (e := (41, 1, .ireturn, 0, 0, .null)) rfl
theorem eX2_latestStart_8 : decode mX2_latestStart.2.1 8 = .ok (.invokevirtual 97, 3) := px_tab_at tX2_latestStart_ok 5 (e := (8, 3, .invokevirtual 97, 0, 0, .null)) rfl
theorem eX2_latestStart_18 : decode mX2_latestStart.2.1 18 = .ok (.if_icmp .gt 120, 3) := px_tab_at tX2_latestStart_ok 10 (e := (18, 3, .if_icmp .gt 120, 0, 0, .null)) rfl
theorem eX2_latestStart_38 : decode mX2_latestStart.2.1 38 = .ok (.if_icmp .ge 100, 3) := px_tab_at tX2_latestStart_ok 18 (e := (38, 3, .if_icmp .ge 100, 0, 0, .null)) rfl
theorem eX2_latestStart_49 : decode mX2_latestStart.2.1 49 = .ok (.invokevirtual 97, 3) := px_tab_at tX2_latestStart_ok 23 (e := (49, 3, .invokevirtual 97, 0, 0, .null)) rfl
theorem eX2_latestStart_98 : decode mX2_latestStart.2.1 98 = .ok (.invokevirtual 159, 3) := px_tab_at tX2_latestStart_ok 47 (e := (98, 3, .invokevirtual 159, 0, 0, .null)) rfl
theorem eX2_latestStart_103 : decode mX2_latestStart.2.1 103 = .ok (.if_icmp .eq 6, 3) := px_tab_at tX2_latestStart_ok 49 (e := (103, 3, .if_icmp .eq 6, 0, 0, .null)) rfl
theorem eX2_latestStart_129 : decode mX2_latestStart.2.1 129 = .ok (.invokevirtual 146, 3) := px_tab_at tX2_latestStart_ok 62 (e := (129, 3, .invokevirtual 146, 0, 0, .null)) rfl
theorem eX2_latestStart_135 : decode mX2_latestStart.2.1 135 = .ok (.goto (-121), 3) := px_tab_at tX2_latestStart_ok 64 (e := (135, 3, .goto (-121), 0, 0, .null)) rfl
theorem eX2_latestStart_139 : decode mX2_latestStart.2.1 139 = .ok (.ireturn, 1) := px_tab_at tX2_latestStart_ok 66 (e := (139, 1, .ireturn, 0, 0, .null)) rfl
theorem eX2_seedsOver_10 : decode mX2_seedsOver.2.1 10 = .ok (.if_icmp .ge 81, 3) := px_tab_at tX2_seedsOver_ok 6 (e := (10, 3, .if_icmp .ge 81, 0, 0, .null)) rfl
theorem eX2_seedsOver_18 : decode mX2_seedsOver.2.1 18 = .ok (.invokevirtual 97, 3) := px_tab_at tX2_seedsOver_ok 10 (e := (18, 3, .invokevirtual 97, 0, 0, .null)) rfl
theorem eX2_seedsOver_32 : decode mX2_seedsOver.2.1 32 = .ok (.if_icmp .ne 14, 3) := px_tab_at tX2_seedsOver_ok 17 (e := (32, 3, .if_icmp .ne 14, 0, 0, .null)) rfl
theorem eX2_seedsOver_69 : decode mX2_seedsOver.2.1 69 = .ok (.invokevirtual 159, 3) := px_tab_at tX2_seedsOver_ok 37 (e := (69, 3, .invokevirtual 159, 0, 0, .null)) rfl
theorem eX2_seedsOver_74 : decode mX2_seedsOver.2.1 74 = .ok (.if_icmp .ne 7, 3) := px_tab_at tX2_seedsOver_ok 39 (e := (74, 3, .if_icmp .ne 7, 0, 0, .null)) rfl
theorem eX2_seedsOver_78 : decode mX2_seedsOver.2.1 78 = .ok (.goto 4, 3) := px_tab_at tX2_seedsOver_ok 41 (e := (78, 3, .goto 4, 0, 0, .null)) rfl
theorem eX2_seedsOver_88 : decode mX2_seedsOver.2.1 88 = .ok (.goto (-82), 3) := px_tab_at tX2_seedsOver_ok 46 (e := (88, 3, .goto (-82), 0, 0, .null)) rfl
theorem eX2_seedsOver_93 : decode mX2_seedsOver.2.1 93 = .ok (.ireturn, 1) := px_tab_at tX2_seedsOver_ok 48 (e := (93, 1, .ireturn, 0, 0, .null)) rfl
theorem eX2_hoursOnTheWay_6 : decode mX2_hoursOnTheWay.2.1 6 = .ok (.if_icmp .gt 47, 3) := px_tab_at tX2_hoursOnTheWay_ok 4 (e := (6, 3, .if_icmp .gt 47, 0, 0, .null)) rfl
theorem eX2_hoursOnTheWay_17 : decode mX2_hoursOnTheWay.2.1 17 = .ok (.if_icmp .eq 36, 3) := px_tab_at tX2_hoursOnTheWay_ok 10 (e := (17, 3, .if_icmp .eq 36, 0, 0, .null)) rfl
theorem eX2_hoursOnTheWay_28 : decode mX2_hoursOnTheWay.2.1 28 = .ok (.if_icmp .ne 6, 3) := px_tab_at tX2_hoursOnTheWay_ok 16 (e := (28, 3, .if_icmp .ne 6, 0, 0, .null)) rfl
theorem eX2_hoursOnTheWay_33 : decode mX2_hoursOnTheWay.2.1 33 = .ok (.ireturn, 1) := px_tab_at tX2_hoursOnTheWay_ok 18 (e := (33, 1, .ireturn, 0, 0, .null)) rfl
theorem eX2_hoursOnTheWay_44 : decode mX2_hoursOnTheWay.2.1 44 = .ok (.invokevirtual 146, 3) := px_tab_at tX2_hoursOnTheWay_ok 25 (e := (44, 3, .invokevirtual 146, 0, 0, .null)) rfl
theorem eX2_hoursOnTheWay_50 : decode mX2_hoursOnTheWay.2.1 50 = .ok (.goto (-47), 3) := px_tab_at tX2_hoursOnTheWay_ok 27 (e := (50, 3, .goto (-47), 0, 0, .null)) rfl
theorem eX2_hoursOnTheWay_55 : decode mX2_hoursOnTheWay.2.1 55 = .ok (.ireturn, 1) := px_tab_at tX2_hoursOnTheWay_ok 29 (e := (55, 1, .ireturn, 0, 0, .null)) rfl
theorem eX3_init_1 : decode mX3_init.2.1 1 = .ok (.invokespecial 3, 3) := px_tab_at tX3_init_ok 1 (e := (1, 3, .invokespecial 3, 0, 0, .null)) rfl
theorem eX3_init_13 : decode mX3_init.2.1 13 = .ok (.newarray .byte, 2) := px_tab_at tX3_init_ok 7 (e := (13, 2, .newarray .byte, 0, 0, .null)) rfl
set_option maxRecDepth 100000 in
theorem eX3_init_15 : decode mX3_init.2.1 15 = .ok (.putfield 15, 3) := by decide +kernel
theorem eX3_init_21 : decode mX3_init.2.1 21 = .ok (.newarray .long, 2) := px_tab_at tX3_init_ok 10 (e := (21, 2, .newarray .long, 0, 0, .null)) rfl
set_option maxRecDepth 100000 in
theorem eX3_init_23 : decode mX3_init.2.1 23 = .ok (.putfield 19, 3) := by decide +kernel
theorem eX3_init_30 : decode mX3_init.2.1 30 = .ok (.newarray .int, 2) := px_tab_at tX3_init_ok 13 (e := (30, 2, .newarray .int, 0, 0, .null)) rfl
set_option maxRecDepth 100000 in
theorem eX3_init_32 : decode mX3_init.2.1 32 = .ok (.putfield 23, 3) := by decide +kernel
theorem eX3_init_39 : decode mX3_init.2.1 39 = .ok (.newarray .int, 2) := px_tab_at tX3_init_ok 16 (e := (39, 2, .newarray .int, 0, 0, .null)) rfl
set_option maxRecDepth 100000 in
theorem eX3_init_41 : decode mX3_init.2.1 41 = .ok (.putfield 27, 3) := by decide +kernel
theorem eX3_init_48 : decode mX3_init.2.1 48 = .ok (.newarray .long, 2) := px_tab_at tX3_init_ok 19 (e := (48, 2, .newarray .long, 0, 0, .null)) rfl
set_option maxRecDepth 100000 in
theorem eX3_init_50 : decode mX3_init.2.1 50 = .ok (.putfield 30, 3) := by decide +kernel
set_option maxRecDepth 100000 in
theorem eX3_init_58 : decode mX3_init.2.1 58 = .ok (.ldc 33, 2) := by decide +kernel
theorem eX3_init_60 : decode mX3_init.2.1 60 = .ok (.invokevirtual 35, 3) := px_tab_at tX3_init_ok 25 (e := (60, 3, .invokevirtual 35, 0, 0, .null)) rfl
theorem eX3_init_63 : decode mX3_init.2.1 63 = .ok (.if_icmp .ge 50, 3) := px_tab_at tX3_init_ok 26 (e := (63, 3, .if_icmp .ge 50, 0, 0, .null)) rfl
set_option maxRecDepth 100000 in
theorem eX3_init_66 : decode mX3_init.2.1 66 = .ok (.ldc 33, 2) := by decide +kernel
theorem eX3_init_69 : decode mX3_init.2.1 69 = .ok (.invokevirtual 41, 3) := px_tab_at tX3_init_ok 28 (e := (69, 3, .invokevirtual 41, 0, 0, .null)) rfl
theorem eX3_init_76 : decode mX3_init.2.1 76 = .ok (.if_icmp .ne 9, 3) := px_tab_at tX3_init_ok 32 (e := (76, 3, .if_icmp .ne 9, 0, 0, .null)) rfl
theorem eX3_init_82 : decode mX3_init.2.1 82 = .ok (.goto 25, 3) := px_tab_at tX3_init_ok 34 (e := (82, 3, .goto 25, 0, 0, .null)) rfl
theorem eX3_init_88 : decode mX3_init.2.1 88 = .ok (.if_icmp .ge 19, 3) := px_tab_at tX3_init_ok 37 (e := (88, 3, .if_icmp .ge 19, 0, 0, .null)) rfl
theorem eX3_init_103 : decode mX3_init.2.1 103 = .ok (.invokestatic 45, 3) := px_tab_at tX3_init_ok 46 (e := (103, 3, .invokestatic 45, 0, 0, .null)) rfl
theorem eX3_init_110 : decode mX3_init.2.1 110 = .ok (.goto (-53), 3) := px_tab_at tX3_init_ok 49 (e := (110, 3, .goto (-53), 0, 0, .null)) rfl
theorem eX3_init_113 : decode mX3_init.2.1 113 = .ok (.return_, 1) := px_tab_at tX3_init_ok 50 (e := (113, 1, .return_, 0, 0, .null)) rfl
theorem eX3_withLetter_11 : decode mX3_withLetter.2.1 11 = .ok (.lreturn, 1) := px_tab_at tX3_withLetter_ok 10 (e := (11, 1, .lreturn, 0, 0, .null)) rfl
theorem eX3_hasRoom_10 : decode mX3_hasRoom.2.1 10 = .ok (.if_icmp .gt 7, 3) := px_tab_at tX3_hasRoom_ok 5 (e := (10, 3, .if_icmp .gt 7, 0, 0, .null)) rfl
theorem eX3_hasRoom_14 : decode mX3_hasRoom.2.1 14 = .ok (.goto 4, 3) := px_tab_at tX3_hasRoom_ok 7 (e := (14, 3, .goto 4, 0, 0, .null)) rfl
theorem eX3_hasRoom_18 : decode mX3_hasRoom.2.1 18 = .ok (.ireturn, 1) := px_tab_at tX3_hasRoom_ok 9 (e := (18, 1, .ireturn, 0, 0, .null)) rfl
theorem eX3_addFour_4 : decode mX3_addFour.2.1 4 = .ok (.ifCond .lt 42, 3) := px_tab_at tX3_addFour_ok 3 (e := (4, 3, .ifCond .lt 42, 0, 0, .null)) rfl
theorem eX3_addFour_14 : decode mX3_addFour.2.1 14 = .ok (.if_icmp .ge 32, 3) := px_tab_at tX3_addFour_ok 7 (e := (14, 3, .if_icmp .ge 32, 0, 0, .null)) rfl
theorem eX3_addFour_43 : decode mX3_addFour.2.1 43 = .ok (.goto (-40), 3) := px_tab_at tX3_addFour_ok 24 (e := (43, 3, .goto (-40), 0, 0, .null)) rfl
theorem eX3_addFour_46 : decode mX3_addFour.2.1 46 = .ok (.return_, 1) := px_tab_at tX3_addFour_ok 25 (e := (46, 1, .return_, 0, 0, .null)) rfl
theorem eX3_parse_9 : decode mX3_parse.2.1 9 = .ok (.invokevirtual 55, 3) := px_tab_at tX3_parse_ok 5 (e := (9, 3, .invokevirtual 55, 0, 0, .null)) rfl
theorem eX3_parse_28 : decode mX3_parse.2.1 28 = .ok (.invokevirtual 69, 3) := px_tab_at tX3_parse_ok 16 (e := (28, 3, .invokevirtual 69, 0, 0, .null)) rfl
theorem eX3_parse_37 : decode mX3_parse.2.1 37 = .ok (.if_icmp .ge 32, 3) := px_tab_at tX3_parse_ok 21 (e := (37, 3, .if_icmp .ge 32, 0, 0, .null)) rfl
theorem eX3_parse_44 : decode mX3_parse.2.1 44 = .ok (.ifCond .ne 25, 3) := px_tab_at tX3_parse_ok 24 (e := (44, 3, .ifCond .ne 25, 0, 0, .null)) rfl
theorem eX3_parse_56 : decode mX3_parse.2.1 56 = .ok (.ifCond .eq 13, 3) := px_tab_at tX3_parse_ok 30 (e := (56, 3, .ifCond .eq 13, 0, 0, .null)) rfl
theorem eX3_parse_60 : decode mX3_parse.2.1 60 = .ok (.invokevirtual 72, 3) := px_tab_at tX3_parse_ok 32 (e := (60, 3, .invokevirtual 72, 0, 0, .null)) rfl
theorem eX3_parse_66 : decode mX3_parse.2.1 66 = .ok (.goto (-33), 3) := px_tab_at tX3_parse_ok 34 (e := (66, 3, .goto (-33), 0, 0, .null)) rfl
theorem eX3_parse_73 : decode mX3_parse.2.1 73 = .ok (.invokevirtual 75, 3) := px_tab_at tX3_parse_ok 37 (e := (73, 3, .invokevirtual 75, 0, 0, .null)) rfl
theorem eX3_parse_76 : decode mX3_parse.2.1 76 = .ok (.ifCond .eq 12, 3) := px_tab_at tX3_parse_ok 38 (e := (76, 3, .ifCond .eq 12, 0, 0, .null)) rfl
theorem eX3_parse_85 : decode mX3_parse.2.1 85 = .ok (.invokevirtual 79, 3) := px_tab_at tX3_parse_ok 43 (e := (85, 3, .invokevirtual 79, 0, 0, .null)) rfl
theorem eX3_parse_92 : decode mX3_parse.2.1 92 = .ok (.ifCond .ne 26, 3) := px_tab_at tX3_parse_ok 46 (e := (92, 3, .ifCond .ne 26, 0, 0, .null)) rfl
theorem eX3_parse_99 : decode mX3_parse.2.1 99 = .ok (.ifCond .eq 19, 3) := px_tab_at tX3_parse_ok 49 (e := (99, 3, .ifCond .eq 19, 0, 0, .null)) rfl
theorem eX3_parse_122 : decode mX3_parse.2.1 122 = .ok (.ifCond .ne 8, 3) := px_tab_at tX3_parse_ok 60 (e := (122, 3, .ifCond .ne 8, 0, 0, .null)) rfl
theorem eX3_parse_134 : decode mX3_parse.2.1 134 = .ok (.ireturn, 1) := px_tab_at tX3_parse_ok 66 (e := (134, 1, .ireturn, 0, 0, .null)) rfl
theorem eX3_scanTape_7 : decode mX3_scanTape.2.1 7 = .ok (.invokevirtual 89, 3) := px_tab_at tX3_scanTape_ok 5 (e := (7, 3, .invokevirtual 89, 0, 0, .null)) rfl
theorem eX3_scanTape_16 : decode mX3_scanTape.2.1 16 = .ok (.if_icmp .ge 46, 3) := px_tab_at tX3_scanTape_ok 10 (e := (16, 3, .if_icmp .ge 46, 0, 0, .null)) rfl
theorem eX3_scanTape_26 : decode mX3_scanTape.2.1 26 = .ok (.if_icmp .gt 36, 3) := px_tab_at tX3_scanTape_ok 14 (e := (26, 3, .if_icmp .gt 36, 0, 0, .null)) rfl
theorem eX3_scanTape_42 : decode mX3_scanTape.2.1 42 = .ok (.invokevirtual 93, 3) := px_tab_at tX3_scanTape_ok 24 (e := (42, 3, .invokevirtual 93, 0, 0, .null)) rfl
theorem eX3_scanTape_45 : decode mX3_scanTape.2.1 45 = .ok (.invokevirtual 89, 3) := px_tab_at tX3_scanTape_ok 25 (e := (45, 3, .invokevirtual 89, 0, 0, .null)) rfl
theorem eX3_scanTape_59 : decode mX3_scanTape.2.1 59 = .ok (.goto (-48), 3) := px_tab_at tX3_scanTape_ok 33 (e := (59, 3, .goto (-48), 0, 0, .null)) rfl
theorem eX3_scanTape_85 : decode mX3_scanTape.2.1 85 = .ok (.return_, 1) := px_tab_at tX3_scanTape_ok 47 (e := (85, 1, .return_, 0, 0, .null)) rfl
theorem eX3_behindBlanks_7 : decode mX3_behindBlanks.2.1 7 = .ok (.if_icmp .ge 53, 3) := px_tab_at tX3_behindBlanks_ok 5 (e := (7, 3, .if_icmp .ge 53, 0, 0, .null)) rfl
theorem eX3_behindBlanks_18 : decode mX3_behindBlanks.2.1 18 = .ok (.if_icmp .eq 36, 3) := px_tab_at tX3_behindBlanks_ok 11 (e := (18, 3, .if_icmp .eq 36, 0, 0, .null)) rfl
theorem eX3_behindBlanks_29 : decode mX3_behindBlanks.2.1 29 = .ok (.if_icmp .eq 25, 3) := px_tab_at tX3_behindBlanks_ok 17 (e := (29, 3, .if_icmp .eq 25, 0, 0, .null)) rfl
theorem eX3_behindBlanks_40 : decode mX3_behindBlanks.2.1 40 = .ok (.if_icmp .eq 14, 3) := px_tab_at tX3_behindBlanks_ok 23 (e := (40, 3, .if_icmp .eq 14, 0, 0, .null)) rfl
theorem eX3_behindBlanks_51 : decode mX3_behindBlanks.2.1 51 = .ok (.if_icmp .ne 9, 3) := px_tab_at tX3_behindBlanks_ok 29 (e := (51, 3, .if_icmp .ne 9, 0, 0, .null)) rfl
theorem eX3_behindBlanks_57 : decode mX3_behindBlanks.2.1 57 = .ok (.goto (-55), 3) := px_tab_at tX3_behindBlanks_ok 31 (e := (57, 3, .goto (-55), 0, 0, .null)) rfl
theorem eX3_behindBlanks_61 : decode mX3_behindBlanks.2.1 61 = .ok (.ireturn, 1) := px_tab_at tX3_behindBlanks_ok 33 (e := (61, 1, .ireturn, 0, 0, .null)) rfl
theorem eX3_scanToken_2 : decode mX3_scanToken.2.1 2 = .ok (.invokevirtual 96, 3) := px_tab_at tX3_scanToken_ok 2 (e := (2, 3, .invokevirtual 96, 0, 0, .null)) rfl
theorem eX3_scanToken_5 : decode mX3_scanToken.2.1 5 = .ok (.ifCond .eq 9, 3) := px_tab_at tX3_scanToken_ok 3 (e := (5, 3, .ifCond .eq 9, 0, 0, .null)) rfl
theorem eX3_scanToken_10 : decode mX3_scanToken.2.1 10 = .ok (.invokevirtual 100, 3) := px_tab_at tX3_scanToken_ok 6 (e := (10, 3, .invokevirtual 100, 0, 0, .null)) rfl
theorem eX3_scanToken_13 : decode mX3_scanToken.2.1 13 = .ok (.ireturn, 1) := px_tab_at tX3_scanToken_ok 7 (e := (13, 1, .ireturn, 0, 0, .null)) rfl
theorem eX3_scanToken_16 : decode mX3_scanToken.2.1 16 = .ok (.invokevirtual 103, 3) := px_tab_at tX3_scanToken_ok 10 (e := (16, 3, .invokevirtual 103, 0, 0, .null)) rfl
theorem eX3_scanToken_19 : decode mX3_scanToken.2.1 19 = .ok (.ifCond .eq 9, 3) := px_tab_at tX3_scanToken_ok 11 (e := (19, 3, .ifCond .eq 9, 0, 0, .null)) rfl
theorem eX3_scanToken_24 : decode mX3_scanToken.2.1 24 = .ok (.invokevirtual 106, 3) := px_tab_at tX3_scanToken_ok 14 (e := (24, 3, .invokevirtual 106, 0, 0, .null)) rfl
theorem eX3_scanToken_27 : decode mX3_scanToken.2.1 27 = .ok (.ireturn, 1) := px_tab_at tX3_scanToken_ok 15 (e := (27, 1, .ireturn, 0, 0, .null)) rfl
theorem eX3_scanToken_42 : decode mX3_scanToken.2.1 42 = .ok (.ifCond .le 27, 3) := px_tab_at tX3_scanToken_ok 24 (e := (42, 3, .ifCond .le 27, 0, 0, .null)) rfl
set_option maxRecDepth 100000 in
theorem eX3_scanToken_45 : decode mX3_scanToken.2.1 45 = .ok (.ldc 109, 2) := by decide +kernel
theorem eX3_scanToken_54 : decode mX3_scanToken.2.1 54 = .ok (.invokevirtual 111, 3) := px_tab_at tX3_scanToken_ok 30 (e := (54, 3, .invokevirtual 111, 0, 0, .null)) rfl
theorem eX3_scanToken_57 : decode mX3_scanToken.2.1 57 = .ok (.ifCond .lt 12, 3) := px_tab_at tX3_scanToken_ok 31 (e := (57, 3, .ifCond .lt 12, 0, 0, .null)) rfl
theorem eX3_scanToken_66 : decode mX3_scanToken.2.1 66 = .ok (.goto 4, 3) := px_tab_at tX3_scanToken_ok 36 (e := (66, 3, .goto 4, 0, 0, .null)) rfl
theorem eX3_scanToken_74 : decode mX3_scanToken.2.1 74 = .ok (.ireturn, 1) := px_tab_at tX3_scanToken_ok 42 (e := (74, 1, .ireturn, 0, 0, .null)) rfl
theorem eX3_isLetter_5 : decode mX3_isLetter.2.1 5 = .ok (.if_icmp .ge 29, 3) := px_tab_at tX3_isLetter_ok 3 (e := (5, 3, .if_icmp .ge 29, 0, 0, .null)) rfl
theorem eX3_isLetter_16 : decode mX3_isLetter.2.1 16 = .ok (.if_icmp .lt 18, 3) := px_tab_at tX3_isLetter_ok 9 (e := (16, 3, .if_icmp .lt 18, 0, 0, .null)) rfl
theorem eX3_isLetter_27 : decode mX3_isLetter.2.1 27 = .ok (.if_icmp .gt 7, 3) := px_tab_at tX3_isLetter_ok 15 (e := (27, 3, .if_icmp .gt 7, 0, 0, .null)) rfl
theorem eX3_isLetter_31 : decode mX3_isLetter.2.1 31 = .ok (.goto 4, 3) := px_tab_at tX3_isLetter_ok 17 (e := (31, 3, .goto 4, 0, 0, .null)) rfl
theorem eX3_isLetter_35 : decode mX3_isLetter.2.1 35 = .ok (.ireturn, 1) := px_tab_at tX3_isLetter_ok 19 (e := (35, 1, .ireturn, 0, 0, .null)) rfl
theorem eX3_isDigit_5 : decode mX3_isDigit.2.1 5 = .ok (.if_icmp .ge 29, 3) := px_tab_at tX3_isDigit_ok 3 (e := (5, 3, .if_icmp .ge 29, 0, 0, .null)) rfl
theorem eX3_isDigit_16 : decode mX3_isDigit.2.1 16 = .ok (.if_icmp .lt 18, 3) := px_tab_at tX3_isDigit_ok 9 (e := (16, 3, .if_icmp .lt 18, 0, 0, .null)) rfl
theorem eX3_isDigit_27 : decode mX3_isDigit.2.1 27 = .ok (.if_icmp .gt 7, 3) := px_tab_at tX3_isDigit_ok 15 (e := (27, 3, .if_icmp .gt 7, 0, 0, .null)) rfl
theorem eX3_isDigit_31 : decode mX3_isDigit.2.1 31 = .ok (.goto 4, 3) := px_tab_at tX3_isDigit_ok 17 (e := (31, 3, .goto 4, 0, 0, .null)) rfl
theorem eX3_isDigit_35 : decode mX3_isDigit.2.1 35 = .ok (.ireturn, 1) := px_tab_at tX3_isDigit_ok 19 (e := (35, 1, .ireturn, 0, 0, .null)) rfl
theorem eX3_scanWord_11 : decode mX3_scanWord.2.1 11 = .ok (.if_icmp .ge 30, 3) := px_tab_at tX3_scanWord_ok 7 (e := (11, 3, .if_icmp .ge 30, 0, 0, .null)) rfl
theorem eX3_scanWord_17 : decode mX3_scanWord.2.1 17 = .ok (.invokevirtual 96, 3) := px_tab_at tX3_scanWord_ok 10 (e := (17, 3, .invokevirtual 96, 0, 0, .null)) rfl
theorem eX3_scanWord_20 : decode mX3_scanWord.2.1 20 = .ok (.ifCond .eq 21, 3) := px_tab_at tX3_scanWord_ok 11 (e := (20, 3, .ifCond .eq 21, 0, 0, .null)) rfl
theorem eX3_scanWord_31 : decode mX3_scanWord.2.1 31 = .ok (.invokestatic 45, 3) := px_tab_at tX3_scanWord_ok 17 (e := (31, 3, .invokestatic 45, 0, 0, .null)) rfl
theorem eX3_scanWord_38 : decode mX3_scanWord.2.1 38 = .ok (.goto (-33), 3) := px_tab_at tX3_scanWord_ok 20 (e := (38, 3, .goto (-33), 0, 0, .null)) rfl
theorem eX3_scanWord_65 : decode mX3_scanWord.2.1 65 = .ok (.if_icmp .le 7, 3) := px_tab_at tX3_scanWord_ok 35 (e := (65, 3, .if_icmp .le 7, 0, 0, .null)) rfl
theorem eX3_scanWord_69 : decode mX3_scanWord.2.1 69 = .ok (.goto 4, 3) := px_tab_at tX3_scanWord_ok 37 (e := (69, 3, .goto 4, 0, 0, .null)) rfl
theorem eX3_scanWord_81 : decode mX3_scanWord.2.1 81 = .ok (.if_icmp .ge 45, 3) := px_tab_at tX3_scanWord_ok 44 (e := (81, 3, .if_icmp .ge 45, 0, 0, .null)) rfl
theorem eX3_scanWord_90 : decode mX3_scanWord.2.1 90 = .ok (.if_icmp .gt 36, 3) := px_tab_at tX3_scanWord_ok 49 (e := (90, 3, .if_icmp .gt 36, 0, 0, .null)) rfl
theorem eX3_scanWord_102 : decode mX3_scanWord.2.1 102 = .ok (.ifCond .ne 18, 3) := px_tab_at tX3_scanWord_ok 56 (e := (102, 3, .ifCond .ne 18, 0, 0, .null)) rfl
theorem eX3_scanWord_123 : decode mX3_scanWord.2.1 123 = .ok (.goto (-46), 3) := px_tab_at tX3_scanWord_ok 66 (e := (123, 3, .goto (-46), 0, 0, .null)) rfl
theorem eX3_scanWord_128 : decode mX3_scanWord.2.1 128 = .ok (.ireturn, 1) := px_tab_at tX3_scanWord_ok 68 (e := (128, 1, .ireturn, 0, 0, .null)) rfl
theorem eX3_scanInt_9 : decode mX3_scanInt.2.1 9 = .ok (.if_icmp .ge 32, 3) := px_tab_at tX3_scanInt_ok 7 (e := (9, 3, .if_icmp .ge 32, 0, 0, .null)) rfl
theorem eX3_scanInt_14 : decode mX3_scanInt.2.1 14 = .ok (.invokevirtual 103, 3) := px_tab_at tX3_scanInt_ok 10 (e := (14, 3, .invokevirtual 103, 0, 0, .null)) rfl
theorem eX3_scanInt_17 : decode mX3_scanInt.2.1 17 = .ok (.ifCond .eq 24, 3) := px_tab_at tX3_scanInt_ok 11 (e := (17, 3, .ifCond .eq 24, 0, 0, .null)) rfl
theorem eX3_scanInt_38 : decode mX3_scanInt.2.1 38 = .ok (.goto (-34), 3) := px_tab_at tX3_scanInt_ok 24 (e := (38, 3, .goto (-34), 0, 0, .null)) rfl
theorem eX3_scanInt_64 : decode mX3_scanInt.2.1 64 = .ok (.if_icmp .le 7, 3) := px_tab_at tX3_scanInt_ok 40 (e := (64, 3, .if_icmp .le 7, 0, 0, .null)) rfl
theorem eX3_scanInt_68 : decode mX3_scanInt.2.1 68 = .ok (.goto 4, 3) := px_tab_at tX3_scanInt_ok 42 (e := (68, 3, .goto 4, 0, 0, .null)) rfl
theorem eX3_scanInt_74 : decode mX3_scanInt.2.1 74 = .ok (.ireturn, 1) := px_tab_at tX3_scanInt_ok 46 (e := (74, 1, .ireturn, 0, 0, .null)) rfl
theorem eX3_take_4 : decode mX3_take.2.1 4 = .ok (.ifCond .eq 4, 3) := px_tab_at tX3_take_ok 2 (e := (4, 3, .ifCond .eq 4, 0, 0, .null)) rfl
theorem eX3_take_7 : decode mX3_take.2.1 7 = .ok (.return_, 1) := px_tab_at tX3_take_ok 3 (e := (7, 1, .return_, 0, 0, .null)) rfl
theorem eX3_take_18 : decode mX3_take.2.1 18 = .ok (.if_icmp .ne 26, 3) := px_tab_at tX3_take_ok 10 (e := (18, 3, .if_icmp .ne 26, 0, 0, .null)) rfl
theorem eX3_take_28 : decode mX3_take.2.1 28 = .ok (.if_icmp .ge 16, 3) := px_tab_at tX3_take_ok 14 (e := (28, 3, .if_icmp .ge 16, 0, 0, .null)) rfl
theorem eX3_take_41 : decode mX3_take.2.1 41 = .ok (.goto 38, 3) := px_tab_at tX3_take_ok 21 (e := (41, 3, .goto 38, 0, 0, .null)) rfl
theorem eX3_take_55 : decode mX3_take.2.1 55 = .ok (.if_icmp .ne 7, 3) := px_tab_at tX3_take_ok 29 (e := (55, 3, .if_icmp .ne 7, 0, 0, .null)) rfl
theorem eX3_take_59 : decode mX3_take.2.1 59 = .ok (.goto 4, 3) := px_tab_at tX3_take_ok 31 (e := (59, 3, .goto 4, 0, 0, .null)) rfl
theorem eX3_take_79 : decode mX3_take.2.1 79 = .ok (.return_, 1) := px_tab_at tX3_take_ok 41 (e := (79, 1, .return_, 0, 0, .null)) rfl
theorem eX3_fail_4 : decode mX3_fail.2.1 4 = .ok (.ifCond .ne 21, 3) := px_tab_at tX3_fail_ok 2 (e := (4, 3, .ifCond .ne 21, 0, 0, .null)) rfl
theorem eX3_fail_25 : decode mX3_fail.2.1 25 = .ok (.return_, 1) := px_tab_at tX3_fail_ok 13 (e := (25, 1, .return_, 0, 0, .null)) rfl
theorem eX3_noteLater_4 : decode mX3_noteLater.2.1 4 = .ok (.ifCond .ne 13, 3) := px_tab_at tX3_noteLater_ok 2 (e := (4, 3, .ifCond .ne 13, 0, 0, .null)) rfl
theorem eX3_noteLater_17 : decode mX3_noteLater.2.1 17 = .ok (.return_, 1) := px_tab_at tX3_noteLater_ok 9 (e := (17, 1, .return_, 0, 0, .null)) rfl
theorem eX3_sees_4 : decode mX3_sees.2.1 4 = .ok (.ifCond .ne 20, 3) := px_tab_at tX3_sees_ok 2 (e := (4, 3, .ifCond .ne 20, 0, 0, .null)) rfl
theorem eX3_sees_17 : decode mX3_sees.2.1 17 = .ok (.if_icmp .ne 7, 3) := px_tab_at tX3_sees_ok 9 (e := (17, 3, .if_icmp .ne 7, 0, 0, .null)) rfl
theorem eX3_sees_21 : decode mX3_sees.2.1 21 = .ok (.goto 4, 3) := px_tab_at tX3_sees_ok 11 (e := (21, 3, .goto 4, 0, 0, .null)) rfl
theorem eX3_sees_25 : decode mX3_sees.2.1 25 = .ok (.ireturn, 1) := px_tab_at tX3_sees_ok 13 (e := (25, 1, .ireturn, 0, 0, .null)) rfl
theorem eX3_parseTell_14 : decode mX3_parseTell.2.1 14 = .ok (.if_icmp .ne 10, 3) := px_tab_at tX3_parseTell_ok 8 (e := (14, 3, .if_icmp .ne 10, 0, 0, .null)) rfl
theorem eX3_parseTell_18 : decode mX3_parseTell.2.1 18 = .ok (.invokevirtual 114, 3) := px_tab_at tX3_parseTell_ok 10 (e := (18, 3, .invokevirtual 114, 0, 0, .null)) rfl
theorem eX3_parseTell_21 : decode mX3_parseTell.2.1 21 = .ok (.goto 58, 3) := px_tab_at tX3_parseTell_ok 11 (e := (21, 3, .goto 58, 0, 0, .null)) rfl
theorem eX3_parseTell_28 : decode mX3_parseTell.2.1 28 = .ok (.if_icmp .ne 10, 3) := px_tab_at tX3_parseTell_ok 14 (e := (28, 3, .if_icmp .ne 10, 0, 0, .null)) rfl
theorem eX3_parseTell_32 : decode mX3_parseTell.2.1 32 = .ok (.invokevirtual 117, 3) := px_tab_at tX3_parseTell_ok 16 (e := (32, 3, .invokevirtual 117, 0, 0, .null)) rfl
theorem eX3_parseTell_35 : decode mX3_parseTell.2.1 35 = .ok (.goto 44, 3) := px_tab_at tX3_parseTell_ok 17 (e := (35, 3, .goto 44, 0, 0, .null)) rfl
theorem eX3_parseTell_42 : decode mX3_parseTell.2.1 42 = .ok (.if_icmp .ne 10, 3) := px_tab_at tX3_parseTell_ok 20 (e := (42, 3, .if_icmp .ne 10, 0, 0, .null)) rfl
theorem eX3_parseTell_46 : decode mX3_parseTell.2.1 46 = .ok (.invokevirtual 120, 3) := px_tab_at tX3_parseTell_ok 22 (e := (46, 3, .invokevirtual 120, 0, 0, .null)) rfl
theorem eX3_parseTell_49 : decode mX3_parseTell.2.1 49 = .ok (.goto 30, 3) := px_tab_at tX3_parseTell_ok 23 (e := (49, 3, .goto 30, 0, 0, .null)) rfl
theorem eX3_parseTell_56 : decode mX3_parseTell.2.1 56 = .ok (.if_icmp .lt 18, 3) := px_tab_at tX3_parseTell_ok 26 (e := (56, 3, .if_icmp .lt 18, 0, 0, .null)) rfl
theorem eX3_parseTell_63 : decode mX3_parseTell.2.1 63 = .ok (.if_icmp .gt 11, 3) := px_tab_at tX3_parseTell_ok 29 (e := (63, 3, .if_icmp .gt 11, 0, 0, .null)) rfl
theorem eX3_parseTell_68 : decode mX3_parseTell.2.1 68 = .ok (.invokevirtual 123, 3) := px_tab_at tX3_parseTell_ok 32 (e := (68, 3, .invokevirtual 123, 0, 0, .null)) rfl
theorem eX3_parseTell_71 : decode mX3_parseTell.2.1 71 = .ok (.goto 8, 3) := px_tab_at tX3_parseTell_ok 33 (e := (71, 3, .goto 8, 0, 0, .null)) rfl
theorem eX3_parseTell_76 : decode mX3_parseTell.2.1 76 = .ok (.invokevirtual 127, 3) := px_tab_at tX3_parseTell_ok 36 (e := (76, 3, .invokevirtual 127, 0, 0, .null)) rfl
theorem eX3_parseTell_82 : decode mX3_parseTell.2.1 82 = .ok (.invokevirtual 130, 3) := px_tab_at tX3_parseTell_ok 39 (e := (82, 3, .invokevirtual 130, 0, 0, .null)) rfl
theorem eX3_parseTell_85 : decode mX3_parseTell.2.1 85 = .ok (.return_, 1) := px_tab_at tX3_parseTell_ok 40 (e := (85, 1, .return_, 0, 0, .null)) rfl
theorem eX3_parseNumber_4 : decode mX3_parseNumber.2.1 4 = .ok (.if_icmp .ne 24, 3) := px_tab_at tX3_parseNumber_ok 2 (e := (4, 3, .if_icmp .ne 24, 0, 0, .null)) rfl
theorem eX3_parseNumber_9 : decode mX3_parseNumber.2.1 9 = .ok (.invokevirtual 130, 3) := px_tab_at tX3_parseNumber_ok 5 (e := (9, 3, .invokevirtual 130, 0, 0, .null)) rfl
theorem eX3_parseNumber_19 : decode mX3_parseNumber.2.1 19 = .ok (.invokevirtual 133, 3) := px_tab_at tX3_parseNumber_ok 11 (e := (19, 3, .invokevirtual 133, 0, 0, .null)) rfl
theorem eX3_parseNumber_25 : decode mX3_parseNumber.2.1 25 = .ok (.goto 96, 3) := px_tab_at tX3_parseNumber_ok 13 (e := (25, 3, .goto 96, 0, 0, .null)) rfl
theorem eX3_parseNumber_32 : decode mX3_parseNumber.2.1 32 = .ok (.if_icmp .ne 25, 3) := px_tab_at tX3_parseNumber_ok 16 (e := (32, 3, .if_icmp .ne 25, 0, 0, .null)) rfl
theorem eX3_parseNumber_37 : decode mX3_parseNumber.2.1 37 = .ok (.invokevirtual 130, 3) := px_tab_at tX3_parseNumber_ok 19 (e := (37, 3, .invokevirtual 130, 0, 0, .null)) rfl
theorem eX3_parseNumber_48 : decode mX3_parseNumber.2.1 48 = .ok (.invokevirtual 133, 3) := px_tab_at tX3_parseNumber_ok 25 (e := (48, 3, .invokevirtual 133, 0, 0, .null)) rfl
theorem eX3_parseNumber_54 : decode mX3_parseNumber.2.1 54 = .ok (.goto 67, 3) := px_tab_at tX3_parseNumber_ok 27 (e := (54, 3, .goto 67, 0, 0, .null)) rfl
theorem eX3_parseNumber_61 : decode mX3_parseNumber.2.1 61 = .ok (.if_icmp .ne 25, 3) := px_tab_at tX3_parseNumber_ok 30 (e := (61, 3, .if_icmp .ne 25, 0, 0, .null)) rfl
theorem eX3_parseNumber_66 : decode mX3_parseNumber.2.1 66 = .ok (.invokevirtual 130, 3) := px_tab_at tX3_parseNumber_ok 33 (e := (66, 3, .invokevirtual 130, 0, 0, .null)) rfl
theorem eX3_parseNumber_77 : decode mX3_parseNumber.2.1 77 = .ok (.invokevirtual 133, 3) := px_tab_at tX3_parseNumber_ok 39 (e := (77, 3, .invokevirtual 133, 0, 0, .null)) rfl
theorem eX3_parseNumber_83 : decode mX3_parseNumber.2.1 83 = .ok (.goto 38, 3) := px_tab_at tX3_parseNumber_ok 41 (e := (83, 3, .goto 38, 0, 0, .null)) rfl
theorem eX3_parseNumber_90 : decode mX3_parseNumber.2.1 90 = .ok (.if_icmp .ne 26, 3) := px_tab_at tX3_parseNumber_ok 44 (e := (90, 3, .if_icmp .ne 26, 0, 0, .null)) rfl
theorem eX3_parseNumber_95 : decode mX3_parseNumber.2.1 95 = .ok (.invokevirtual 130, 3) := px_tab_at tX3_parseNumber_ok 47 (e := (95, 3, .invokevirtual 130, 0, 0, .null)) rfl
theorem eX3_parseNumber_107 : decode mX3_parseNumber.2.1 107 = .ok (.invokevirtual 133, 3) := px_tab_at tX3_parseNumber_ok 53 (e := (107, 3, .invokevirtual 133, 0, 0, .null)) rfl
theorem eX3_parseNumber_113 : decode mX3_parseNumber.2.1 113 = .ok (.goto 8, 3) := px_tab_at tX3_parseNumber_ok 55 (e := (113, 3, .goto 8, 0, 0, .null)) rfl
theorem eX3_parseNumber_118 : decode mX3_parseNumber.2.1 118 = .ok (.invokevirtual 149, 3) := px_tab_at tX3_parseNumber_ok 58 (e := (118, 3, .invokevirtual 149, 0, 0, .null)) rfl
theorem eX3_parseNumber_121 : decode mX3_parseNumber.2.1 121 = .ok (.return_, 1) := px_tab_at tX3_parseNumber_ok 59 (e := (121, 1, .return_, 0, 0, .null)) rfl
theorem eX3_parseSleeper_11 : decode mX3_parseSleeper.2.1 11 = .ok (.if_icmp .ne 9, 3) := px_tab_at tX3_parseSleeper_ok 6 (e := (11, 3, .if_icmp .ne 9, 0, 0, .null)) rfl
theorem eX3_parseSleeper_16 : decode mX3_parseSleeper.2.1 16 = .ok (.invokevirtual 149, 3) := px_tab_at tX3_parseSleeper_ok 9 (e := (16, 3, .invokevirtual 149, 0, 0, .null)) rfl
theorem eX3_parseSleeper_19 : decode mX3_parseSleeper.2.1 19 = .ok (.return_, 1) := px_tab_at tX3_parseSleeper_ok 10 (e := (19, 1, .return_, 0, 0, .null)) rfl
theorem eX3_parseSleeper_24 : decode mX3_parseSleeper.2.1 24 = .ok (.invokevirtual 130, 3) := px_tab_at tX3_parseSleeper_ok 13 (e := (24, 3, .invokevirtual 130, 0, 0, .null)) rfl
theorem eX3_parseSleeper_36 : decode mX3_parseSleeper.2.1 36 = .ok (.invokevirtual 158, 3) := px_tab_at tX3_parseSleeper_ok 19 (e := (36, 3, .invokevirtual 158, 0, 0, .null)) rfl
theorem eX3_parseSleeper_52 : decode mX3_parseSleeper.2.1 52 = .ok (.invokevirtual 133, 3) := px_tab_at tX3_parseSleeper_ok 28 (e := (52, 3, .invokevirtual 133, 0, 0, .null)) rfl
theorem eX3_parseSleeper_68 : decode mX3_parseSleeper.2.1 68 = .ok (.invokevirtual 133, 3) := px_tab_at tX3_parseSleeper_ok 37 (e := (68, 3, .invokevirtual 133, 0, 0, .null)) rfl
theorem eX3_parseSleeper_84 : decode mX3_parseSleeper.2.1 84 = .ok (.invokevirtual 133, 3) := px_tab_at tX3_parseSleeper_ok 46 (e := (84, 3, .invokevirtual 133, 0, 0, .null)) rfl
theorem eX3_parseSleeper_99 : decode mX3_parseSleeper.2.1 99 = .ok (.invokevirtual 133, 3) := px_tab_at tX3_parseSleeper_ok 55 (e := (99, 3, .invokevirtual 133, 0, 0, .null)) rfl
theorem eX3_parseSleeper_116 : decode mX3_parseSleeper.2.1 116 = .ok (.return_, 1) := px_tab_at tX3_parseSleeper_ok 64 (e := (116, 1, .return_, 0, 0, .null)) rfl
theorem eX3_parseCrosser_10 : decode mX3_parseCrosser.2.1 10 = .ok (.if_icmp .ne 9, 3) := px_tab_at tX3_parseCrosser_ok 6 (e := (10, 3, .if_icmp .ne 9, 0, 0, .null)) rfl
theorem eX3_parseCrosser_15 : decode mX3_parseCrosser.2.1 15 = .ok (.invokevirtual 149, 3) := px_tab_at tX3_parseCrosser_ok 9 (e := (15, 3, .invokevirtual 149, 0, 0, .null)) rfl
theorem eX3_parseCrosser_18 : decode mX3_parseCrosser.2.1 18 = .ok (.return_, 1) := px_tab_at tX3_parseCrosser_ok 10 (e := (18, 1, .return_, 0, 0, .null)) rfl
theorem eX3_parseCrosser_23 : decode mX3_parseCrosser.2.1 23 = .ok (.invokevirtual 130, 3) := px_tab_at tX3_parseCrosser_ok 13 (e := (23, 3, .invokevirtual 130, 0, 0, .null)) rfl
theorem eX3_parseCrosser_35 : decode mX3_parseCrosser.2.1 35 = .ok (.invokevirtual 158, 3) := px_tab_at tX3_parseCrosser_ok 19 (e := (35, 3, .invokevirtual 158, 0, 0, .null)) rfl
theorem eX3_parseCrosser_51 : decode mX3_parseCrosser.2.1 51 = .ok (.invokevirtual 133, 3) := px_tab_at tX3_parseCrosser_ok 28 (e := (51, 3, .invokevirtual 133, 0, 0, .null)) rfl
theorem eX3_parseCrosser_67 : decode mX3_parseCrosser.2.1 67 = .ok (.invokevirtual 133, 3) := px_tab_at tX3_parseCrosser_ok 37 (e := (67, 3, .invokevirtual 133, 0, 0, .null)) rfl
theorem eX3_parseCrosser_83 : decode mX3_parseCrosser.2.1 83 = .ok (.invokevirtual 133, 3) := px_tab_at tX3_parseCrosser_ok 46 (e := (83, 3, .invokevirtual 133, 0, 0, .null)) rfl
theorem eX3_parseCrosser_100 : decode mX3_parseCrosser.2.1 100 = .ok (.return_, 1) := px_tab_at tX3_parseCrosser_ok 55 (e := (100, 1, .return_, 0, 0, .null)) rfl
theorem eX3_parsePair_9 : decode mX3_parsePair.2.1 9 = .ok (.if_icmp .ne 9, 3) := px_tab_at tX3_parsePair_ok 4 (e := (9, 3, .if_icmp .ne 9, 0, 0, .null)) rfl
theorem eX3_parsePair_14 : decode mX3_parsePair.2.1 14 = .ok (.invokevirtual 149, 3) := px_tab_at tX3_parsePair_ok 7 (e := (14, 3, .invokevirtual 149, 0, 0, .null)) rfl
theorem eX3_parsePair_17 : decode mX3_parsePair.2.1 17 = .ok (.return_, 1) := px_tab_at tX3_parsePair_ok 8 (e := (17, 1, .return_, 0, 0, .null)) rfl
theorem eX3_parsePair_22 : decode mX3_parsePair.2.1 22 = .ok (.invokevirtual 130, 3) := px_tab_at tX3_parsePair_ok 11 (e := (22, 3, .invokevirtual 130, 0, 0, .null)) rfl
theorem eX3_parsePair_26 : decode mX3_parsePair.2.1 26 = .ok (.invokevirtual 192, 3) := px_tab_at tX3_parsePair_ok 13 (e := (26, 3, .invokevirtual 192, 0, 0, .null)) rfl
theorem eX3_parsePair_41 : decode mX3_parsePair.2.1 41 = .ok (.invokevirtual 192, 3) := px_tab_at tX3_parsePair_ok 22 (e := (41, 3, .invokevirtual 192, 0, 0, .null)) rfl
theorem eX3_parsePair_47 : decode mX3_parsePair.2.1 47 = .ok (.if_icmp .eq 8, 3) := px_tab_at tX3_parsePair_ok 26 (e := (47, 3, .if_icmp .eq 8, 0, 0, .null)) rfl
theorem eX3_parsePair_52 : decode mX3_parsePair.2.1 52 = .ok (.if_icmp .ne 7, 3) := px_tab_at tX3_parsePair_ok 29 (e := (52, 3, .if_icmp .ne 7, 0, 0, .null)) rfl
theorem eX3_parsePair_56 : decode mX3_parsePair.2.1 56 = .ok (.goto 10, 3) := px_tab_at tX3_parsePair_ok 31 (e := (56, 3, .goto 10, 0, 0, .null)) rfl
theorem eX3_parsePair_70 : decode mX3_parsePair.2.1 70 = .ok (.ifCond .eq 26, 3) := px_tab_at tX3_parsePair_ok 41 (e := (70, 3, .ifCond .eq 26, 0, 0, .null)) rfl
theorem eX3_parsePair_75 : decode mX3_parsePair.2.1 75 = .ok (.if_icmp .eq 15, 3) := px_tab_at tX3_parsePair_ok 44 (e := (75, 3, .if_icmp .eq 15, 0, 0, .null)) rfl
theorem eX3_parsePair_84 : decode mX3_parsePair.2.1 84 = .ok (.invokevirtual 195, 3) := px_tab_at tX3_parsePair_ok 48 (e := (84, 3, .invokevirtual 195, 0, 0, .null)) rfl
theorem eX3_parsePair_87 : decode mX3_parsePair.2.1 87 = .ok (.ifCond .eq 9, 3) := px_tab_at tX3_parsePair_ok 49 (e := (87, 3, .ifCond .eq 9, 0, 0, .null)) rfl
theorem eX3_parsePair_93 : decode mX3_parsePair.2.1 93 = .ok (.invokevirtual 79, 3) := px_tab_at tX3_parsePair_ok 53 (e := (93, 3, .invokevirtual 79, 0, 0, .null)) rfl
theorem eX3_parsePair_126 : decode mX3_parsePair.2.1 126 = .ok (.return_, 1) := px_tab_at tX3_parsePair_ok 69 (e := (126, 1, .return_, 0, 0, .null)) rfl
theorem eX3_takeNewName_22 : decode mX3_takeNewName.2.1 22 = .ok (.invokevirtual 130, 3) := px_tab_at tX3_takeNewName_ok 14 (e := (22, 3, .invokevirtual 130, 0, 0, .null)) rfl
theorem eX3_takeNewName_29 : decode mX3_takeNewName.2.1 29 = .ok (.ifCond .ne 20, 3) := px_tab_at tX3_takeNewName_ok 17 (e := (29, 3, .ifCond .ne 20, 0, 0, .null)) rfl
theorem eX3_takeNewName_37 : decode mX3_takeNewName.2.1 37 = .ok (.invokevirtual 201, 3) := px_tab_at tX3_takeNewName_ok 21 (e := (37, 3, .invokevirtual 201, 0, 0, .null)) rfl
theorem eX3_takeNewName_40 : decode mX3_takeNewName.2.1 40 = .ok (.ifCond .eq 9, 3) := px_tab_at tX3_takeNewName_ok 22 (e := (40, 3, .ifCond .eq 9, 0, 0, .null)) rfl
theorem eX3_takeNewName_46 : decode mX3_takeNewName.2.1 46 = .ok (.invokevirtual 79, 3) := px_tab_at tX3_takeNewName_ok 26 (e := (46, 3, .invokevirtual 79, 0, 0, .null)) rfl
theorem eX3_takeNewName_50 : decode mX3_takeNewName.2.1 50 = .ok (.lreturn, 1) := px_tab_at tX3_takeNewName_ok 28 (e := (50, 1, .lreturn, 0, 0, .null)) rfl
theorem eX3_takeSleeper_13 : decode mX3_takeSleeper.2.1 13 = .ok (.invokevirtual 205, 3) := px_tab_at tX3_takeSleeper_ok 7 (e := (13, 3, .invokevirtual 205, 0, 0, .null)) rfl
theorem eX3_takeSleeper_29 : decode mX3_takeSleeper.2.1 29 = .ok (.invokevirtual 130, 3) := px_tab_at tX3_takeSleeper_ok 17 (e := (29, 3, .invokevirtual 130, 0, 0, .null)) rfl
theorem eX3_takeSleeper_34 : decode mX3_takeSleeper.2.1 34 = .ok (.if_icmp .ne 9, 3) := px_tab_at tX3_takeSleeper_ok 20 (e := (34, 3, .if_icmp .ne 9, 0, 0, .null)) rfl
theorem eX3_takeSleeper_40 : decode mX3_takeSleeper.2.1 40 = .ok (.invokevirtual 79, 3) := px_tab_at tX3_takeSleeper_ok 24 (e := (40, 3, .invokevirtual 79, 0, 0, .null)) rfl
theorem eX3_takeSleeper_44 : decode mX3_takeSleeper.2.1 44 = .ok (.ireturn, 1) := px_tab_at tX3_takeSleeper_ok 26 (e := (44, 1, .ireturn, 0, 0, .null)) rfl
theorem eX3_takeInt_24 : decode mX3_takeInt.2.1 24 = .ok (.invokevirtual 130, 3) := px_tab_at tX3_takeInt_ok 15 (e := (24, 3, .invokevirtual 130, 0, 0, .null)) rfl
theorem eX3_takeInt_29 : decode mX3_takeInt.2.1 29 = .ok (.if_icmp .lt 8, 3) := px_tab_at tX3_takeInt_ok 18 (e := (29, 3, .if_icmp .lt 8, 0, 0, .null)) rfl
theorem eX3_takeInt_34 : decode mX3_takeInt.2.1 34 = .ok (.if_icmp .le 10, 3) := px_tab_at tX3_takeInt_ok 21 (e := (34, 3, .if_icmp .le 10, 0, 0, .null)) rfl
theorem eX3_takeInt_41 : decode mX3_takeInt.2.1 41 = .ok (.invokevirtual 79, 3) := px_tab_at tX3_takeInt_ok 25 (e := (41, 3, .invokevirtual 79, 0, 0, .null)) rfl
theorem eX3_takeInt_45 : decode mX3_takeInt.2.1 45 = .ok (.ireturn, 1) := px_tab_at tX3_takeInt_ok 27 (e := (45, 1, .ireturn, 0, 0, .null)) rfl
theorem eX3_parseLaw_2 : decode mX3_parseLaw.2.1 2 = .ok (.invokevirtual 130, 3) := px_tab_at tX3_parseLaw_ok 2 (e := (2, 3, .invokevirtual 130, 0, 0, .null)) rfl
theorem eX3_parseLaw_8 : decode mX3_parseLaw.2.1 8 = .ok (.invokevirtual 130, 3) := px_tab_at tX3_parseLaw_ok 5 (e := (8, 3, .invokevirtual 130, 0, 0, .null)) rfl
theorem eX3_parseLaw_23 : decode mX3_parseLaw.2.1 23 = .ok (.invokevirtual 213, 3) := px_tab_at tX3_parseLaw_ok 12 (e := (23, 3, .invokevirtual 213, 0, 0, .null)) rfl
theorem eX3_parseLaw_30 : decode mX3_parseLaw.2.1 30 = .ok (.if_icmp .gt 106, 3) := px_tab_at tX3_parseLaw_ok 17 (e := (30, 3, .if_icmp .gt 106, 0, 0, .null)) rfl
theorem eX3_parseLaw_37 : decode mX3_parseLaw.2.1 37 = .ok (.invokevirtual 218, 3) := px_tab_at tX3_parseLaw_ok 20 (e := (37, 3, .invokevirtual 218, 0, 0, .null)) rfl
theorem eX3_parseLaw_40 : decode mX3_parseLaw.2.1 40 = .ok (.ifCond .eq 96, 3) := px_tab_at tX3_parseLaw_ok 21 (e := (40, 3, .ifCond .eq 96, 0, 0, .null)) rfl
theorem eX3_parseLaw_45 : decode mX3_parseLaw.2.1 45 = .ok (.if_icmp .ne 8, 3) := px_tab_at tX3_parseLaw_ok 24 (e := (45, 3, .if_icmp .ne 8, 0, 0, .null)) rfl
theorem eX3_parseLaw_50 : decode mX3_parseLaw.2.1 50 = .ok (.invokevirtual 149, 3) := px_tab_at tX3_parseLaw_ok 27 (e := (50, 3, .invokevirtual 149, 0, 0, .null)) rfl
theorem eX3_parseLaw_57 : decode mX3_parseLaw.2.1 57 = .ok (.invokevirtual 130, 3) := px_tab_at tX3_parseLaw_ok 30 (e := (57, 3, .invokevirtual 130, 0, 0, .null)) rfl
theorem eX3_parseLaw_62 : decode mX3_parseLaw.2.1 62 = .ok (.invokevirtual 221, 3) := px_tab_at tX3_parseLaw_ok 33 (e := (62, 3, .invokevirtual 221, 0, 0, .null)) rfl
theorem eX3_parseLaw_68 : decode mX3_parseLaw.2.1 68 = .ok (.invokevirtual 130, 3) := px_tab_at tX3_parseLaw_ok 36 (e := (68, 3, .invokevirtual 130, 0, 0, .null)) rfl
theorem eX3_parseLaw_73 : decode mX3_parseLaw.2.1 73 = .ok (.invokevirtual 221, 3) := px_tab_at tX3_parseLaw_ok 39 (e := (73, 3, .invokevirtual 221, 0, 0, .null)) rfl
theorem eX3_parseLaw_83 : decode mX3_parseLaw.2.1 83 = .ok (.invokevirtual 224, 3) := px_tab_at tX3_parseLaw_ok 43 (e := (83, 3, .invokevirtual 224, 0, 0, .null)) rfl
theorem eX3_parseLaw_91 : decode mX3_parseLaw.2.1 91 = .ok (.invokevirtual 130, 3) := px_tab_at tX3_parseLaw_ok 47 (e := (91, 3, .invokevirtual 130, 0, 0, .null)) rfl
theorem eX3_parseLaw_96 : decode mX3_parseLaw.2.1 96 = .ok (.invokevirtual 221, 3) := px_tab_at tX3_parseLaw_ok 50 (e := (96, 3, .invokevirtual 221, 0, 0, .null)) rfl
theorem eX3_parseLaw_109 : decode mX3_parseLaw.2.1 109 = .ok (.invokevirtual 227, 3) := px_tab_at tX3_parseLaw_ok 56 (e := (109, 3, .invokevirtual 227, 0, 0, .null)) rfl
theorem eX3_parseLaw_116 : decode mX3_parseLaw.2.1 116 = .ok (.invokevirtual 130, 3) := px_tab_at tX3_parseLaw_ok 59 (e := (116, 3, .invokevirtual 130, 0, 0, .null)) rfl
theorem eX3_parseLaw_127 : decode mX3_parseLaw.2.1 127 = .ok (.invokevirtual 230, 3) := px_tab_at tX3_parseLaw_ok 64 (e := (127, 3, .invokevirtual 230, 0, 0, .null)) rfl
theorem eX3_parseLaw_133 : decode mX3_parseLaw.2.1 133 = .ok (.goto (-105), 3) := px_tab_at tX3_parseLaw_ok 66 (e := (133, 3, .goto (-105), 0, 0, .null)) rfl
theorem eX3_parseLaw_138 : decode mX3_parseLaw.2.1 138 = .ok (.invokevirtual 221, 3) := px_tab_at tX3_parseLaw_ok 69 (e := (138, 3, .invokevirtual 221, 0, 0, .null)) rfl
theorem eX3_parseLaw_151 : decode mX3_parseLaw.2.1 151 = .ok (.invokevirtual 227, 3) := px_tab_at tX3_parseLaw_ok 75 (e := (151, 3, .invokevirtual 227, 0, 0, .null)) rfl
theorem eX3_parseLaw_154 : decode mX3_parseLaw.2.1 154 = .ok (.return_, 1) := px_tab_at tX3_parseLaw_ok 76 (e := (154, 1, .return_, 0, 0, .null)) rfl
theorem eX3_parseSum_2 : decode mX3_parseSum.2.1 2 = .ok (.invokevirtual 233, 3) := px_tab_at tX3_parseSum_ok 2 (e := (2, 3, .invokevirtual 233, 0, 0, .null)) rfl
theorem eX3_parseSum_11 : decode mX3_parseSum.2.1 11 = .ok (.if_icmp .ge 69, 3) := px_tab_at tX3_parseSum_ok 7 (e := (11, 3, .if_icmp .ge 69, 0, 0, .null)) rfl
theorem eX3_parseSum_17 : decode mX3_parseSum.2.1 17 = .ok (.invokevirtual 218, 3) := px_tab_at tX3_parseSum_ok 10 (e := (17, 3, .invokevirtual 218, 0, 0, .null)) rfl
theorem eX3_parseSum_20 : decode mX3_parseSum.2.1 20 = .ok (.ifCond .ne 12, 3) := px_tab_at tX3_parseSum_ok 11 (e := (20, 3, .ifCond .ne 12, 0, 0, .null)) rfl
theorem eX3_parseSum_26 : decode mX3_parseSum.2.1 26 = .ok (.invokevirtual 218, 3) := px_tab_at tX3_parseSum_ok 14 (e := (26, 3, .invokevirtual 218, 0, 0, .null)) rfl
theorem eX3_parseSum_29 : decode mX3_parseSum.2.1 29 = .ok (.ifCond .eq 51, 3) := px_tab_at tX3_parseSum_ok 15 (e := (29, 3, .ifCond .eq 51, 0, 0, .null)) rfl
theorem eX3_parseSum_44 : decode mX3_parseSum.2.1 44 = .ok (.invokevirtual 130, 3) := px_tab_at tX3_parseSum_ok 24 (e := (44, 3, .invokevirtual 130, 0, 0, .null)) rfl
theorem eX3_parseSum_49 : decode mX3_parseSum.2.1 49 = .ok (.invokevirtual 233, 3) := px_tab_at tX3_parseSum_ok 27 (e := (49, 3, .invokevirtual 233, 0, 0, .null)) rfl
theorem eX3_parseSum_62 : decode mX3_parseSum.2.1 62 = .ok (.if_icmp .ne 7, 3) := px_tab_at tX3_parseSum_ok 33 (e := (62, 3, .if_icmp .ne 7, 0, 0, .null)) rfl
theorem eX3_parseSum_66 : decode mX3_parseSum.2.1 66 = .ok (.goto 4, 3) := px_tab_at tX3_parseSum_ok 35 (e := (66, 3, .goto 4, 0, 0, .null)) rfl
theorem eX3_parseSum_71 : decode mX3_parseSum.2.1 71 = .ok (.invokevirtual 227, 3) := px_tab_at tX3_parseSum_ok 38 (e := (71, 3, .invokevirtual 227, 0, 0, .null)) rfl
theorem eX3_parseSum_77 : decode mX3_parseSum.2.1 77 = .ok (.goto (-70), 3) := px_tab_at tX3_parseSum_ok 40 (e := (77, 3, .goto (-70), 0, 0, .null)) rfl
theorem eX3_parseSum_80 : decode mX3_parseSum.2.1 80 = .ok (.return_, 1) := px_tab_at tX3_parseSum_ok 41 (e := (80, 1, .return_, 0, 0, .null)) rfl
theorem eX3_parseProduct_2 : decode mX3_parseProduct.2.1 2 = .ok (.invokevirtual 236, 3) := px_tab_at tX3_parseProduct_ok 2 (e := (2, 3, .invokevirtual 236, 0, 0, .null)) rfl
theorem eX3_parseProduct_11 : decode mX3_parseProduct.2.1 11 = .ok (.if_icmp .ge 69, 3) := px_tab_at tX3_parseProduct_ok 7 (e := (11, 3, .if_icmp .ge 69, 0, 0, .null)) rfl
theorem eX3_parseProduct_17 : decode mX3_parseProduct.2.1 17 = .ok (.invokevirtual 218, 3) := px_tab_at tX3_parseProduct_ok 10 (e := (17, 3, .invokevirtual 218, 0, 0, .null)) rfl
theorem eX3_parseProduct_20 : decode mX3_parseProduct.2.1 20 = .ok (.ifCond .ne 12, 3) := px_tab_at tX3_parseProduct_ok 11 (e := (20, 3, .ifCond .ne 12, 0, 0, .null)) rfl
theorem eX3_parseProduct_26 : decode mX3_parseProduct.2.1 26 = .ok (.invokevirtual 218, 3) := px_tab_at tX3_parseProduct_ok 14 (e := (26, 3, .invokevirtual 218, 0, 0, .null)) rfl
theorem eX3_parseProduct_29 : decode mX3_parseProduct.2.1 29 = .ok (.ifCond .eq 51, 3) := px_tab_at tX3_parseProduct_ok 15 (e := (29, 3, .ifCond .eq 51, 0, 0, .null)) rfl
theorem eX3_parseProduct_44 : decode mX3_parseProduct.2.1 44 = .ok (.invokevirtual 130, 3) := px_tab_at tX3_parseProduct_ok 24 (e := (44, 3, .invokevirtual 130, 0, 0, .null)) rfl
theorem eX3_parseProduct_49 : decode mX3_parseProduct.2.1 49 = .ok (.invokevirtual 236, 3) := px_tab_at tX3_parseProduct_ok 27 (e := (49, 3, .invokevirtual 236, 0, 0, .null)) rfl
theorem eX3_parseProduct_62 : decode mX3_parseProduct.2.1 62 = .ok (.if_icmp .ne 7, 3) := px_tab_at tX3_parseProduct_ok 33 (e := (62, 3, .if_icmp .ne 7, 0, 0, .null)) rfl
theorem eX3_parseProduct_66 : decode mX3_parseProduct.2.1 66 = .ok (.goto 4, 3) := px_tab_at tX3_parseProduct_ok 35 (e := (66, 3, .goto 4, 0, 0, .null)) rfl
theorem eX3_parseProduct_71 : decode mX3_parseProduct.2.1 71 = .ok (.invokevirtual 227, 3) := px_tab_at tX3_parseProduct_ok 38 (e := (71, 3, .invokevirtual 227, 0, 0, .null)) rfl
theorem eX3_parseProduct_77 : decode mX3_parseProduct.2.1 77 = .ok (.goto (-70), 3) := px_tab_at tX3_parseProduct_ok 40 (e := (77, 3, .goto (-70), 0, 0, .null)) rfl
theorem eX3_parseProduct_80 : decode mX3_parseProduct.2.1 80 = .ok (.return_, 1) := px_tab_at tX3_parseProduct_ok 41 (e := (80, 1, .return_, 0, 0, .null)) rfl
theorem eX3_parseUnit_14 : decode mX3_parseUnit.2.1 14 = .ok (.ifCond .eq 4, 3) := px_tab_at tX3_parseUnit_ok 8 (e := (14, 3, .ifCond .eq 4, 0, 0, .null)) rfl
theorem eX3_parseUnit_17 : decode mX3_parseUnit.2.1 17 = .ok (.return_, 1) := px_tab_at tX3_parseUnit_ok 9 (e := (17, 1, .return_, 0, 0, .null)) rfl
theorem eX3_parseUnit_21 : decode mX3_parseUnit.2.1 21 = .ok (.if_icmp .ne 17, 3) := px_tab_at tX3_parseUnit_ok 12 (e := (21, 3, .if_icmp .ne 17, 0, 0, .null)) rfl
theorem eX3_parseUnit_27 : decode mX3_parseUnit.2.1 27 = .ok (.if_icmp .lt 11, 3) := px_tab_at tX3_parseUnit_ok 15 (e := (27, 3, .if_icmp .lt 11, 0, 0, .null)) rfl
theorem eX3_parseUnit_32 : decode mX3_parseUnit.2.1 32 = .ok (.invokevirtual 149, 3) := px_tab_at tX3_parseUnit_ok 18 (e := (32, 3, .invokevirtual 149, 0, 0, .null)) rfl
theorem eX3_parseUnit_35 : decode mX3_parseUnit.2.1 35 = .ok (.goto 95, 3) := px_tab_at tX3_parseUnit_ok 19 (e := (35, 3, .goto 95, 0, 0, .null)) rfl
theorem eX3_parseUnit_41 : decode mX3_parseUnit.2.1 41 = .ok (.if_icmp .ne 25, 3) := px_tab_at tX3_parseUnit_ok 22 (e := (41, 3, .if_icmp .ne 25, 0, 0, .null)) rfl
theorem eX3_parseUnit_47 : decode mX3_parseUnit.2.1 47 = .ok (.invokevirtual 130, 3) := px_tab_at tX3_parseUnit_ok 25 (e := (47, 3, .invokevirtual 130, 0, 0, .null)) rfl
theorem eX3_parseUnit_54 : decode mX3_parseUnit.2.1 54 = .ok (.invokevirtual 221, 3) := px_tab_at tX3_parseUnit_ok 30 (e := (54, 3, .invokevirtual 221, 0, 0, .null)) rfl
theorem eX3_parseUnit_60 : decode mX3_parseUnit.2.1 60 = .ok (.invokevirtual 130, 3) := px_tab_at tX3_parseUnit_ok 33 (e := (60, 3, .invokevirtual 130, 0, 0, .null)) rfl
theorem eX3_parseUnit_63 : decode mX3_parseUnit.2.1 63 = .ok (.goto 67, 3) := px_tab_at tX3_parseUnit_ok 34 (e := (63, 3, .goto 67, 0, 0, .null)) rfl
theorem eX3_parseUnit_70 : decode mX3_parseUnit.2.1 70 = .ok (.if_icmp .lt 34, 3) := px_tab_at tX3_parseUnit_ok 37 (e := (70, 3, .if_icmp .lt 34, 0, 0, .null)) rfl
theorem eX3_parseUnit_77 : decode mX3_parseUnit.2.1 77 = .ok (.if_icmp .gt 27, 3) := px_tab_at tX3_parseUnit_ok 40 (e := (77, 3, .if_icmp .gt 27, 0, 0, .null)) rfl
theorem eX3_parseUnit_93 : decode mX3_parseUnit.2.1 93 = .ok (.invokevirtual 227, 3) := px_tab_at tX3_parseUnit_ok 48 (e := (93, 3, .invokevirtual 227, 0, 0, .null)) rfl
theorem eX3_parseUnit_98 : decode mX3_parseUnit.2.1 98 = .ok (.invokevirtual 130, 3) := px_tab_at tX3_parseUnit_ok 51 (e := (98, 3, .invokevirtual 130, 0, 0, .null)) rfl
theorem eX3_parseUnit_101 : decode mX3_parseUnit.2.1 101 = .ok (.goto 29, 3) := px_tab_at tX3_parseUnit_ok 52 (e := (101, 3, .goto 29, 0, 0, .null)) rfl
theorem eX3_parseUnit_122 : decode mX3_parseUnit.2.1 122 = .ok (.invokevirtual 227, 3) := px_tab_at tX3_parseUnit_ok 63 (e := (122, 3, .invokevirtual 227, 0, 0, .null)) rfl
theorem eX3_parseUnit_127 : decode mX3_parseUnit.2.1 127 = .ok (.invokevirtual 130, 3) := px_tab_at tX3_parseUnit_ok 66 (e := (127, 3, .invokevirtual 130, 0, 0, .null)) rfl
theorem eX3_parseUnit_130 : decode mX3_parseUnit.2.1 130 = .ok (.return_, 1) := px_tab_at tX3_parseUnit_ok 67 (e := (130, 1, .return_, 0, 0, .null)) rfl
theorem eX4_init_1 : decode mX4_init.2.1 1 = .ok (.invokespecial 3, 3) := px_tab_at tX4_init_ok 1 (e := (1, 3, .invokespecial 3, 0, 0, .null)) rfl
theorem eX4_init_7 : decode mX4_init.2.1 7 = .ok (.newarray .int, 2) := px_tab_at tX4_init_ok 4 (e := (7, 2, .newarray .int, 0, 0, .null)) rfl
set_option maxRecDepth 100000 in
theorem eX4_init_9 : decode mX4_init.2.1 9 = .ok (.putfield 11, 3) := by decide +kernel
theorem eX4_init_17 : decode mX4_init.2.1 17 = .ok (.return_, 1) := px_tab_at tX4_init_ok 8 (e := (17, 1, .return_, 0, 0, .null)) rfl
theorem eX4_loadOn_14 : decode mX4_loadOn.2.1 14 = .ok (.if_icmp .ge 37, 3) := px_tab_at tX4_loadOn_ok 8 (e := (14, 3, .if_icmp .ge 37, 0, 0, .null)) rfl
theorem eX4_loadOn_26 : decode mX4_loadOn.2.1 26 = .ok (.if_icmp .ne 16, 3) := px_tab_at tX4_loadOn_ok 15 (e := (26, 3, .if_icmp .ne 16, 0, 0, .null)) rfl
theorem eX4_loadOn_39 : decode mX4_loadOn.2.1 39 = .ok (.goto 4, 3) := px_tab_at tX4_loadOn_ok 21 (e := (39, 3, .goto 4, 0, 0, .null)) rfl
theorem eX4_loadOn_48 : decode mX4_loadOn.2.1 48 = .ok (.goto (-43), 3) := px_tab_at tX4_loadOn_ok 26 (e := (48, 3, .goto (-43), 0, 0, .null)) rfl
theorem eX4_loadOn_52 : decode mX4_loadOn.2.1 52 = .ok (.ireturn, 1) := px_tab_at tX4_loadOn_ok 28 (e := (52, 1, .ireturn, 0, 0, .null)) rfl
theorem eX4_noiseOf_12 : decode mX4_noiseOf.2.1 12 = .ok (.if_icmp .ge 44, 3) := px_tab_at tX4_noiseOf_ok 8 (e := (12, 3, .if_icmp .ge 44, 0, 0, .null)) rfl
theorem eX4_noiseOf_26 : decode mX4_noiseOf.2.1 26 = .ok (.ifCond .lt 21, 3) := px_tab_at tX4_noiseOf_ok 16 (e := (26, 3, .ifCond .lt 21, 0, 0, .null)) rfl
theorem eX4_noiseOf_32 : decode mX4_noiseOf.2.1 32 = .ok (.if_icmp .ge 15, 3) := px_tab_at tX4_noiseOf_ok 19 (e := (32, 3, .if_icmp .ge 15, 0, 0, .null)) rfl
theorem eX4_noiseOf_44 : decode mX4_noiseOf.2.1 44 = .ok (.goto 4, 3) := px_tab_at tX4_noiseOf_ok 25 (e := (44, 3, .goto 4, 0, 0, .null)) rfl
theorem eX4_noiseOf_53 : decode mX4_noiseOf.2.1 53 = .ok (.goto (-49), 3) := px_tab_at tX4_noiseOf_ok 30 (e := (53, 3, .goto (-49), 0, 0, .null)) rfl
theorem eX4_noiseOf_57 : decode mX4_noiseOf.2.1 57 = .ok (.ireturn, 1) := px_tab_at tX4_noiseOf_ok 32 (e := (57, 1, .ireturn, 0, 0, .null)) rfl
theorem eX4_crossersAt_14 : decode mX4_crossersAt.2.1 14 = .ok (.if_icmp .ge 31, 3) := px_tab_at tX4_crossersAt_ok 8 (e := (14, 3, .if_icmp .ge 31, 0, 0, .null)) rfl
theorem eX4_crossersAt_26 : decode mX4_crossersAt.2.1 26 = .ok (.if_icmp .ne 10, 3) := px_tab_at tX4_crossersAt_ok 15 (e := (26, 3, .if_icmp .ne 10, 0, 0, .null)) rfl
theorem eX4_crossersAt_33 : decode mX4_crossersAt.2.1 33 = .ok (.goto 4, 3) := px_tab_at tX4_crossersAt_ok 19 (e := (33, 3, .goto 4, 0, 0, .null)) rfl
theorem eX4_crossersAt_42 : decode mX4_crossersAt.2.1 42 = .ok (.goto (-37), 3) := px_tab_at tX4_crossersAt_ok 24 (e := (42, 3, .goto (-37), 0, 0, .null)) rfl
theorem eX4_crossersAt_46 : decode mX4_crossersAt.2.1 46 = .ok (.ireturn, 1) := px_tab_at tX4_crossersAt_ok 26 (e := (46, 1, .ireturn, 0, 0, .null)) rfl
theorem eX4_someAreOnTheWay_10 : decode mX4_someAreOnTheWay.2.1 10 = .ok (.if_icmp .ge 41, 3) := px_tab_at tX4_someAreOnTheWay_ok 6 (e := (10, 3, .if_icmp .ge 41, 0, 0, .null)) rfl
theorem eX4_someAreOnTheWay_21 : decode mX4_someAreOnTheWay.2.1 21 = .ok (.if_icmp .eq 22, 3) := px_tab_at tX4_someAreOnTheWay_ok 12 (e := (21, 3, .if_icmp .eq 22, 0, 0, .null)) rfl
theorem eX4_someAreOnTheWay_30 : decode mX4_someAreOnTheWay.2.1 30 = .ok (.ifCond .lt 15, 3) := px_tab_at tX4_someAreOnTheWay_ok 17 (e := (30, 3, .ifCond .lt 15, 0, 0, .null)) rfl
theorem eX4_someAreOnTheWay_40 : decode mX4_someAreOnTheWay.2.1 40 = .ok (.if_icmp .ge 5, 3) := px_tab_at tX4_someAreOnTheWay_ok 23 (e := (40, 3, .if_icmp .ge 5, 0, 0, .null)) rfl
theorem eX4_someAreOnTheWay_44 : decode mX4_someAreOnTheWay.2.1 44 = .ok (.ireturn, 1) := px_tab_at tX4_someAreOnTheWay_ok 25 (e := (44, 1, .ireturn, 0, 0, .null)) rfl
theorem eX4_someAreOnTheWay_48 : decode mX4_someAreOnTheWay.2.1 48 = .ok (.goto (-46), 3) := px_tab_at tX4_someAreOnTheWay_ok 27 (e := (48, 3, .goto (-46), 0, 0, .null)) rfl
theorem eX4_someAreOnTheWay_52 : decode mX4_someAreOnTheWay.2.1 52 = .ok (.ireturn, 1) := px_tab_at tX4_someAreOnTheWay_ok 29 (e := (52, 1, .ireturn, 0, 0, .null)) rfl
theorem eX4_lyingOn_14 : decode mX4_lyingOn.2.1 14 = .ok (.if_icmp .ge 31, 3) := px_tab_at tX4_lyingOn_ok 8 (e := (14, 3, .if_icmp .ge 31, 0, 0, .null)) rfl
theorem eX4_lyingOn_26 : decode mX4_lyingOn.2.1 26 = .ok (.if_icmp .ne 10, 3) := px_tab_at tX4_lyingOn_ok 15 (e := (26, 3, .if_icmp .ne 10, 0, 0, .null)) rfl
theorem eX4_lyingOn_33 : decode mX4_lyingOn.2.1 33 = .ok (.goto 4, 3) := px_tab_at tX4_lyingOn_ok 19 (e := (33, 3, .goto 4, 0, 0, .null)) rfl
theorem eX4_lyingOn_42 : decode mX4_lyingOn.2.1 42 = .ok (.goto (-37), 3) := px_tab_at tX4_lyingOn_ok 24 (e := (42, 3, .goto (-37), 0, 0, .null)) rfl
theorem eX4_lyingOn_46 : decode mX4_lyingOn.2.1 46 = .ok (.ireturn, 1) := px_tab_at tX4_lyingOn_ok 26 (e := (46, 1, .ireturn, 0, 0, .null)) rfl
theorem eX4_pairsIn_12 : decode mX4_pairsIn.2.1 12 = .ok (.if_icmp .ge 33, 3) := px_tab_at tX4_pairsIn_ok 8 (e := (12, 3, .if_icmp .ge 33, 0, 0, .null)) rfl
theorem eX4_pairsIn_29 : decode mX4_pairsIn.2.1 29 = .ok (.ifCond .ne 7, 3) := px_tab_at tX4_pairsIn_ok 19 (e := (29, 3, .ifCond .ne 7, 0, 0, .null)) rfl
theorem eX4_pairsIn_33 : decode mX4_pairsIn.2.1 33 = .ok (.goto 4, 3) := px_tab_at tX4_pairsIn_ok 21 (e := (33, 3, .goto 4, 0, 0, .null)) rfl
theorem eX4_pairsIn_42 : decode mX4_pairsIn.2.1 42 = .ok (.goto (-38), 3) := px_tab_at tX4_pairsIn_ok 26 (e := (42, 3, .goto (-38), 0, 0, .null)) rfl
theorem eX4_pairsIn_46 : decode mX4_pairsIn.2.1 46 = .ok (.ireturn, 1) := px_tab_at tX4_pairsIn_ok 28 (e := (46, 1, .ireturn, 0, 0, .null)) rfl
theorem eX4_allDreams_12 : decode mX4_allDreams.2.1 12 = .ok (.if_icmp .ge 21, 3) := px_tab_at tX4_allDreams_ok 8 (e := (12, 3, .if_icmp .ge 21, 0, 0, .null)) rfl
theorem eX4_allDreams_19 : decode mX4_allDreams.2.1 19 = .ok (.invokevirtual 51, 3) := px_tab_at tX4_allDreams_ok 13 (e := (19, 3, .invokevirtual 51, 0, 0, .null)) rfl
theorem eX4_allDreams_22 : decode mX4_allDreams.2.1 22 = .ok (.invokevirtual 55, 3) := px_tab_at tX4_allDreams_ok 14 (e := (22, 3, .invokevirtual 55, 0, 0, .null)) rfl
theorem eX4_allDreams_30 : decode mX4_allDreams.2.1 30 = .ok (.goto (-26), 3) := px_tab_at tX4_allDreams_ok 18 (e := (30, 3, .goto (-26), 0, 0, .null)) rfl
theorem eX4_allDreams_34 : decode mX4_allDreams.2.1 34 = .ok (.ireturn, 1) := px_tab_at tX4_allDreams_ok 20 (e := (34, 1, .ireturn, 0, 0, .null)) rfl
theorem eX4_borne_5 : decode mX4_borne.2.1 5 = .ok (.invokevirtual 51, 3) := px_tab_at tX4_borne_ok 5 (e := (5, 3, .invokevirtual 51, 0, 0, .null)) rfl
theorem eX4_borne_8 : decode mX4_borne.2.1 8 = .ok (.invokevirtual 58, 3) := px_tab_at tX4_borne_ok 6 (e := (8, 3, .invokevirtual 58, 0, 0, .null)) rfl
theorem eX4_borne_11 : decode mX4_borne.2.1 11 = .ok (.ireturn, 1) := px_tab_at tX4_borne_ok 7 (e := (11, 1, .ireturn, 0, 0, .null)) rfl
theorem eX4_leastBorne_3 : decode mX4_leastBorne.2.1 3 = .ok (.invokevirtual 62, 3) := px_tab_at tX4_leastBorne_ok 3 (e := (3, 3, .invokevirtual 62, 0, 0, .null)) rfl
theorem eX4_leastBorne_17 : decode mX4_leastBorne.2.1 17 = .ok (.if_icmp .ge 20, 3) := px_tab_at tX4_leastBorne_ok 11 (e := (17, 3, .if_icmp .ge 20, 0, 0, .null)) rfl
theorem eX4_leastBorne_24 : decode mX4_leastBorne.2.1 24 = .ok (.invokevirtual 62, 3) := px_tab_at tX4_leastBorne_ok 16 (e := (24, 3, .invokevirtual 62, 0, 0, .null)) rfl
theorem eX4_leastBorne_27 : decode mX4_leastBorne.2.1 27 = .ok (.invokestatic 66, 3) := px_tab_at tX4_leastBorne_ok 17 (e := (27, 3, .invokestatic 66, 0, 0, .null)) rfl
theorem eX4_leastBorne_34 : decode mX4_leastBorne.2.1 34 = .ok (.goto (-25), 3) := px_tab_at tX4_leastBorne_ok 20 (e := (34, 3, .goto (-25), 0, 0, .null)) rfl
theorem eX4_leastBorne_38 : decode mX4_leastBorne.2.1 38 = .ok (.ireturn, 1) := px_tab_at tX4_leastBorne_ok 22 (e := (38, 1, .ireturn, 0, 0, .null)) rfl
theorem eX4_borneBy_1 : decode mX4_borneBy.2.1 1 = .ok (.ifCond .ne 5, 3) := px_tab_at tX4_borneBy_ok 1 (e := (1, 3, .ifCond .ne 5, 0, 0, .null)) rfl
theorem eX4_borneBy_5 : decode mX4_borneBy.2.1 5 = .ok (.ireturn, 1) := px_tab_at tX4_borneBy_ok 3 (e := (5, 1, .ireturn, 0, 0, .null)) rfl
theorem eX4_borneBy_10 : decode mX4_borneBy.2.1 10 = .ok (.invokestatic 72, 3) := px_tab_at tX4_borneBy_ok 8 (e := (10, 3, .invokestatic 72, 0, 0, .null)) rfl
theorem eX4_borneBy_15 : decode mX4_borneBy.2.1 15 = .ok (.invokevirtual 77, 3) := px_tab_at tX4_borneBy_ok 11 (e := (15, 3, .invokevirtual 77, 0, 0, .null)) rfl
theorem eX4_borneBy_27 : decode mX4_borneBy.2.1 27 = .ok (.invokevirtual 55, 3) := px_tab_at tX4_borneBy_ok 17 (e := (27, 3, .invokevirtual 55, 0, 0, .null)) rfl
theorem eX4_borneBy_45 : decode mX4_borneBy.2.1 45 = .ok (.if_icmp .ge 52, 3) := px_tab_at tX4_borneBy_ok 26 (e := (45, 3, .if_icmp .ge 52, 0, 0, .null)) rfl
theorem eX4_borneBy_55 : decode mX4_borneBy.2.1 55 = .ok (.if_icmp .ne 36, 3) := px_tab_at tX4_borneBy_ok 33 (e := (55, 3, .if_icmp .ne 36, 0, 0, .null)) rfl
theorem eX4_borneBy_62 : decode mX4_borneBy.2.1 62 = .ok (.invokevirtual 84, 3) := px_tab_at tX4_borneBy_ok 37 (e := (62, 3, .invokevirtual 84, 0, 0, .null)) rfl
theorem eX4_borneBy_79 : decode mX4_borneBy.2.1 79 = .ok (.invokevirtual 92, 3) := px_tab_at tX4_borneBy_ok 45 (e := (79, 3, .invokevirtual 92, 0, 0, .null)) rfl
theorem eX4_borneBy_85 : decode mX4_borneBy.2.1 85 = .ok (.invokestatic 98, 3) := px_tab_at tX4_borneBy_ok 48 (e := (85, 3, .invokestatic 98, 0, 0, .null)) rfl
theorem eX4_borneBy_94 : decode mX4_borneBy.2.1 94 = .ok (.goto (-58), 3) := px_tab_at tX4_borneBy_ok 52 (e := (94, 3, .goto (-58), 0, 0, .null)) rfl
theorem eX4_borneBy_99 : decode mX4_borneBy.2.1 99 = .ok (.ireturn, 1) := px_tab_at tX4_borneBy_ok 54 (e := (99, 1, .ireturn, 0, 0, .null)) rfl
theorem eX4_held_8 : decode mX4_held.2.1 8 = .ok (.ifCond .ne 5, 3) := px_tab_at tX4_held_ok 6 (e := (8, 3, .ifCond .ne 5, 0, 0, .null)) rfl
theorem eX4_held_12 : decode mX4_held.2.1 12 = .ok (.ireturn, 1) := px_tab_at tX4_held_ok 8 (e := (12, 1, .ireturn, 0, 0, .null)) rfl
theorem eX4_held_16 : decode mX4_held.2.1 16 = .ok (.invokevirtual 105, 3) := px_tab_at tX4_held_ok 12 (e := (16, 3, .invokevirtual 105, 0, 0, .null)) rfl
theorem eX4_held_31 : decode mX4_held.2.1 31 = .ok (.invokevirtual 92, 3) := px_tab_at tX4_held_ok 19 (e := (31, 3, .invokevirtual 92, 0, 0, .null)) rfl
theorem eX4_held_37 : decode mX4_held.2.1 37 = .ok (.invokestatic 98, 3) := px_tab_at tX4_held_ok 22 (e := (37, 3, .invokestatic 98, 0, 0, .null)) rfl
theorem eX4_held_40 : decode mX4_held.2.1 40 = .ok (.ireturn, 1) := px_tab_at tX4_held_ok 23 (e := (40, 1, .ireturn, 0, 0, .null)) rfl
theorem eX4_wakingOf_3 : decode mX4_wakingOf.2.1 3 = .ok (.invokevirtual 105, 3) := px_tab_at tX4_wakingOf_ok 3 (e := (3, 3, .invokevirtual 105, 0, 0, .null)) rfl
theorem eX4_wakingOf_7 : decode mX4_wakingOf.2.1 7 = .ok (.invokevirtual 108, 3) := px_tab_at tX4_wakingOf_ok 5 (e := (7, 3, .invokevirtual 108, 0, 0, .null)) rfl
theorem eX4_wakingOf_10 : decode mX4_wakingOf.2.1 10 = .ok (.ireturn, 1) := px_tab_at tX4_wakingOf_ok 6 (e := (10, 1, .ireturn, 0, 0, .null)) rfl
theorem eX4_deepeningOf_3 : decode mX4_deepeningOf.2.1 3 = .ok (.invokevirtual 105, 3) := px_tab_at tX4_deepeningOf_ok 3 (e := (3, 3, .invokevirtual 105, 0, 0, .null)) rfl
theorem eX4_deepeningOf_7 : decode mX4_deepeningOf.2.1 7 = .ok (.invokevirtual 112, 3) := px_tab_at tX4_deepeningOf_ok 5 (e := (7, 3, .invokevirtual 112, 0, 0, .null)) rfl
theorem eX4_deepeningOf_10 : decode mX4_deepeningOf.2.1 10 = .ok (.ireturn, 1) := px_tab_at tX4_deepeningOf_ok 6 (e := (10, 1, .ireturn, 0, 0, .null)) rfl
theorem eX4_waking_12 : decode mX4_waking.2.1 12 = .ok (.invokevirtual 92, 3) := px_tab_at tX4_waking_ok 6 (e := (12, 3, .invokevirtual 92, 0, 0, .null)) rfl
theorem eX4_waking_18 : decode mX4_waking.2.1 18 = .ok (.invokestatic 98, 3) := px_tab_at tX4_waking_ok 9 (e := (18, 3, .invokestatic 98, 0, 0, .null)) rfl
theorem eX4_waking_21 : decode mX4_waking.2.1 21 = .ok (.ireturn, 1) := px_tab_at tX4_waking_ok 10 (e := (21, 1, .ireturn, 0, 0, .null)) rfl
theorem eX4_deepening_12 : decode mX4_deepening.2.1 12 = .ok (.invokevirtual 92, 3) := px_tab_at tX4_deepening_ok 6 (e := (12, 3, .invokevirtual 92, 0, 0, .null)) rfl
theorem eX4_deepening_19 : decode mX4_deepening.2.1 19 = .ok (.invokestatic 98, 3) := px_tab_at tX4_deepening_ok 9 (e := (19, 3, .invokestatic 98, 0, 0, .null)) rfl
theorem eX4_deepening_22 : decode mX4_deepening.2.1 22 = .ok (.ireturn, 1) := px_tab_at tX4_deepening_ok 10 (e := (22, 1, .ireturn, 0, 0, .null)) rfl
theorem eX4_lookAsItLies_7 : decode mX4_lookAsItLies.2.1 7 = .ok (.invokevirtual 51, 3) := px_tab_at tX4_lookAsItLies_ok 5 (e := (7, 3, .invokevirtual 51, 0, 0, .null)) rfl
theorem eX4_lookAsItLies_10 : decode mX4_lookAsItLies.2.1 10 = .ok (.invokestatic 72, 3) := px_tab_at tX4_lookAsItLies_ok 6 (e := (10, 3, .invokestatic 72, 0, 0, .null)) rfl
theorem eX4_lookAsItLies_25 : decode mX4_lookAsItLies.2.1 25 = .ok (.invokevirtual 77, 3) := px_tab_at tX4_lookAsItLies_ok 17 (e := (25, 3, .invokevirtual 77, 0, 0, .null)) rfl
theorem eX4_lookAsItLies_31 : decode mX4_lookAsItLies.2.1 31 = .ok (.invokevirtual 84, 3) := px_tab_at tX4_lookAsItLies_ok 21 (e := (31, 3, .invokevirtual 84, 0, 0, .null)) rfl
theorem eX4_lookAsItLies_34 : decode mX4_lookAsItLies.2.1 34 = .ok (.return_, 1) := px_tab_at tX4_lookAsItLies_ok 22 (e := (34, 1, .return_, 0, 0, .null)) rfl
theorem eX4_lookAtSpan_52 : decode mX4_lookAtSpan.2.1 52 = .ok (.if_icmp .ge 82, 3) := px_tab_at tX4_lookAtSpan_ok 32 (e := (52, 3, .if_icmp .ge 82, 0, 0, .null)) rfl
theorem eX4_lookAtSpan_73 : decode mX4_lookAtSpan.2.1 73 = .ok (.ifCond .lt 22, 3) := px_tab_at tX4_lookAtSpan_ok 44 (e := (73, 3, .ifCond .lt 22, 0, 0, .null)) rfl
theorem eX4_lookAtSpan_79 : decode mX4_lookAtSpan.2.1 79 = .ok (.if_icmp .ge 16, 3) := px_tab_at tX4_lookAtSpan_ok 47 (e := (79, 3, .if_icmp .ge 16, 0, 0, .null)) rfl
theorem eX4_lookAtSpan_92 : decode mX4_lookAtSpan.2.1 92 = .ok (.goto 4, 3) := px_tab_at tX4_lookAtSpan_ok 53 (e := (92, 3, .goto 4, 0, 0, .null)) rfl
theorem eX4_lookAtSpan_109 : decode mX4_lookAtSpan.2.1 109 = .ok (.if_icmp .ne 16, 3) := px_tab_at tX4_lookAtSpan_ok 64 (e := (109, 3, .if_icmp .ne 16, 0, 0, .null)) rfl
theorem eX4_lookAtSpan_122 : decode mX4_lookAtSpan.2.1 122 = .ok (.goto 4, 3) := px_tab_at tX4_lookAtSpan_ok 70 (e := (122, 3, .goto 4, 0, 0, .null)) rfl
theorem eX4_lookAtSpan_131 : decode mX4_lookAtSpan.2.1 131 = .ok (.goto (-88), 3) := px_tab_at tX4_lookAtSpan_ok 75 (e := (131, 3, .goto (-88), 0, 0, .null)) rfl
theorem eX4_lookAtSpan_134 : decode mX4_lookAtSpan.2.1 134 = .ok (.return_, 1) := px_tab_at tX4_lookAtSpan_ok 76 (e := (134, 1, .return_, 0, 0, .null)) rfl
theorem eX4_lookAtSleeper_50 : decode mX4_lookAtSleeper.2.1 50 = .ok (.return_, 1) := px_tab_at tX4_lookAtSleeper_ok 31 (e := (50, 1, .return_, 0, 0, .null)) rfl
theorem eX4_passHours_6 : decode mX4_passHours.2.1 6 = .ok (.if_icmp .ge 68, 3) := px_tab_at tX4_passHours_ok 4 (e := (6, 3, .if_icmp .ge 68, 0, 0, .null)) rfl
theorem eX4_passHours_14 : decode mX4_passHours.2.1 14 = .ok (.invokevirtual 127, 3) := px_tab_at tX4_passHours_ok 9 (e := (14, 3, .invokevirtual 127, 0, 0, .null)) rfl
theorem eX4_passHours_52 : decode mX4_passHours.2.1 52 = .ok (.invokevirtual 134, 3) := px_tab_at tX4_passHours_ok 31 (e := (52, 3, .invokevirtual 134, 0, 0, .null)) rfl
theorem eX4_passHours_60 : decode mX4_passHours.2.1 60 = .ok (.invokevirtual 137, 3) := px_tab_at tX4_passHours_ok 35 (e := (60, 3, .invokevirtual 137, 0, 0, .null)) rfl
theorem eX4_passHours_65 : decode mX4_passHours.2.1 65 = .ok (.invokevirtual 141, 3) := px_tab_at tX4_passHours_ok 38 (e := (65, 3, .invokevirtual 141, 0, 0, .null)) rfl
theorem eX4_passHours_71 : decode mX4_passHours.2.1 71 = .ok (.goto (-68), 3) := px_tab_at tX4_passHours_ok 40 (e := (71, 3, .goto (-68), 0, 0, .null)) rfl
theorem eX4_passHours_74 : decode mX4_passHours.2.1 74 = .ok (.return_, 1) := px_tab_at tX4_passHours_ok 41 (e := (74, 1, .return_, 0, 0, .null)) rfl
theorem eX4_sleepOn_15 : decode mX4_sleepOn.2.1 15 = .ok (.if_icmp .ge 93, 3) := px_tab_at tX4_sleepOn_ok 8 (e := (15, 3, .if_icmp .ge 93, 0, 0, .null)) rfl
theorem eX4_sleepOn_27 : decode mX4_sleepOn.2.1 27 = .ok (.ifCond .ne 6, 3) := px_tab_at tX4_sleepOn_ok 15 (e := (27, 3, .ifCond .ne 6, 0, 0, .null)) rfl
theorem eX4_sleepOn_30 : decode mX4_sleepOn.2.1 30 = .ok (.goto 72, 3) := px_tab_at tX4_sleepOn_ok 16 (e := (30, 3, .goto 72, 0, 0, .null)) rfl
theorem eX4_sleepOn_37 : decode mX4_sleepOn.2.1 37 = .ok (.invokevirtual 105, 3) := px_tab_at tX4_sleepOn_ok 20 (e := (37, 3, .invokevirtual 105, 0, 0, .null)) rfl
theorem eX4_sleepOn_41 : decode mX4_sleepOn.2.1 41 = .ok (.ifCond .ne 36, 3) := px_tab_at tX4_sleepOn_ok 22 (e := (41, 3, .ifCond .ne 36, 0, 0, .null)) rfl
theorem eX4_sleepOn_55 : decode mX4_sleepOn.2.1 55 = .ok (.invokestatic 144, 3) := px_tab_at tX4_sleepOn_ok 30 (e := (55, 3, .invokestatic 144, 0, 0, .null)) rfl
theorem eX4_sleepOn_59 : decode mX4_sleepOn.2.1 59 = .ok (.invokevirtual 108, 3) := px_tab_at tX4_sleepOn_ok 32 (e := (59, 3, .invokevirtual 108, 0, 0, .null)) rfl
theorem eX4_sleepOn_62 : decode mX4_sleepOn.2.1 62 = .ok (.if_icmp .ge 15, 3) := px_tab_at tX4_sleepOn_ok 33 (e := (62, 3, .if_icmp .ge 15, 0, 0, .null)) rfl
theorem eX4_sleepOn_74 : decode mX4_sleepOn.2.1 74 = .ok (.goto 28, 3) := px_tab_at tX4_sleepOn_ok 40 (e := (74, 3, .goto 28, 0, 0, .null)) rfl
theorem eX4_sleepOn_91 : decode mX4_sleepOn.2.1 91 = .ok (.invokevirtual 112, 3) := px_tab_at tX4_sleepOn_ok 49 (e := (91, 3, .invokevirtual 112, 0, 0, .null)) rfl
theorem eX4_sleepOn_98 : decode mX4_sleepOn.2.1 98 = .ok (.invokestatic 98, 3) := px_tab_at tX4_sleepOn_ok 53 (e := (98, 3, .invokestatic 98, 0, 0, .null)) rfl
theorem eX4_sleepOn_105 : decode mX4_sleepOn.2.1 105 = .ok (.goto (-99), 3) := px_tab_at tX4_sleepOn_ok 56 (e := (105, 3, .goto (-99), 0, 0, .null)) rfl
theorem eX4_sleepOn_121 : decode mX4_sleepOn.2.1 121 = .ok (.return_, 1) := px_tab_at tX4_sleepOn_ok 65 (e := (121, 1, .return_, 0, 0, .null)) rfl
theorem eX4_lotOf100_3 : decode mX4_lotOf100.2.1 3 = .ok (.invokestatic 147, 3) := px_tab_at tX4_lotOf100_ok 2 (e := (3, 3, .invokestatic 147, 0, 0, .null)) rfl
theorem eX4_lotOf100_7 : decode mX4_lotOf100.2.1 7 = .ok (.invokestatic 147, 3) := px_tab_at tX4_lotOf100_ok 4 (e := (7, 3, .invokestatic 147, 0, 0, .null)) rfl
theorem eX4_lotOf100_17 : decode mX4_lotOf100.2.1 17 = .ok (.ireturn, 1) := px_tab_at tX4_lotOf100_ok 11 (e := (17, 1, .ireturn, 0, 0, .null)) rfl
theorem eX4_stirred_17 : decode mX4_stirred.2.1 17 = .ok (.ireturn, 1) := px_tab_at tX4_stirred_ok 13 (e := (17, 1, .ireturn, 0, 0, .null)) rfl
theorem eX4_letSpansBreak_10 : decode mX4_letSpansBreak.2.1 10 = .ok (.if_icmp .ge 74, 3) := px_tab_at tX4_letSpansBreak_ok 6 (e := (10, 3, .if_icmp .ge 74, 0, 0, .null)) rfl
theorem eX4_letSpansBreak_16 : decode mX4_letSpansBreak.2.1 16 = .ok (.invokevirtual 151, 3) := px_tab_at tX4_letSpansBreak_ok 10 (e := (16, 3, .invokevirtual 151, 0, 0, .null)) rfl
theorem eX4_letSpansBreak_21 : decode mX4_letSpansBreak.2.1 21 = .ok (.ifCond .eq 57, 3) := px_tab_at tX4_letSpansBreak_ok 13 (e := (21, 3, .ifCond .eq 57, 0, 0, .null)) rfl
theorem eX4_letSpansBreak_28 : decode mX4_letSpansBreak.2.1 28 = .ok (.invokevirtual 62, 3) := px_tab_at tX4_letSpansBreak_ok 18 (e := (28, 3, .invokevirtual 62, 0, 0, .null)) rfl
theorem eX4_letSpansBreak_31 : decode mX4_letSpansBreak.2.1 31 = .ok (.if_icmp .gt 6, 3) := px_tab_at tX4_letSpansBreak_ok 19 (e := (31, 3, .if_icmp .gt 6, 0, 0, .null)) rfl
theorem eX4_letSpansBreak_34 : decode mX4_letSpansBreak.2.1 34 = .ok (.goto 44, 3) := px_tab_at tX4_letSpansBreak_ok 20 (e := (34, 3, .goto 44, 0, 0, .null)) rfl
theorem eX4_letSpansBreak_49 : decode mX4_letSpansBreak.2.1 49 = .ok (.if_icmp .ge 29, 3) := px_tab_at tX4_letSpansBreak_ok 27 (e := (49, 3, .if_icmp .ge 29, 0, 0, .null)) rfl
theorem eX4_letSpansBreak_60 : decode mX4_letSpansBreak.2.1 60 = .ok (.if_icmp .ne 12, 3) := px_tab_at tX4_letSpansBreak_ok 33 (e := (60, 3, .if_icmp .ne 12, 0, 0, .null)) rfl
theorem eX4_letSpansBreak_75 : decode mX4_letSpansBreak.2.1 75 = .ok (.goto (-35), 3) := px_tab_at tX4_letSpansBreak_ok 40 (e := (75, 3, .goto (-35), 0, 0, .null)) rfl
theorem eX4_letSpansBreak_81 : decode mX4_letSpansBreak.2.1 81 = .ok (.goto (-79), 3) := px_tab_at tX4_letSpansBreak_ok 42 (e := (81, 3, .goto (-79), 0, 0, .null)) rfl
theorem eX4_letSpansBreak_84 : decode mX4_letSpansBreak.2.1 84 = .ok (.return_, 1) := px_tab_at tX4_letSpansBreak_ok 43 (e := (84, 1, .return_, 0, 0, .null)) rfl
theorem eX4_letCrossersGo_9 : decode mX4_letCrossersGo.2.1 9 = .ok (.ifCond .lt 144, 3) := px_tab_at tX4_letCrossersGo_ok 5 (e := (9, 3, .ifCond .lt 144, 0, 0, .null)) rfl
theorem eX4_letCrossersGo_13 : decode mX4_letCrossersGo.2.1 13 = .ok (.ifCond .ne 8, 3) := px_tab_at tX4_letCrossersGo_ok 7 (e := (13, 3, .ifCond .ne 8, 0, 0, .null)) rfl
theorem eX4_letCrossersGo_18 : decode mX4_letCrossersGo.2.1 18 = .ok (.goto 6, 3) := px_tab_at tX4_letCrossersGo_ok 9 (e := (18, 3, .goto 6, 0, 0, .null)) rfl
theorem eX4_letCrossersGo_37 : decode mX4_letCrossersGo.2.1 37 = .ok (.if_icmp .ge 110, 3) := px_tab_at tX4_letCrossersGo_ok 20 (e := (37, 3, .if_icmp .ge 110, 0, 0, .null)) rfl
theorem eX4_letCrossersGo_48 : decode mX4_letCrossersGo.2.1 48 = .ok (.if_icmp .eq 6, 3) := px_tab_at tX4_letCrossersGo_ok 26 (e := (48, 3, .if_icmp .eq 6, 0, 0, .null)) rfl
theorem eX4_letCrossersGo_51 : decode mX4_letCrossersGo.2.1 51 = .ok (.goto 90, 3) := px_tab_at tX4_letCrossersGo_ok 27 (e := (51, 3, .goto 90, 0, 0, .null)) rfl
theorem eX4_letCrossersGo_62 : decode mX4_letCrossersGo.2.1 62 = .ok (.if_icmp .ne 45, 3) := px_tab_at tX4_letCrossersGo_ok 32 (e := (62, 3, .if_icmp .ne 45, 0, 0, .null)) rfl
theorem eX4_letCrossersGo_104 : decode mX4_letCrossersGo.2.1 104 = .ok (.goto 37, 3) := px_tab_at tX4_letCrossersGo_ok 56 (e := (104, 3, .goto 37, 0, 0, .null)) rfl
theorem eX4_letCrossersGo_110 : decode mX4_letCrossersGo.2.1 110 = .ok (.invokevirtual 151, 3) := px_tab_at tX4_letCrossersGo_ok 60 (e := (110, 3, .invokevirtual 151, 0, 0, .null)) rfl
theorem eX4_letCrossersGo_127 : decode mX4_letCrossersGo.2.1 127 = .ok (.invokevirtual 62, 3) := px_tab_at tX4_letCrossersGo_ok 70 (e := (127, 3, .invokevirtual 62, 0, 0, .null)) rfl
theorem eX4_letCrossersGo_130 : decode mX4_letCrossersGo.2.1 130 = .ok (.if_icmp .gt 11, 3) := px_tab_at tX4_letCrossersGo_ok 71 (e := (130, 3, .if_icmp .gt 11, 0, 0, .null)) rfl
theorem eX4_letCrossersGo_144 : decode mX4_letCrossersGo.2.1 144 = .ok (.goto (-116), 3) := px_tab_at tX4_letCrossersGo_ok 78 (e := (144, 3, .goto (-116), 0, 0, .null)) rfl
theorem eX4_letCrossersGo_150 : decode mX4_letCrossersGo.2.1 150 = .ok (.goto (-142), 3) := px_tab_at tX4_letCrossersGo_ok 80 (e := (150, 3, .goto (-142), 0, 0, .null)) rfl
theorem eX4_letCrossersGo_153 : decode mX4_letCrossersGo.2.1 153 = .ok (.return_, 1) := px_tab_at tX4_letCrossersGo_ok 81 (e := (153, 1, .return_, 0, 0, .null)) rfl
theorem eX5_init_1 : decode mX5_init.2.1 1 = .ok (.invokespecial 3, 3) := px_tab_at tX5_init_ok 1 (e := (1, 3, .invokespecial 3, 0, 0, .null)) rfl
theorem eX5_init_7 : decode mX5_init.2.1 7 = .ok (.newarray .int, 2) := px_tab_at tX5_init_ok 4 (e := (7, 2, .newarray .int, 0, 0, .null)) rfl
set_option maxRecDepth 100000 in
theorem eX5_init_9 : decode mX5_init.2.1 9 = .ok (.putfield 11, 3) := by decide +kernel
theorem eX5_init_15 : decode mX5_init.2.1 15 = .ok (.newarray .int, 2) := px_tab_at tX5_init_ok 7 (e := (15, 2, .newarray .int, 0, 0, .null)) rfl
set_option maxRecDepth 100000 in
theorem eX5_init_17 : decode mX5_init.2.1 17 = .ok (.putfield 15, 3) := by decide +kernel
theorem eX5_init_23 : decode mX5_init.2.1 23 = .ok (.newarray .int, 2) := px_tab_at tX5_init_ok 10 (e := (23, 2, .newarray .int, 0, 0, .null)) rfl
set_option maxRecDepth 100000 in
theorem eX5_init_25 : decode mX5_init.2.1 25 = .ok (.putfield 18, 3) := by decide +kernel
theorem eX5_init_31 : decode mX5_init.2.1 31 = .ok (.newarray .int, 2) := px_tab_at tX5_init_ok 13 (e := (31, 2, .newarray .int, 0, 0, .null)) rfl
set_option maxRecDepth 100000 in
theorem eX5_init_33 : decode mX5_init.2.1 33 = .ok (.putfield 21, 3) := by decide +kernel
theorem eX5_init_37 : decode mX5_init.2.1 37 = .ok (.new 24, 3) := px_tab_at tX5_init_ok 15 (e := (37, 3, .new 24, 0, 0, .null)) rfl
theorem eX5_init_41 : decode mX5_init.2.1 41 = .ok (.invokespecial 26, 3) := px_tab_at tX5_init_ok 17 (e := (41, 3, .invokespecial 26, 0, 0, .null)) rfl
set_option maxRecDepth 100000 in
theorem eX5_init_44 : decode mX5_init.2.1 44 = .ok (.putfield 27, 3) := by decide +kernel
set_option maxRecDepth 100000 in
theorem eX5_init_49 : decode mX5_init.2.1 49 = .ok (.putfield 31, 3) := by decide +kernel
theorem eX5_init_52 : decode mX5_init.2.1 52 = .ok (.return_, 1) := px_tab_at tX5_init_ok 20 (e := (52, 1, .return_, 0, 0, .null)) rfl
theorem eX5_add_6 : decode mX5_add.2.1 6 = .ok (.if_icmp .lt 5, 3) := px_tab_at tX5_add_ok 3 (e := (6, 3, .if_icmp .lt 5, 0, 0, .null)) rfl
theorem eX5_add_10 : decode mX5_add.2.1 10 = .ok (.ireturn, 1) := px_tab_at tX5_add_ok 5 (e := (10, 1, .ireturn, 0, 0, .null)) rfl
theorem eX5_add_47 : decode mX5_add.2.1 47 = .ok (.ireturn, 1) := px_tab_at tX5_add_ok 28 (e := (47, 1, .ireturn, 0, 0, .null)) rfl
theorem eX5_findSets_5 : decode mX5_findSets.2.1 5 = .ok (.invokevirtual 39, 3) := px_tab_at tX5_findSets_ok 3 (e := (5, 3, .invokevirtual 39, 0, 0, .null)) rfl
theorem eX5_findSets_34 : decode mX5_findSets.2.1 34 = .ok (.if_icmp .gt 73, 3) := px_tab_at tX5_findSets_ok 20 (e := (34, 3, .if_icmp .gt 73, 0, 0, .null)) rfl
theorem eX5_findSets_43 : decode mX5_findSets.2.1 43 = .ok (.if_icmp .ge 64, 3) := px_tab_at tX5_findSets_ok 24 (e := (43, 3, .if_icmp .ge 64, 0, 0, .null)) rfl
theorem eX5_findSets_66 : decode mX5_findSets.2.1 66 = .ok (.invokevirtual 60, 3) := px_tab_at tX5_findSets_ok 34 (e := (66, 3, .invokevirtual 60, 0, 0, .null)) rfl
theorem eX5_findSets_74 : decode mX5_findSets.2.1 74 = .ok (.invokevirtual 67, 3) := px_tab_at tX5_findSets_ok 38 (e := (74, 3, .invokevirtual 67, 0, 0, .null)) rfl
theorem eX5_findSets_77 : decode mX5_findSets.2.1 77 = .ok (.ifCond .eq 24, 3) := px_tab_at tX5_findSets_ok 39 (e := (77, 3, .ifCond .eq 24, 0, 0, .null)) rfl
theorem eX5_findSets_104 : decode mX5_findSets.2.1 104 = .ok (.goto (-73), 3) := px_tab_at tX5_findSets_ok 53 (e := (104, 3, .goto (-73), 0, 0, .null)) rfl
theorem eX5_findSets_111 : decode mX5_findSets.2.1 111 = .ok (.ireturn, 1) := px_tab_at tX5_findSets_ok 56 (e := (111, 1, .ireturn, 0, 0, .null)) rfl
theorem eX5_isSo_4 : decode mX5_isSo.2.1 4 = .ok (.if_icmp .ge 43, 3) := px_tab_at tX5_isSo_ok 4 (e := (4, 3, .if_icmp .ge 43, 0, 0, .null)) rfl
theorem eX5_isSo_10 : decode mX5_isSo.2.1 10 = .ok (.if_icmp .ge 37, 3) := px_tab_at tX5_isSo_ok 7 (e := (10, 3, .if_icmp .ge 37, 0, 0, .null)) rfl
theorem eX5_isSo_27 : decode mX5_isSo.2.1 27 = .ok (.invokevirtual 71, 3) := px_tab_at tX5_isSo_ok 16 (e := (27, 3, .invokevirtual 71, 0, 0, .null)) rfl
theorem eX5_isSo_36 : decode mX5_isSo.2.1 36 = .ok (.if_icmp .eq 5, 3) := px_tab_at tX5_isSo_ok 21 (e := (36, 3, .if_icmp .eq 5, 0, 0, .null)) rfl
theorem eX5_isSo_40 : decode mX5_isSo.2.1 40 = .ok (.ireturn, 1) := px_tab_at tX5_isSo_ok 23 (e := (40, 1, .ireturn, 0, 0, .null)) rfl
theorem eX5_isSo_44 : decode mX5_isSo.2.1 44 = .ok (.goto (-42), 3) := px_tab_at tX5_isSo_ok 25 (e := (44, 3, .goto (-42), 0, 0, .null)) rfl
theorem eX5_isSo_48 : decode mX5_isSo.2.1 48 = .ok (.ireturn, 1) := px_tab_at tX5_isSo_ok 27 (e := (48, 1, .ireturn, 0, 0, .null)) rfl
theorem eX5_bestQuestion_18 : decode mX5_bestQuestion.2.1 18 = .ok (.if_icmp .ge 27, 3) := px_tab_at tX5_bestQuestion_ok 11 (e := (18, 3, .if_icmp .ge 27, 0, 0, .null)) rfl
theorem eX5_bestQuestion_23 : decode mX5_bestQuestion.2.1 23 = .ok (.invokevirtual 77, 3) := px_tab_at tX5_bestQuestion_ok 14 (e := (23, 3, .invokevirtual 77, 0, 0, .null)) rfl
theorem eX5_bestQuestion_31 : decode mX5_bestQuestion.2.1 31 = .ok (.if_icmp .ge 8, 3) := px_tab_at tX5_bestQuestion_ok 18 (e := (31, 3, .if_icmp .ge 8, 0, 0, .null)) rfl
theorem eX5_bestQuestion_42 : decode mX5_bestQuestion.2.1 42 = .ok (.goto (-35), 3) := px_tab_at tX5_bestQuestion_ok 24 (e := (42, 3, .goto (-35), 0, 0, .null)) rfl
theorem eX5_bestQuestion_46 : decode mX5_bestQuestion.2.1 46 = .ok (.ireturn, 1) := px_tab_at tX5_bestQuestion_ok 26 (e := (46, 1, .ireturn, 0, 0, .null)) rfl
theorem eX5_mostLeft_9 : decode mX5_mostLeft.2.1 9 = .ok (.if_icmp .ge 108, 3) := px_tab_at tX5_mostLeft_ok 7 (e := (9, 3, .if_icmp .ge 108, 0, 0, .null)) rfl
theorem eX5_mostLeft_36 : decode mX5_mostLeft.2.1 36 = .ok (.invokevirtual 60, 3) := px_tab_at tX5_mostLeft_ok 20 (e := (36, 3, .invokevirtual 60, 0, 0, .null)) rfl
theorem eX5_mostLeft_56 : decode mX5_mostLeft.2.1 56 = .ok (.invokevirtual 71, 3) := px_tab_at tX5_mostLeft_ok 30 (e := (56, 3, .invokevirtual 71, 0, 0, .null)) rfl
theorem eX5_mostLeft_69 : decode mX5_mostLeft.2.1 69 = .ok (.if_icmp .gt 35, 3) := px_tab_at tX5_mostLeft_ok 38 (e := (69, 3, .if_icmp .gt 35, 0, 0, .null)) rfl
theorem eX5_mostLeft_87 : decode mX5_mostLeft.2.1 87 = .ok (.if_icmp .ne 7, 3) := px_tab_at tX5_mostLeft_ok 48 (e := (87, 3, .if_icmp .ne 7, 0, 0, .null)) rfl
theorem eX5_mostLeft_91 : decode mX5_mostLeft.2.1 91 = .ok (.goto 4, 3) := px_tab_at tX5_mostLeft_ok 50 (e := (91, 3, .goto 4, 0, 0, .null)) rfl
theorem eX5_mostLeft_101 : decode mX5_mostLeft.2.1 101 = .ok (.goto (-35), 3) := px_tab_at tX5_mostLeft_ok 55 (e := (101, 3, .goto (-35), 0, 0, .null)) rfl
theorem eX5_mostLeft_107 : decode mX5_mostLeft.2.1 107 = .ok (.invokestatic 81, 3) := px_tab_at tX5_mostLeft_ok 58 (e := (107, 3, .invokestatic 81, 0, 0, .null)) rfl
theorem eX5_mostLeft_114 : decode mX5_mostLeft.2.1 114 = .ok (.goto (-110), 3) := px_tab_at tX5_mostLeft_ok 61 (e := (114, 3, .goto (-110), 0, 0, .null)) rfl
theorem eX5_mostLeft_118 : decode mX5_mostLeft.2.1 118 = .ok (.ireturn, 1) := px_tab_at tX5_mostLeft_ok 63 (e := (118, 1, .ireturn, 0, 0, .null)) rfl
theorem eX6_init_1 : decode mX6_init.2.1 1 = .ok (.invokespecial 3, 3) := px_tab_at tX6_init_ok 1 (e := (1, 3, .invokespecial 3, 0, 0, .null)) rfl
theorem eX6_init_7 : decode mX6_init.2.1 7 = .ok (.invokestatic 9, 3) := px_tab_at tX6_init_ok 5 (e := (7, 3, .invokestatic 9, 0, 0, .null)) rfl
theorem eX6_init_13 : decode mX6_init.2.1 13 = .ok (.newarray .int, 2) := px_tab_at tX6_init_ok 8 (e := (13, 2, .newarray .int, 0, 0, .null)) rfl
set_option maxRecDepth 100000 in
theorem eX6_init_15 : decode mX6_init.2.1 15 = .ok (.putfield 17, 3) := by decide +kernel
theorem eX6_init_18 : decode mX6_init.2.1 18 = .ok (.return_, 1) := px_tab_at tX6_init_ok 9 (e := (18, 1, .return_, 0, 0, .null)) rfl
theorem eX6_has_1 : decode mX6_has.2.1 1 = .ok (.ifCond .lt 19, 3) := px_tab_at tX6_has_ok 1 (e := (1, 3, .ifCond .lt 19, 0, 0, .null)) rfl
theorem eX6_has_13 : decode mX6_has.2.1 13 = .ok (.if_icmp .ge 7, 3) := px_tab_at tX6_has_ok 8 (e := (13, 3, .if_icmp .ge 7, 0, 0, .null)) rfl
theorem eX6_has_17 : decode mX6_has.2.1 17 = .ok (.goto 4, 3) := px_tab_at tX6_has_ok 10 (e := (17, 3, .goto 4, 0, 0, .null)) rfl
theorem eX6_has_21 : decode mX6_has.2.1 21 = .ok (.ireturn, 1) := px_tab_at tX6_has_ok 12 (e := (21, 1, .ireturn, 0, 0, .null)) rfl
theorem eX6_store_2 : decode mX6_store.2.1 2 = .ok (.invokevirtual 23, 3) := px_tab_at tX6_store_ok 2 (e := (2, 3, .invokevirtual 23, 0, 0, .null)) rfl
theorem eX6_store_5 : decode mX6_store.2.1 5 = .ok (.ifCond .ne 4, 3) := px_tab_at tX6_store_ok 3 (e := (5, 3, .ifCond .ne 4, 0, 0, .null)) rfl
theorem eX6_store_8 : decode mX6_store.2.1 8 = .ok (.return_, 1) := px_tab_at tX6_store_ok 4 (e := (8, 1, .return_, 0, 0, .null)) rfl
theorem eX6_store_87 : decode mX6_store.2.1 87 = .ok (.invokestatic 46, 3) := px_tab_at tX6_store_ok 55 (e := (87, 3, .invokestatic 46, 0, 0, .null)) rfl
theorem eX6_store_105 : decode mX6_store.2.1 105 = .ok (.invokestatic 46, 3) := px_tab_at tX6_store_ok 64 (e := (105, 3, .invokestatic 46, 0, 0, .null)) rfl
theorem eX6_store_122 : decode mX6_store.2.1 122 = .ok (.invokestatic 46, 3) := px_tab_at tX6_store_ok 73 (e := (122, 3, .invokestatic 46, 0, 0, .null)) rfl
theorem eX6_store_139 : decode mX6_store.2.1 139 = .ok (.invokestatic 46, 3) := px_tab_at tX6_store_ok 82 (e := (139, 3, .invokestatic 46, 0, 0, .null)) rfl
theorem eX6_store_142 : decode mX6_store.2.1 142 = .ok (.return_, 1) := px_tab_at tX6_store_ok 83 (e := (142, 1, .return_, 0, 0, .null)) rfl
theorem eX6_fetch_2 : decode mX6_fetch.2.1 2 = .ok (.invokevirtual 23, 3) := px_tab_at tX6_fetch_ok 2 (e := (2, 3, .invokevirtual 23, 0, 0, .null)) rfl
theorem eX6_fetch_5 : decode mX6_fetch.2.1 5 = .ok (.ifCond .ne 4, 3) := px_tab_at tX6_fetch_ok 3 (e := (5, 3, .ifCond .ne 4, 0, 0, .null)) rfl
theorem eX6_fetch_8 : decode mX6_fetch.2.1 8 = .ok (.return_, 1) := px_tab_at tX6_fetch_ok 4 (e := (8, 1, .return_, 0, 0, .null)) rfl
theorem eX6_fetch_87 : decode mX6_fetch.2.1 87 = .ok (.invokestatic 46, 3) := px_tab_at tX6_fetch_ok 55 (e := (87, 3, .invokestatic 46, 0, 0, .null)) rfl
theorem eX6_fetch_105 : decode mX6_fetch.2.1 105 = .ok (.invokestatic 46, 3) := px_tab_at tX6_fetch_ok 64 (e := (105, 3, .invokestatic 46, 0, 0, .null)) rfl
theorem eX6_fetch_122 : decode mX6_fetch.2.1 122 = .ok (.invokestatic 46, 3) := px_tab_at tX6_fetch_ok 73 (e := (122, 3, .invokestatic 46, 0, 0, .null)) rfl
theorem eX6_fetch_139 : decode mX6_fetch.2.1 139 = .ok (.invokestatic 46, 3) := px_tab_at tX6_fetch_ok 82 (e := (139, 3, .invokestatic 46, 0, 0, .null)) rfl
theorem eX6_fetch_142 : decode mX6_fetch.2.1 142 = .ok (.return_, 1) := px_tab_at tX6_fetch_ok 83 (e := (142, 1, .return_, 0, 0, .null)) rfl
theorem eX7_init_1 : decode mX7_init.2.1 1 = .ok (.invokespecial 3, 3) := px_tab_at tX7_init_ok 1 (e := (1, 3, .invokespecial 3, 0, 0, .null)) rfl
theorem eX7_init_7 : decode mX7_init.2.1 7 = .ok (.newarray .long, 2) := px_tab_at tX7_init_ok 4 (e := (7, 2, .newarray .long, 0, 0, .null)) rfl
set_option maxRecDepth 100000 in
theorem eX7_init_9 : decode mX7_init.2.1 9 = .ok (.putfield 9, 3) := by decide +kernel
theorem eX7_init_15 : decode mX7_init.2.1 15 = .ok (.newarray .int, 2) := px_tab_at tX7_init_ok 7 (e := (15, 2, .newarray .int, 0, 0, .null)) rfl
set_option maxRecDepth 100000 in
theorem eX7_init_17 : decode mX7_init.2.1 17 = .ok (.putfield 15, 3) := by decide +kernel
theorem eX7_init_23 : decode mX7_init.2.1 23 = .ok (.newarray .int, 2) := px_tab_at tX7_init_ok 10 (e := (23, 2, .newarray .int, 0, 0, .null)) rfl
set_option maxRecDepth 100000 in
theorem eX7_init_25 : decode mX7_init.2.1 25 = .ok (.putfield 19, 3) := by decide +kernel
theorem eX7_init_31 : decode mX7_init.2.1 31 = .ok (.newarray .int, 2) := px_tab_at tX7_init_ok 13 (e := (31, 2, .newarray .int, 0, 0, .null)) rfl
set_option maxRecDepth 100000 in
theorem eX7_init_33 : decode mX7_init.2.1 33 = .ok (.putfield 22, 3) := by decide +kernel
theorem eX7_init_39 : decode mX7_init.2.1 39 = .ok (.newarray .int, 2) := px_tab_at tX7_init_ok 16 (e := (39, 2, .newarray .int, 0, 0, .null)) rfl
set_option maxRecDepth 100000 in
theorem eX7_init_41 : decode mX7_init.2.1 41 = .ok (.putfield 25, 3) := by decide +kernel
theorem eX7_init_47 : decode mX7_init.2.1 47 = .ok (.newarray .int, 2) := px_tab_at tX7_init_ok 19 (e := (47, 2, .newarray .int, 0, 0, .null)) rfl
set_option maxRecDepth 100000 in
theorem eX7_init_49 : decode mX7_init.2.1 49 = .ok (.putfield 28, 3) := by decide +kernel
theorem eX7_init_54 : decode mX7_init.2.1 54 = .ok (.newarray .long, 2) := px_tab_at tX7_init_ok 22 (e := (54, 2, .newarray .long, 0, 0, .null)) rfl
set_option maxRecDepth 100000 in
theorem eX7_init_56 : decode mX7_init.2.1 56 = .ok (.putfield 31, 3) := by decide +kernel
theorem eX7_init_61 : decode mX7_init.2.1 61 = .ok (.newarray .int, 2) := px_tab_at tX7_init_ok 25 (e := (61, 2, .newarray .int, 0, 0, .null)) rfl
set_option maxRecDepth 100000 in
theorem eX7_init_63 : decode mX7_init.2.1 63 = .ok (.putfield 34, 3) := by decide +kernel
theorem eX7_init_68 : decode mX7_init.2.1 68 = .ok (.newarray .int, 2) := px_tab_at tX7_init_ok 28 (e := (68, 2, .newarray .int, 0, 0, .null)) rfl
set_option maxRecDepth 100000 in
theorem eX7_init_70 : decode mX7_init.2.1 70 = .ok (.putfield 37, 3) := by decide +kernel
theorem eX7_init_75 : decode mX7_init.2.1 75 = .ok (.newarray .int, 2) := px_tab_at tX7_init_ok 31 (e := (75, 2, .newarray .int, 0, 0, .null)) rfl
set_option maxRecDepth 100000 in
theorem eX7_init_77 : decode mX7_init.2.1 77 = .ok (.putfield 40, 3) := by decide +kernel
theorem eX7_init_81 : decode mX7_init.2.1 81 = .ok (.new 43, 3) := px_tab_at tX7_init_ok 33 (e := (81, 3, .new 43, 0, 0, .null)) rfl
theorem eX7_init_85 : decode mX7_init.2.1 85 = .ok (.invokespecial 45, 3) := px_tab_at tX7_init_ok 35 (e := (85, 3, .invokespecial 45, 0, 0, .null)) rfl
set_option maxRecDepth 100000 in
theorem eX7_init_88 : decode mX7_init.2.1 88 = .ok (.putfield 46, 3) := by decide +kernel
theorem eX7_init_92 : decode mX7_init.2.1 92 = .ok (.invokevirtual 50, 3) := px_tab_at tX7_init_ok 37 (e := (92, 3, .invokevirtual 50, 0, 0, .null)) rfl
theorem eX7_init_95 : decode mX7_init.2.1 95 = .ok (.return_, 1) := px_tab_at tX7_init_ok 38 (e := (95, 1, .return_, 0, 0, .null)) rfl
theorem eX7_clear_40 : decode mX7_clear.2.1 40 = .ok (.invokevirtual 75, 3) := px_tab_at tX7_clear_ok 23 (e := (40, 3, .invokevirtual 75, 0, 0, .null)) rfl
theorem eX7_clear_43 : decode mX7_clear.2.1 43 = .ok (.return_, 1) := px_tab_at tX7_clear_ok 24 (e := (43, 1, .return_, 0, 0, .null)) rfl
theorem eX7_asleepAt_5 : decode mX7_asleepAt.2.1 5 = .ok (.if_icmp .lt 7, 3) := px_tab_at tX7_asleepAt_ok 3 (e := (5, 3, .if_icmp .lt 7, 0, 0, .null)) rfl
theorem eX7_asleepAt_9 : decode mX7_asleepAt.2.1 9 = .ok (.goto 15, 3) := px_tab_at tX7_asleepAt_ok 5 (e := (9, 3, .goto 15, 0, 0, .null)) rfl
theorem eX7_asleepAt_24 : decode mX7_asleepAt.2.1 24 = .ok (.ireturn, 1) := px_tab_at tX7_asleepAt_ok 16 (e := (24, 1, .ireturn, 0, 0, .null)) rfl
theorem eX7_sleeperNamed_7 : decode mX7_sleeperNamed.2.1 7 = .ok (.if_icmp .ge 22, 3) := px_tab_at tX7_sleeperNamed_ok 5 (e := (7, 3, .if_icmp .ge 22, 0, 0, .null)) rfl
theorem eX7_sleeperNamed_18 : decode mX7_sleeperNamed.2.1 18 = .ok (.ifCond .ne 5, 3) := px_tab_at tX7_sleeperNamed_ok 12 (e := (18, 3, .ifCond .ne 5, 0, 0, .null)) rfl
theorem eX7_sleeperNamed_22 : decode mX7_sleeperNamed.2.1 22 = .ok (.ireturn, 1) := px_tab_at tX7_sleeperNamed_ok 14 (e := (22, 1, .ireturn, 0, 0, .null)) rfl
theorem eX7_sleeperNamed_26 : decode mX7_sleeperNamed.2.1 26 = .ok (.goto (-24), 3) := px_tab_at tX7_sleeperNamed_ok 16 (e := (26, 3, .goto (-24), 0, 0, .null)) rfl
theorem eX7_sleeperNamed_30 : decode mX7_sleeperNamed.2.1 30 = .ok (.ireturn, 1) := px_tab_at tX7_sleeperNamed_ok 18 (e := (30, 1, .ireturn, 0, 0, .null)) rfl
theorem eX7_isTaken_7 : decode mX7_isTaken.2.1 7 = .ok (.if_icmp .ge 22, 3) := px_tab_at tX7_isTaken_ok 5 (e := (7, 3, .if_icmp .ge 22, 0, 0, .null)) rfl
theorem eX7_isTaken_18 : decode mX7_isTaken.2.1 18 = .ok (.ifCond .ne 5, 3) := px_tab_at tX7_isTaken_ok 12 (e := (18, 3, .ifCond .ne 5, 0, 0, .null)) rfl
theorem eX7_isTaken_22 : decode mX7_isTaken.2.1 22 = .ok (.ireturn, 1) := px_tab_at tX7_isTaken_ok 14 (e := (22, 1, .ireturn, 0, 0, .null)) rfl
theorem eX7_isTaken_26 : decode mX7_isTaken.2.1 26 = .ok (.goto (-24), 3) := px_tab_at tX7_isTaken_ok 16 (e := (26, 3, .goto (-24), 0, 0, .null)) rfl
theorem eX7_isTaken_31 : decode mX7_isTaken.2.1 31 = .ok (.invokevirtual 76, 3) := px_tab_at tX7_isTaken_ok 19 (e := (31, 3, .invokevirtual 76, 0, 0, .null)) rfl
theorem eX7_isTaken_35 : decode mX7_isTaken.2.1 35 = .ok (.if_icmp .eq 7, 3) := px_tab_at tX7_isTaken_ok 21 (e := (35, 3, .if_icmp .eq 7, 0, 0, .null)) rfl
theorem eX7_isTaken_39 : decode mX7_isTaken.2.1 39 = .ok (.goto 4, 3) := px_tab_at tX7_isTaken_ok 23 (e := (39, 3, .goto 4, 0, 0, .null)) rfl
theorem eX7_isTaken_43 : decode mX7_isTaken.2.1 43 = .ok (.ireturn, 1) := px_tab_at tX7_isTaken_ok 25 (e := (43, 1, .ireturn, 0, 0, .null)) rfl
theorem eX7_hasPair_7 : decode mX7_hasPair.2.1 7 = .ok (.if_icmp .ge 21, 3) := px_tab_at tX7_hasPair_ok 5 (e := (7, 3, .if_icmp .ge 21, 0, 0, .null)) rfl
theorem eX7_hasPair_17 : decode mX7_hasPair.2.1 17 = .ok (.if_icmp .ne 5, 3) := px_tab_at tX7_hasPair_ok 11 (e := (17, 3, .if_icmp .ne 5, 0, 0, .null)) rfl
theorem eX7_hasPair_21 : decode mX7_hasPair.2.1 21 = .ok (.ireturn, 1) := px_tab_at tX7_hasPair_ok 13 (e := (21, 1, .ireturn, 0, 0, .null)) rfl
theorem eX7_hasPair_25 : decode mX7_hasPair.2.1 25 = .ok (.goto (-23), 3) := px_tab_at tX7_hasPair_ok 15 (e := (25, 3, .goto (-23), 0, 0, .null)) rfl
theorem eX7_hasPair_29 : decode mX7_hasPair.2.1 29 = .ok (.ireturn, 1) := px_tab_at tX7_hasPair_ok 17 (e := (29, 1, .ireturn, 0, 0, .null)) rfl
theorem eX7_someLieOutside_7 : decode mX7_someLieOutside.2.1 7 = .ok (.if_icmp .ge 24, 3) := px_tab_at tX7_someLieOutside_ok 5 (e := (7, 3, .if_icmp .ge 24, 0, 0, .null)) rfl
theorem eX7_someLieOutside_20 : decode mX7_someLieOutside.2.1 20 = .ok (.if_icmp .lt 5, 3) := px_tab_at tX7_someLieOutside_ok 12 (e := (20, 3, .if_icmp .lt 5, 0, 0, .null)) rfl
theorem eX7_someLieOutside_24 : decode mX7_someLieOutside.2.1 24 = .ok (.ireturn, 1) := px_tab_at tX7_someLieOutside_ok 14 (e := (24, 1, .ireturn, 0, 0, .null)) rfl
theorem eX7_someLieOutside_28 : decode mX7_someLieOutside.2.1 28 = .ok (.goto (-26), 3) := px_tab_at tX7_someLieOutside_ok 16 (e := (28, 3, .goto (-26), 0, 0, .null)) rfl
theorem eX7_someLieOutside_32 : decode mX7_someLieOutside.2.1 32 = .ok (.ireturn, 1) := px_tab_at tX7_someLieOutside_ok 18 (e := (32, 1, .ireturn, 0, 0, .null)) rfl
theorem eX7_wagesOf_9 : decode mX7_wagesOf.2.1 9 = .ok (.if_icmp .ge 31, 3) := px_tab_at tX7_wagesOf_ok 7 (e := (9, 3, .if_icmp .ge 31, 0, 0, .null)) rfl
theorem eX7_wagesOf_19 : decode mX7_wagesOf.2.1 19 = .ok (.if_icmp .ne 12, 3) := px_tab_at tX7_wagesOf_ok 15 (e := (19, 3, .if_icmp .ne 12, 0, 0, .null)) rfl
theorem eX7_wagesOf_28 : decode mX7_wagesOf.2.1 28 = .ok (.goto 4, 3) := px_tab_at tX7_wagesOf_ok 20 (e := (28, 3, .goto 4, 0, 0, .null)) rfl
theorem eX7_wagesOf_37 : decode mX7_wagesOf.2.1 37 = .ok (.goto (-33), 3) := px_tab_at tX7_wagesOf_ok 25 (e := (37, 3, .goto (-33), 0, 0, .null)) rfl
theorem eX7_wagesOf_41 : decode mX7_wagesOf.2.1 41 = .ok (.ireturn, 1) := px_tab_at tX7_wagesOf_ok 27 (e := (41, 1, .ireturn, 0, 0, .null)) rfl
theorem eX8_init_1 : decode mX8_init.2.1 1 = .ok (.invokespecial 1, 3) := px_tab_at tX8_init_ok 1 (e := (1, 3, .invokespecial 1, 0, 0, .null)) rfl
theorem eX8_init_5 : decode mX8_init.2.1 5 = .ok (.new 7, 3) := px_tab_at tX8_init_ok 3 (e := (5, 3, .new 7, 0, 0, .null)) rfl
theorem eX8_init_9 : decode mX8_init.2.1 9 = .ok (.invokespecial 9, 3) := px_tab_at tX8_init_ok 5 (e := (9, 3, .invokespecial 9, 0, 0, .null)) rfl
theorem eX8_init_16 : decode mX8_init.2.1 16 = .ok (.new 7, 3) := px_tab_at tX8_init_ok 8 (e := (16, 3, .new 7, 0, 0, .null)) rfl
theorem eX8_init_20 : decode mX8_init.2.1 20 = .ok (.invokespecial 9, 3) := px_tab_at tX8_init_ok 10 (e := (20, 3, .invokespecial 9, 0, 0, .null)) rfl
theorem eX8_init_27 : decode mX8_init.2.1 27 = .ok (.new 19, 3) := px_tab_at tX8_init_ok 13 (e := (27, 3, .new 19, 0, 0, .null)) rfl
theorem eX8_init_31 : decode mX8_init.2.1 31 = .ok (.invokespecial 21, 3) := px_tab_at tX8_init_ok 15 (e := (31, 3, .invokespecial 21, 0, 0, .null)) rfl
set_option maxRecDepth 100000 in
theorem eX8_init_34 : decode mX8_init.2.1 34 = .ok (.putfield 22, 3) := by decide +kernel
theorem eX8_init_38 : decode mX8_init.2.1 38 = .ok (.new 26, 3) := px_tab_at tX8_init_ok 17 (e := (38, 3, .new 26, 0, 0, .null)) rfl
theorem eX8_init_46 : decode mX8_init.2.1 46 = .ok (.invokespecial 28, 3) := px_tab_at tX8_init_ok 21 (e := (46, 3, .invokespecial 28, 0, 0, .null)) rfl
set_option maxRecDepth 100000 in
theorem eX8_init_49 : decode mX8_init.2.1 49 = .ok (.putfield 31, 3) := by decide +kernel
theorem eX8_init_53 : decode mX8_init.2.1 53 = .ok (.new 35, 3) := px_tab_at tX8_init_ok 23 (e := (53, 3, .new 35, 0, 0, .null)) rfl
theorem eX8_init_61 : decode mX8_init.2.1 61 = .ok (.invokespecial 37, 3) := px_tab_at tX8_init_ok 27 (e := (61, 3, .invokespecial 37, 0, 0, .null)) rfl
set_option maxRecDepth 100000 in
theorem eX8_init_64 : decode mX8_init.2.1 64 = .ok (.putfield 40, 3) := by decide +kernel
theorem eX8_init_68 : decode mX8_init.2.1 68 = .ok (.new 44, 3) := px_tab_at tX8_init_ok 29 (e := (68, 3, .new 44, 0, 0, .null)) rfl
theorem eX8_init_76 : decode mX8_init.2.1 76 = .ok (.invokespecial 46, 3) := px_tab_at tX8_init_ok 33 (e := (76, 3, .invokespecial 46, 0, 0, .null)) rfl
set_option maxRecDepth 100000 in
theorem eX8_init_79 : decode mX8_init.2.1 79 = .ok (.putfield 47, 3) := by decide +kernel
theorem eX8_init_83 : decode mX8_init.2.1 83 = .ok (.new 51, 3) := px_tab_at tX8_init_ok 35 (e := (83, 3, .new 51, 0, 0, .null)) rfl
theorem eX8_init_87 : decode mX8_init.2.1 87 = .ok (.invokespecial 53, 3) := px_tab_at tX8_init_ok 37 (e := (87, 3, .invokespecial 53, 0, 0, .null)) rfl
set_option maxRecDepth 100000 in
theorem eX8_init_90 : decode mX8_init.2.1 90 = .ok (.putfield 54, 3) := by decide +kernel
theorem eX8_init_94 : decode mX8_init.2.1 94 = .ok (.new 51, 3) := px_tab_at tX8_init_ok 39 (e := (94, 3, .new 51, 0, 0, .null)) rfl
theorem eX8_init_98 : decode mX8_init.2.1 98 = .ok (.invokespecial 53, 3) := px_tab_at tX8_init_ok 41 (e := (98, 3, .invokespecial 53, 0, 0, .null)) rfl
set_option maxRecDepth 100000 in
theorem eX8_init_101 : decode mX8_init.2.1 101 = .ok (.putfield 58, 3) := by decide +kernel
theorem eX8_init_105 : decode mX8_init.2.1 105 = .ok (.new 61, 3) := px_tab_at tX8_init_ok 43 (e := (105, 3, .new 61, 0, 0, .null)) rfl
theorem eX8_init_111 : decode mX8_init.2.1 111 = .ok (.invokespecial 63, 3) := px_tab_at tX8_init_ok 46 (e := (111, 3, .invokespecial 63, 0, 0, .null)) rfl
set_option maxRecDepth 100000 in
theorem eX8_init_114 : decode mX8_init.2.1 114 = .ok (.putfield 66, 3) := by decide +kernel
theorem eX8_init_118 : decode mX8_init.2.1 118 = .ok (.new 61, 3) := px_tab_at tX8_init_ok 48 (e := (118, 3, .new 61, 0, 0, .null)) rfl
theorem eX8_init_123 : decode mX8_init.2.1 123 = .ok (.invokespecial 63, 3) := px_tab_at tX8_init_ok 51 (e := (123, 3, .invokespecial 63, 0, 0, .null)) rfl
set_option maxRecDepth 100000 in
theorem eX8_init_126 : decode mX8_init.2.1 126 = .ok (.putfield 70, 3) := by decide +kernel
theorem eX8_init_130 : decode mX8_init.2.1 130 = .ok (.invokevirtual 73, 3) := px_tab_at tX8_init_ok 53 (e := (130, 3, .invokevirtual 73, 0, 0, .null)) rfl
theorem eX8_init_133 : decode mX8_init.2.1 133 = .ok (.return_, 1) := px_tab_at tX8_init_ok 54 (e := (133, 1, .return_, 0, 0, .null)) rfl
theorem eX8_feed_4 : decode mX8_feed.2.1 4 = .ok (.invokevirtual 76, 3) := px_tab_at tX8_feed_ok 2 (e := (4, 3, .invokevirtual 76, 0, 0, .null)) rfl
theorem eX8_feed_7 : decode mX8_feed.2.1 7 = .ok (.ifCond .ne 5, 3) := px_tab_at tX8_feed_ok 3 (e := (7, 3, .ifCond .ne 5, 0, 0, .null)) rfl
theorem eX8_feed_11 : decode mX8_feed.2.1 11 = .ok (.ireturn, 1) := px_tab_at tX8_feed_ok 5 (e := (11, 1, .ireturn, 0, 0, .null)) rfl
theorem eX8_feed_17 : decode mX8_feed.2.1 17 = .ok (.invokevirtual 80, 3) := px_tab_at tX8_feed_ok 9 (e := (17, 3, .invokevirtual 80, 0, 0, .null)) rfl
theorem eX8_feed_25 : decode mX8_feed.2.1 25 = .ok (.invokevirtual 80, 3) := px_tab_at tX8_feed_ok 13 (e := (25, 3, .invokevirtual 80, 0, 0, .null)) rfl
theorem eX8_feed_33 : decode mX8_feed.2.1 33 = .ok (.invokevirtual 80, 3) := px_tab_at tX8_feed_ok 17 (e := (33, 3, .invokevirtual 80, 0, 0, .null)) rfl
theorem eX8_feed_42 : decode mX8_feed.2.1 42 = .ok (.invokevirtual 80, 3) := px_tab_at tX8_feed_ok 21 (e := (42, 3, .invokevirtual 80, 0, 0, .null)) rfl
theorem eX8_feed_51 : decode mX8_feed.2.1 51 = .ok (.invokevirtual 80, 3) := px_tab_at tX8_feed_ok 25 (e := (51, 3, .invokevirtual 80, 0, 0, .null)) rfl
theorem eX8_feed_61 : decode mX8_feed.2.1 61 = .ok (.ireturn, 1) := px_tab_at tX8_feed_ok 29 (e := (61, 1, .ireturn, 0, 0, .null)) rfl
theorem eX8_back_1 : decode mX8_back.2.1 1 = .ok (.ifCond .lt 14, 3) := px_tab_at tX8_back_ok 1 (e := (1, 3, .ifCond .lt 14, 0, 0, .null)) rfl
theorem eX8_back_12 : decode mX8_back.2.1 12 = .ok (.if_icmp .le 5, 3) := px_tab_at tX8_back_ok 6 (e := (12, 3, .if_icmp .le 5, 0, 0, .null)) rfl
theorem eX8_back_16 : decode mX8_back.2.1 16 = .ok (.ireturn, 1) := px_tab_at tX8_back_ok 8 (e := (16, 1, .ireturn, 0, 0, .null)) rfl
theorem eX8_back_37 : decode mX8_back.2.1 37 = .ok (.ireturn, 1) := px_tab_at tX8_back_ok 19 (e := (37, 1, .ireturn, 0, 0, .null)) rfl
theorem eX8_read_8 : decode mX8_read.2.1 8 = .ok (.invokevirtual 87, 3) := px_tab_at tX8_read_ok 4 (e := (8, 3, .invokevirtual 87, 0, 0, .null)) rfl
theorem eX8_read_21 : decode mX8_read.2.1 21 = .ok (.ifCond .ne 25, 3) := px_tab_at tX8_read_ok 11 (e := (21, 3, .ifCond .ne 25, 0, 0, .null)) rfl
theorem eX8_read_43 : decode mX8_read.2.1 43 = .ok (.invokevirtual 73, 3) := px_tab_at tX8_read_ok 23 (e := (43, 3, .invokevirtual 73, 0, 0, .null)) rfl
theorem eX8_read_47 : decode mX8_read.2.1 47 = .ok (.ireturn, 1) := px_tab_at tX8_read_ok 25 (e := (47, 1, .ireturn, 0, 0, .null)) rfl
theorem eX8_place_7 : decode mX8_place.2.1 7 = .ok (.ireturn, 1) := px_tab_at tX8_place_ok 3 (e := (7, 1, .ireturn, 0, 0, .null)) rfl
theorem eX8_sleeper_2 : decode mX8_sleeper.2.1 2 = .ok (.invokevirtual 94, 3) := px_tab_at tX8_sleeper_ok 2 (e := (2, 3, .invokevirtual 94, 0, 0, .null)) rfl
theorem eX8_sleeper_5 : decode mX8_sleeper.2.1 5 = .ok (.ifCond .ne 5, 3) := px_tab_at tX8_sleeper_ok 3 (e := (5, 3, .ifCond .ne 5, 0, 0, .null)) rfl
theorem eX8_sleeper_9 : decode mX8_sleeper.2.1 9 = .ok (.ireturn, 1) := px_tab_at tX8_sleeper_ok 5 (e := (9, 1, .ireturn, 0, 0, .null)) rfl
theorem eX8_sleeper_11 : decode mX8_sleeper.2.1 11 = .ok (.tableswitch 102 0 5 #[37, 47, 57, 67, 77, 89], 37) := px_tab_at tX8_sleeper_ok 7 (e := (11, 37, .tableswitch 102 0 5 #[37, 47, 57, 67, 77, 89], 0, 0, .null)) rfl
theorem eX8_sleeper_57 : decode mX8_sleeper.2.1 57 = .ok (.ireturn, 1) := px_tab_at tX8_sleeper_ok 13 (e := (57, 1, .ireturn, 0, 0, .null)) rfl
theorem eX8_sleeper_67 : decode mX8_sleeper.2.1 67 = .ok (.ireturn, 1) := px_tab_at tX8_sleeper_ok 19 (e := (67, 1, .ireturn, 0, 0, .null)) rfl
theorem eX8_sleeper_77 : decode mX8_sleeper.2.1 77 = .ok (.ireturn, 1) := px_tab_at tX8_sleeper_ok 25 (e := (77, 1, .ireturn, 0, 0, .null)) rfl
theorem eX8_sleeper_87 : decode mX8_sleeper.2.1 87 = .ok (.ireturn, 1) := px_tab_at tX8_sleeper_ok 31 (e := (87, 1, .ireturn, 0, 0, .null)) rfl
theorem eX8_sleeper_99 : decode mX8_sleeper.2.1 99 = .ok (.ireturn, 1) := px_tab_at tX8_sleeper_ok 39 (e := (99, 1, .ireturn, 0, 0, .null)) rfl
theorem eX8_sleeper_109 : decode mX8_sleeper.2.1 109 = .ok (.invokevirtual 114, 3) := px_tab_at tX8_sleeper_ok 45 (e := (109, 3, .invokevirtual 114, 0, 0, .null)) rfl
theorem eX8_sleeper_112 : decode mX8_sleeper.2.1 112 = .ok (.ireturn, 1) := px_tab_at tX8_sleeper_ok 46 (e := (112, 1, .ireturn, 0, 0, .null)) rfl
theorem eX8_sleeper_114 : decode mX8_sleeper.2.1 114 = .ok (.ireturn, 1) := px_tab_at tX8_sleeper_ok 48 (e := (114, 1, .ireturn, 0, 0, .null)) rfl
theorem eX8_crosser_2 : decode mX8_crosser.2.1 2 = .ok (.invokevirtual 118, 3) := px_tab_at tX8_crosser_ok 2 (e := (2, 3, .invokevirtual 118, 0, 0, .null)) rfl
theorem eX8_crosser_5 : decode mX8_crosser.2.1 5 = .ok (.ifCond .ne 5, 3) := px_tab_at tX8_crosser_ok 3 (e := (5, 3, .ifCond .ne 5, 0, 0, .null)) rfl
theorem eX8_crosser_9 : decode mX8_crosser.2.1 9 = .ok (.ireturn, 1) := px_tab_at tX8_crosser_ok 5 (e := (9, 1, .ireturn, 0, 0, .null)) rfl
theorem eX8_crosser_11 : decode mX8_crosser.2.1 11 = .ok (.tableswitch 83 0 4 #[33, 43, 53, 63, 73], 33) := px_tab_at tX8_crosser_ok 7 (e := (11, 33, .tableswitch 83 0 4 #[33, 43, 53, 63, 73], 0, 0, .null)) rfl
theorem eX8_crosser_53 : decode mX8_crosser.2.1 53 = .ok (.ireturn, 1) := px_tab_at tX8_crosser_ok 13 (e := (53, 1, .ireturn, 0, 0, .null)) rfl
theorem eX8_crosser_63 : decode mX8_crosser.2.1 63 = .ok (.ireturn, 1) := px_tab_at tX8_crosser_ok 19 (e := (63, 1, .ireturn, 0, 0, .null)) rfl
theorem eX8_crosser_73 : decode mX8_crosser.2.1 73 = .ok (.ireturn, 1) := px_tab_at tX8_crosser_ok 25 (e := (73, 1, .ireturn, 0, 0, .null)) rfl
theorem eX8_crosser_83 : decode mX8_crosser.2.1 83 = .ok (.ireturn, 1) := px_tab_at tX8_crosser_ok 31 (e := (83, 1, .ireturn, 0, 0, .null)) rfl
theorem eX8_crosser_93 : decode mX8_crosser.2.1 93 = .ok (.ireturn, 1) := px_tab_at tX8_crosser_ok 37 (e := (93, 1, .ireturn, 0, 0, .null)) rfl
theorem eX8_crosser_95 : decode mX8_crosser.2.1 95 = .ok (.ireturn, 1) := px_tab_at tX8_crosser_ok 39 (e := (95, 1, .ireturn, 0, 0, .null)) rfl
theorem eX8_span_2 : decode mX8_span.2.1 2 = .ok (.invokevirtual 136, 3) := px_tab_at tX8_span_ok 2 (e := (2, 3, .invokevirtual 136, 0, 0, .null)) rfl
theorem eX8_span_5 : decode mX8_span.2.1 5 = .ok (.ifCond .ne 5, 3) := px_tab_at tX8_span_ok 3 (e := (5, 3, .ifCond .ne 5, 0, 0, .null)) rfl
theorem eX8_span_9 : decode mX8_span.2.1 9 = .ok (.ireturn, 1) := px_tab_at tX8_span_ok 5 (e := (9, 1, .ireturn, 0, 0, .null)) rfl
theorem eX8_span_11 : decode mX8_span.2.1 11 = .ok (.tableswitch 81 0 3 #[29, 42, 55, 68], 29) := px_tab_at tX8_span_ok 7 (e := (11, 29, .tableswitch 81 0 3 #[29, 42, 55, 68], 0, 0, .null)) rfl
theorem eX8_span_49 : decode mX8_span.2.1 49 = .ok (.invokevirtual 139, 3) := px_tab_at tX8_span_ok 13 (e := (49, 3, .invokevirtual 139, 0, 0, .null)) rfl
theorem eX8_span_52 : decode mX8_span.2.1 52 = .ok (.ireturn, 1) := px_tab_at tX8_span_ok 14 (e := (52, 1, .ireturn, 0, 0, .null)) rfl
theorem eX8_span_62 : decode mX8_span.2.1 62 = .ok (.invokevirtual 142, 3) := px_tab_at tX8_span_ok 20 (e := (62, 3, .invokevirtual 142, 0, 0, .null)) rfl
theorem eX8_span_65 : decode mX8_span.2.1 65 = .ok (.ireturn, 1) := px_tab_at tX8_span_ok 21 (e := (65, 1, .ireturn, 0, 0, .null)) rfl
theorem eX8_span_75 : decode mX8_span.2.1 75 = .ok (.invokevirtual 145, 3) := px_tab_at tX8_span_ok 27 (e := (75, 3, .invokevirtual 145, 0, 0, .null)) rfl
theorem eX8_span_78 : decode mX8_span.2.1 78 = .ok (.ireturn, 1) := px_tab_at tX8_span_ok 28 (e := (78, 1, .ireturn, 0, 0, .null)) rfl
theorem eX8_span_88 : decode mX8_span.2.1 88 = .ok (.invokevirtual 148, 3) := px_tab_at tX8_span_ok 34 (e := (88, 3, .invokevirtual 148, 0, 0, .null)) rfl
theorem eX8_span_91 : decode mX8_span.2.1 91 = .ok (.ireturn, 1) := px_tab_at tX8_span_ok 35 (e := (91, 1, .ireturn, 0, 0, .null)) rfl
theorem eX8_span_93 : decode mX8_span.2.1 93 = .ok (.ireturn, 1) := px_tab_at tX8_span_ok 37 (e := (93, 1, .ireturn, 0, 0, .null)) rfl
theorem eX8_tells_2 : decode mX8_tells.2.1 2 = .ok (.invokevirtual 94, 3) := px_tab_at tX8_tells_ok 2 (e := (2, 3, .invokevirtual 94, 0, 0, .null)) rfl
theorem eX8_tells_5 : decode mX8_tells.2.1 5 = .ok (.ifCond .eq 17, 3) := px_tab_at tX8_tells_ok 3 (e := (5, 3, .ifCond .eq 17, 0, 0, .null)) rfl
theorem eX8_tells_19 : decode mX8_tells.2.1 19 = .ok (.ifCond .ne 6, 3) := px_tab_at tX8_tells_ok 11 (e := (19, 3, .ifCond .ne 6, 0, 0, .null)) rfl
theorem eX8_tells_24 : decode mX8_tells.2.1 24 = .ok (.ireturn, 1) := px_tab_at tX8_tells_ok 13 (e := (24, 1, .ireturn, 0, 0, .null)) rfl
theorem eX8_tells_26 : decode mX8_tells.2.1 26 = .ok (.lookupswitch 52 #[(0, 26), (1, 39)], 26) := px_tab_at tX8_tells_ok 15 (e := (26, 26, .lookupswitch 52 #[(0, 26), (1, 39)], 0, 0, .null)) rfl
theorem eX8_tells_61 : decode mX8_tells.2.1 61 = .ok (.invokevirtual 151, 3) := px_tab_at tX8_tells_ok 21 (e := (61, 3, .invokevirtual 151, 0, 0, .null)) rfl
theorem eX8_tells_64 : decode mX8_tells.2.1 64 = .ok (.ireturn, 1) := px_tab_at tX8_tells_ok 22 (e := (64, 1, .ireturn, 0, 0, .null)) rfl
theorem eX8_tells_74 : decode mX8_tells.2.1 74 = .ok (.invokevirtual 154, 3) := px_tab_at tX8_tells_ok 28 (e := (74, 3, .invokevirtual 154, 0, 0, .null)) rfl
theorem eX8_tells_77 : decode mX8_tells.2.1 77 = .ok (.ireturn, 1) := px_tab_at tX8_tells_ok 29 (e := (77, 1, .ireturn, 0, 0, .null)) rfl
theorem eX8_tells_80 : decode mX8_tells.2.1 80 = .ok (.ireturn, 1) := px_tab_at tX8_tells_ok 31 (e := (80, 1, .ireturn, 0, 0, .null)) rfl
theorem eX8_dreams_2 : decode mX8_dreams.2.1 2 = .ok (.invokevirtual 136, 3) := px_tab_at tX8_dreams_ok 2 (e := (2, 3, .invokevirtual 136, 0, 0, .null)) rfl
theorem eX8_dreams_5 : decode mX8_dreams.2.1 5 = .ok (.ifCond .eq 21, 3) := px_tab_at tX8_dreams_ok 3 (e := (5, 3, .ifCond .eq 21, 0, 0, .null)) rfl
theorem eX8_dreams_17 : decode mX8_dreams.2.1 17 = .ok (.invokevirtual 157, 3) := px_tab_at tX8_dreams_ok 9 (e := (17, 3, .invokevirtual 157, 0, 0, .null)) rfl
theorem eX8_dreams_20 : decode mX8_dreams.2.1 20 = .ok (.invokevirtual 161, 3) := px_tab_at tX8_dreams_ok 10 (e := (20, 3, .invokevirtual 161, 0, 0, .null)) rfl
theorem eX8_dreams_23 : decode mX8_dreams.2.1 23 = .ok (.goto 4, 3) := px_tab_at tX8_dreams_ok 11 (e := (23, 3, .goto 4, 0, 0, .null)) rfl
theorem eX8_dreams_27 : decode mX8_dreams.2.1 27 = .ok (.ireturn, 1) := px_tab_at tX8_dreams_ok 13 (e := (27, 1, .ireturn, 0, 0, .null)) rfl
theorem eX8_send_2 : decode mX8_send.2.1 2 = .ok (.invokevirtual 118, 3) := px_tab_at tX8_send_ok 2 (e := (2, 3, .invokevirtual 118, 0, 0, .null)) rfl
theorem eX8_send_5 : decode mX8_send.2.1 5 = .ok (.ifCond .eq 17, 3) := px_tab_at tX8_send_ok 3 (e := (5, 3, .ifCond .eq 17, 0, 0, .null)) rfl
theorem eX8_send_19 : decode mX8_send.2.1 19 = .ok (.if_icmp .eq 5, 3) := px_tab_at tX8_send_ok 10 (e := (19, 3, .if_icmp .eq 5, 0, 0, .null)) rfl
theorem eX8_send_23 : decode mX8_send.2.1 23 = .ok (.ireturn, 1) := px_tab_at tX8_send_ok 12 (e := (23, 1, .ireturn, 0, 0, .null)) rfl
theorem eX8_send_25 : decode mX8_send.2.1 25 = .ok (.invokevirtual 164, 3) := px_tab_at tX8_send_ok 14 (e := (25, 3, .invokevirtual 164, 0, 0, .null)) rfl
theorem eX8_send_40 : decode mX8_send.2.1 40 = .ok (.ireturn, 1) := px_tab_at tX8_send_ok 22 (e := (40, 1, .ireturn, 0, 0, .null)) rfl
theorem eX8_lay_2 : decode mX8_lay.2.1 2 = .ok (.invokevirtual 94, 3) := px_tab_at tX8_lay_ok 2 (e := (2, 3, .invokevirtual 94, 0, 0, .null)) rfl
theorem eX8_lay_5 : decode mX8_lay.2.1 5 = .ok (.ifCond .eq 24, 3) := px_tab_at tX8_lay_ok 3 (e := (5, 3, .ifCond .eq 24, 0, 0, .null)) rfl
theorem eX8_lay_10 : decode mX8_lay.2.1 10 = .ok (.invokevirtual 136, 3) := px_tab_at tX8_lay_ok 6 (e := (10, 3, .invokevirtual 136, 0, 0, .null)) rfl
theorem eX8_lay_13 : decode mX8_lay.2.1 13 = .ok (.ifCond .eq 16, 3) := px_tab_at tX8_lay_ok 7 (e := (13, 3, .ifCond .eq 16, 0, 0, .null)) rfl
theorem eX8_lay_26 : decode mX8_lay.2.1 26 = .ok (.if_icmp .ne 5, 3) := px_tab_at tX8_lay_ok 14 (e := (26, 3, .if_icmp .ne 5, 0, 0, .null)) rfl
theorem eX8_lay_30 : decode mX8_lay.2.1 30 = .ok (.ireturn, 1) := px_tab_at tX8_lay_ok 16 (e := (30, 1, .ireturn, 0, 0, .null)) rfl
theorem eX8_lay_32 : decode mX8_lay.2.1 32 = .ok (.invokevirtual 164, 3) := px_tab_at tX8_lay_ok 18 (e := (32, 3, .invokevirtual 164, 0, 0, .null)) rfl
theorem eX8_lay_46 : decode mX8_lay.2.1 46 = .ok (.ireturn, 1) := px_tab_at tX8_lay_ok 26 (e := (46, 1, .ireturn, 0, 0, .null)) rfl
theorem eX8_lull_2 : decode mX8_lull.2.1 2 = .ok (.invokevirtual 94, 3) := px_tab_at tX8_lull_ok 2 (e := (2, 3, .invokevirtual 94, 0, 0, .null)) rfl
theorem eX8_lull_5 : decode mX8_lull.2.1 5 = .ok (.ifCond .ne 5, 3) := px_tab_at tX8_lull_ok 3 (e := (5, 3, .ifCond .ne 5, 0, 0, .null)) rfl
theorem eX8_lull_9 : decode mX8_lull.2.1 9 = .ok (.ireturn, 1) := px_tab_at tX8_lull_ok 5 (e := (9, 1, .ireturn, 0, 0, .null)) rfl
theorem eX8_lull_22 : decode mX8_lull.2.1 22 = .ok (.if_icmp .eq 20, 3) := px_tab_at tX8_lull_ok 14 (e := (22, 3, .if_icmp .eq 20, 0, 0, .null)) rfl
theorem eX8_lull_39 : decode mX8_lull.2.1 39 = .ok (.if_icmp .lt 6, 3) := px_tab_at tX8_lull_ok 21 (e := (39, 3, .if_icmp .lt 6, 0, 0, .null)) rfl
theorem eX8_lull_44 : decode mX8_lull.2.1 44 = .ok (.ireturn, 1) := px_tab_at tX8_lull_ok 23 (e := (44, 1, .ireturn, 0, 0, .null)) rfl
theorem eX8_lull_46 : decode mX8_lull.2.1 46 = .ok (.invokevirtual 164, 3) := px_tab_at tX8_lull_ok 25 (e := (46, 3, .invokevirtual 164, 0, 0, .null)) rfl
theorem eX8_lull_85 : decode mX8_lull.2.1 85 = .ok (.invokestatic 173, 3) := px_tab_at tX8_lull_ok 47 (e := (85, 3, .invokestatic 173, 0, 0, .null)) rfl
theorem eX8_lull_98 : decode mX8_lull.2.1 98 = .ok (.ireturn, 1) := px_tab_at tX8_lull_ok 54 (e := (98, 1, .ireturn, 0, 0, .null)) rfl
theorem eX8_hours_1 : decode mX8_hours.2.1 1 = .ok (.ifCond .lt 9, 3) := px_tab_at tX8_hours_ok 1 (e := (1, 3, .ifCond .lt 9, 0, 0, .null)) rfl
theorem eX8_hours_7 : decode mX8_hours.2.1 7 = .ok (.if_icmp .le 5, 3) := px_tab_at tX8_hours_ok 4 (e := (7, 3, .if_icmp .le 5, 0, 0, .null)) rfl
theorem eX8_hours_11 : decode mX8_hours.2.1 11 = .ok (.ireturn, 1) := px_tab_at tX8_hours_ok 6 (e := (11, 1, .ireturn, 0, 0, .null)) rfl
theorem eX8_hours_13 : decode mX8_hours.2.1 13 = .ok (.ifCond .le 27, 3) := px_tab_at tX8_hours_ok 8 (e := (13, 3, .ifCond .le 27, 0, 0, .null)) rfl
theorem eX8_hours_17 : decode mX8_hours.2.1 17 = .ok (.invokevirtual 164, 3) := px_tab_at tX8_hours_ok 10 (e := (17, 3, .invokevirtual 164, 0, 0, .null)) rfl
theorem eX8_hours_37 : decode mX8_hours.2.1 37 = .ok (.invokevirtual 182, 3) := px_tab_at tX8_hours_ok 20 (e := (37, 3, .invokevirtual 182, 0, 0, .null)) rfl
theorem eX8_hours_47 : decode mX8_hours.2.1 47 = .ok (.ireturn, 1) := px_tab_at tX8_hours_ok 24 (e := (47, 1, .ireturn, 0, 0, .null)) rfl
theorem eX8_night_1 : decode mX8_night.2.1 1 = .ok (.invokevirtual 164, 3) := px_tab_at tX8_night_ok 1 (e := (1, 3, .invokevirtual 164, 0, 0, .null)) rfl
theorem eX8_night_12 : decode mX8_night.2.1 12 = .ok (.invokevirtual 186, 3) := px_tab_at tX8_night_ok 6 (e := (12, 3, .invokevirtual 186, 0, 0, .null)) rfl
theorem eX8_night_22 : decode mX8_night.2.1 22 = .ok (.ireturn, 1) := px_tab_at tX8_night_ok 10 (e := (22, 1, .ireturn, 0, 0, .null)) rfl
theorem eX8_undo_4 : decode mX8_undo.2.1 4 = .ok (.ifCond .ne 5, 3) := px_tab_at tX8_undo_ok 2 (e := (4, 3, .ifCond .ne 5, 0, 0, .null)) rfl
theorem eX8_undo_8 : decode mX8_undo.2.1 8 = .ok (.ireturn, 1) := px_tab_at tX8_undo_ok 4 (e := (8, 1, .ireturn, 0, 0, .null)) rfl
theorem eX8_undo_47 : decode mX8_undo.2.1 47 = .ok (.invokevirtual 198, 3) := px_tab_at tX8_undo_ok 27 (e := (47, 3, .invokevirtual 198, 0, 0, .null)) rfl
theorem eX8_undo_51 : decode mX8_undo.2.1 51 = .ok (.ireturn, 1) := px_tab_at tX8_undo_ok 29 (e := (51, 1, .ireturn, 0, 0, .null)) rfl
theorem eX8_then_1 : decode mX8_then.2.1 1 = .ok (.ifCond .lt 36, 3) := px_tab_at tX8_then_ok 1 (e := (1, 3, .ifCond .lt 36, 0, 0, .null)) rfl
theorem eX8_then_7 : decode mX8_then.2.1 7 = .ok (.if_icmp .gt 30, 3) := px_tab_at tX8_then_ok 4 (e := (7, 3, .if_icmp .gt 30, 0, 0, .null)) rfl
theorem eX8_then_11 : decode mX8_then.2.1 11 = .ok (.ifCond .ne 12, 3) := px_tab_at tX8_then_ok 6 (e := (11, 3, .ifCond .ne 12, 0, 0, .null)) rfl
theorem eX8_then_17 : decode mX8_then.2.1 17 = .ok (.invokevirtual 118, 3) := px_tab_at tX8_then_ok 9 (e := (17, 3, .invokevirtual 118, 0, 0, .null)) rfl
theorem eX8_then_20 : decode mX8_then.2.1 20 = .ok (.ifCond .eq 17, 3) := px_tab_at tX8_then_ok 10 (e := (20, 3, .ifCond .eq 17, 0, 0, .null)) rfl
theorem eX8_then_25 : decode mX8_then.2.1 25 = .ok (.if_icmp .ne 15, 3) := px_tab_at tX8_then_ok 13 (e := (25, 3, .if_icmp .ne 15, 0, 0, .null)) rfl
theorem eX8_then_31 : decode mX8_then.2.1 31 = .ok (.invokevirtual 136, 3) := px_tab_at tX8_then_ok 16 (e := (31, 3, .invokevirtual 136, 0, 0, .null)) rfl
theorem eX8_then_34 : decode mX8_then.2.1 34 = .ok (.ifCond .ne 6, 3) := px_tab_at tX8_then_ok 17 (e := (34, 3, .ifCond .ne 6, 0, 0, .null)) rfl
theorem eX8_then_39 : decode mX8_then.2.1 39 = .ok (.ireturn, 1) := px_tab_at tX8_then_ok 19 (e := (39, 1, .ireturn, 0, 0, .null)) rfl
theorem eX8_then_48 : decode mX8_then.2.1 48 = .ok (.invokevirtual 202, 3) := px_tab_at tX8_then_ok 24 (e := (48, 3, .invokevirtual 202, 0, 0, .null)) rfl
theorem eX8_then_68 : decode mX8_then.2.1 68 = .ok (.invokevirtual 182, 3) := px_tab_at tX8_then_ok 34 (e := (68, 3, .invokevirtual 182, 0, 0, .null)) rfl
theorem eX8_then_72 : decode mX8_then.2.1 72 = .ok (.tableswitch 121 0 5 #[40, 51, 65, 76, 92, 109], 40) := px_tab_at tX8_then_ok 36 (e := (72, 40, .tableswitch 121 0 5 #[40, 51, 65, 76, 92, 109], 0, 0, .null)) rfl
theorem eX8_then_122 : decode mX8_then.2.1 122 = .ok (.ireturn, 1) := px_tab_at tX8_then_ok 42 (e := (122, 1, .ireturn, 0, 0, .null)) rfl
theorem eX8_then_133 : decode mX8_then.2.1 133 = .ok (.invokevirtual 139, 3) := px_tab_at tX8_then_ok 48 (e := (133, 3, .invokevirtual 139, 0, 0, .null)) rfl
theorem eX8_then_136 : decode mX8_then.2.1 136 = .ok (.ireturn, 1) := px_tab_at tX8_then_ok 49 (e := (136, 1, .ireturn, 0, 0, .null)) rfl
theorem eX8_then_144 : decode mX8_then.2.1 144 = .ok (.invokestatic 206, 3) := px_tab_at tX8_then_ok 53 (e := (144, 3, .invokestatic 206, 0, 0, .null)) rfl
theorem eX8_then_147 : decode mX8_then.2.1 147 = .ok (.ireturn, 1) := px_tab_at tX8_then_ok 54 (e := (147, 1, .ireturn, 0, 0, .null)) rfl
theorem eX8_then_163 : decode mX8_then.2.1 163 = .ok (.ireturn, 1) := px_tab_at tX8_then_ok 62 (e := (163, 1, .ireturn, 0, 0, .null)) rfl
theorem eX8_then_174 : decode mX8_then.2.1 174 = .ok (.invokevirtual 148, 3) := px_tab_at tX8_then_ok 68 (e := (174, 3, .invokevirtual 148, 0, 0, .null)) rfl
theorem eX8_then_177 : decode mX8_then.2.1 177 = .ok (.invokestatic 206, 3) := px_tab_at tX8_then_ok 69 (e := (177, 3, .invokestatic 206, 0, 0, .null)) rfl
theorem eX8_then_180 : decode mX8_then.2.1 180 = .ok (.ireturn, 1) := px_tab_at tX8_then_ok 70 (e := (180, 1, .ireturn, 0, 0, .null)) rfl
theorem eX8_then_189 : decode mX8_then.2.1 189 = .ok (.invokevirtual 214, 3) := px_tab_at tX8_then_ok 75 (e := (189, 3, .invokevirtual 214, 0, 0, .null)) rfl
theorem eX8_then_192 : decode mX8_then.2.1 192 = .ok (.ireturn, 1) := px_tab_at tX8_then_ok 76 (e := (192, 1, .ireturn, 0, 0, .null)) rfl
theorem eX8_then_195 : decode mX8_then.2.1 195 = .ok (.ireturn, 1) := px_tab_at tX8_then_ok 78 (e := (195, 1, .ireturn, 0, 0, .null)) rfl
theorem eX8_weakest_2 : decode mX8_weakest.2.1 2 = .ok (.if_icmp .eq 13, 3) := px_tab_at tX8_weakest_ok 2 (e := (2, 3, .if_icmp .eq 13, 0, 0, .null)) rfl
theorem eX8_weakest_7 : decode mX8_weakest.2.1 7 = .ok (.invokevirtual 94, 3) := px_tab_at tX8_weakest_ok 5 (e := (7, 3, .invokevirtual 94, 0, 0, .null)) rfl
theorem eX8_weakest_10 : decode mX8_weakest.2.1 10 = .ok (.ifCond .ne 5, 3) := px_tab_at tX8_weakest_ok 6 (e := (10, 3, .ifCond .ne 5, 0, 0, .null)) rfl
theorem eX8_weakest_14 : decode mX8_weakest.2.1 14 = .ok (.ireturn, 1) := px_tab_at tX8_weakest_ok 8 (e := (14, 1, .ireturn, 0, 0, .null)) rfl
theorem eX8_weakest_23 : decode mX8_weakest.2.1 23 = .ok (.invokevirtual 218, 3) := px_tab_at tX8_weakest_ok 13 (e := (23, 3, .invokevirtual 218, 0, 0, .null)) rfl
theorem eX8_weakest_29 : decode mX8_weakest.2.1 29 = .ok (.if_icmp .ne 7, 3) := px_tab_at tX8_weakest_ok 17 (e := (29, 3, .if_icmp .ne 7, 0, 0, .null)) rfl
theorem eX8_weakest_33 : decode mX8_weakest.2.1 33 = .ok (.goto 12, 3) := px_tab_at tX8_weakest_ok 19 (e := (33, 3, .goto 12, 0, 0, .null)) rfl
theorem eX8_weakest_45 : decode mX8_weakest.2.1 45 = .ok (.ireturn, 1) := px_tab_at tX8_weakest_ok 25 (e := (45, 1, .ireturn, 0, 0, .null)) rfl
theorem eX8_better_1 : decode mX8_better.2.1 1 = .ok (.ifCond .lt 8, 3) := px_tab_at tX8_better_ok 1 (e := (1, 3, .ifCond .lt 8, 0, 0, .null)) rfl
theorem eX8_better_6 : decode mX8_better.2.1 6 = .ok (.if_icmp .le 5, 3) := px_tab_at tX8_better_ok 4 (e := (6, 3, .if_icmp .le 5, 0, 0, .null)) rfl
theorem eX8_better_10 : decode mX8_better.2.1 10 = .ok (.ireturn, 1) := px_tab_at tX8_better_ok 6 (e := (10, 1, .ireturn, 0, 0, .null)) rfl
theorem eX8_better_19 : decode mX8_better.2.1 19 = .ok (.invokevirtual 224, 3) := px_tab_at tX8_better_ok 11 (e := (19, 3, .invokevirtual 224, 0, 0, .null)) rfl
theorem eX8_better_22 : decode mX8_better.2.1 22 = .ok (.ifCond .ne 6, 3) := px_tab_at tX8_better_ok 12 (e := (22, 3, .ifCond .ne 6, 0, 0, .null)) rfl
theorem eX8_better_27 : decode mX8_better.2.1 27 = .ok (.ireturn, 1) := px_tab_at tX8_better_ok 14 (e := (27, 1, .ireturn, 0, 0, .null)) rfl
theorem eX8_better_29 : decode mX8_better.2.1 29 = .ok (.ifCond .ne 13, 3) := px_tab_at tX8_better_ok 16 (e := (29, 3, .ifCond .ne 13, 0, 0, .null)) rfl
theorem eX8_better_39 : decode mX8_better.2.1 39 = .ok (.goto 25, 3) := px_tab_at tX8_better_ok 20 (e := (39, 3, .goto 25, 0, 0, .null)) rfl
theorem eX8_better_44 : decode mX8_better.2.1 44 = .ok (.if_icmp .ne 13, 3) := px_tab_at tX8_better_ok 23 (e := (44, 3, .if_icmp .ne 13, 0, 0, .null)) rfl
theorem eX8_better_54 : decode mX8_better.2.1 54 = .ok (.goto 10, 3) := px_tab_at tX8_better_ok 27 (e := (54, 3, .goto 10, 0, 0, .null)) rfl
theorem eX8_better_64 : decode mX8_better.2.1 64 = .ok (.ireturn, 1) := px_tab_at tX8_better_ok 31 (e := (64, 1, .ireturn, 0, 0, .null)) rfl
theorem eX8_cheap_1 : decode mX8_cheap.2.1 1 = .ok (.ifCond .lt 19, 3) := px_tab_at tX8_cheap_ok 1 (e := (1, 3, .ifCond .lt 19, 0, 0, .null)) rfl
theorem eX8_cheap_8 : decode mX8_cheap.2.1 8 = .ok (.if_icmp .gt 12, 3) := px_tab_at tX8_cheap_ok 4 (e := (8, 3, .if_icmp .gt 12, 0, 0, .null)) rfl
theorem eX8_cheap_12 : decode mX8_cheap.2.1 12 = .ok (.ifCond .lt 8, 3) := px_tab_at tX8_cheap_ok 6 (e := (12, 3, .ifCond .lt 8, 0, 0, .null)) rfl
theorem eX8_cheap_17 : decode mX8_cheap.2.1 17 = .ok (.if_icmp .le 5, 3) := px_tab_at tX8_cheap_ok 9 (e := (17, 3, .if_icmp .le 5, 0, 0, .null)) rfl
theorem eX8_cheap_21 : decode mX8_cheap.2.1 21 = .ok (.ireturn, 1) := px_tab_at tX8_cheap_ok 11 (e := (21, 1, .ireturn, 0, 0, .null)) rfl
theorem eX8_cheap_31 : decode mX8_cheap.2.1 31 = .ok (.invokevirtual 237, 3) := px_tab_at tX8_cheap_ok 17 (e := (31, 3, .invokevirtual 237, 0, 0, .null)) rfl
theorem eX8_cheap_34 : decode mX8_cheap.2.1 34 = .ok (.ifCond .ne 6, 3) := px_tab_at tX8_cheap_ok 18 (e := (34, 3, .ifCond .ne 6, 0, 0, .null)) rfl
theorem eX8_cheap_39 : decode mX8_cheap.2.1 39 = .ok (.ireturn, 1) := px_tab_at tX8_cheap_ok 20 (e := (39, 1, .ireturn, 0, 0, .null)) rfl
theorem eX8_cheap_41 : decode mX8_cheap.2.1 41 = .ok (.ifCond .ne 13, 3) := px_tab_at tX8_cheap_ok 22 (e := (41, 3, .ifCond .ne 13, 0, 0, .null)) rfl
theorem eX8_cheap_51 : decode mX8_cheap.2.1 51 = .ok (.goto 10, 3) := px_tab_at tX8_cheap_ok 26 (e := (51, 3, .goto 10, 0, 0, .null)) rfl
theorem eX8_cheap_61 : decode mX8_cheap.2.1 61 = .ok (.ireturn, 1) := px_tab_at tX8_cheap_ok 30 (e := (61, 1, .ireturn, 0, 0, .null)) rfl
theorem eX8_order_2 : decode mX8_order.2.1 2 = .ok (.if_icmp .lt 23, 3) := px_tab_at tX8_order_ok 2 (e := (2, 3, .if_icmp .lt 23, 0, 0, .null)) rfl
theorem eX8_order_16 : decode mX8_order.2.1 16 = .ok (.invokevirtual 148, 3) := px_tab_at tX8_order_ok 9 (e := (16, 3, .invokevirtual 148, 0, 0, .null)) rfl
theorem eX8_order_19 : decode mX8_order.2.1 19 = .ok (.invokestatic 206, 3) := px_tab_at tX8_order_ok 10 (e := (19, 3, .invokestatic 206, 0, 0, .null)) rfl
theorem eX8_order_22 : decode mX8_order.2.1 22 = .ok (.if_icmp .lt 5, 3) := px_tab_at tX8_order_ok 11 (e := (22, 3, .if_icmp .lt 5, 0, 0, .null)) rfl
theorem eX8_order_26 : decode mX8_order.2.1 26 = .ok (.ireturn, 1) := px_tab_at tX8_order_ok 13 (e := (26, 1, .ireturn, 0, 0, .null)) rfl
theorem eX8_order_35 : decode mX8_order.2.1 35 = .ok (.invokevirtual 244, 3) := px_tab_at tX8_order_ok 18 (e := (35, 3, .invokevirtual 244, 0, 0, .null)) rfl
theorem eX8_order_41 : decode mX8_order.2.1 41 = .ok (.if_icmp .ne 7, 3) := px_tab_at tX8_order_ok 22 (e := (41, 3, .if_icmp .ne 7, 0, 0, .null)) rfl
theorem eX8_order_45 : decode mX8_order.2.1 45 = .ok (.goto 12, 3) := px_tab_at tX8_order_ok 24 (e := (45, 3, .goto 12, 0, 0, .null)) rfl
theorem eX8_order_57 : decode mX8_order.2.1 57 = .ok (.ireturn, 1) := px_tab_at tX8_order_ok 30 (e := (57, 1, .ireturn, 0, 0, .null)) rfl
theorem eX8_soon_2 : decode mX8_soon.2.1 2 = .ok (.invokevirtual 118, 3) := px_tab_at tX8_soon_ok 2 (e := (2, 3, .invokevirtual 118, 0, 0, .null)) rfl
theorem eX8_soon_5 : decode mX8_soon.2.1 5 = .ok (.ifCond .ne 5, 3) := px_tab_at tX8_soon_ok 3 (e := (5, 3, .ifCond .ne 5, 0, 0, .null)) rfl
theorem eX8_soon_9 : decode mX8_soon.2.1 9 = .ok (.ireturn, 1) := px_tab_at tX8_soon_ok 5 (e := (9, 1, .ireturn, 0, 0, .null)) rfl
theorem eX8_soon_21 : decode mX8_soon.2.1 21 = .ok (.if_icmp .ne 18, 3) := px_tab_at tX8_soon_ok 12 (e := (21, 3, .if_icmp .ne 18, 0, 0, .null)) rfl
theorem eX8_soon_33 : decode mX8_soon.2.1 33 = .ok (.invokevirtual 250, 3) := px_tab_at tX8_soon_ok 18 (e := (33, 3, .invokevirtual 250, 0, 0, .null)) rfl
theorem eX8_soon_36 : decode mX8_soon.2.1 36 = .ok (.goto 5, 3) := px_tab_at tX8_soon_ok 19 (e := (36, 3, .goto 5, 0, 0, .null)) rfl
theorem eX8_soon_41 : decode mX8_soon.2.1 41 = .ok (.ireturn, 1) := px_tab_at tX8_soon_ok 21 (e := (41, 1, .ireturn, 0, 0, .null)) rfl
theorem eX8_start_2 : decode mX8_start.2.1 2 = .ok (.invokevirtual 118, 3) := px_tab_at tX8_start_ok 2 (e := (2, 3, .invokevirtual 118, 0, 0, .null)) rfl
theorem eX8_start_5 : decode mX8_start.2.1 5 = .ok (.ifCond .ne 5, 3) := px_tab_at tX8_start_ok 3 (e := (5, 3, .ifCond .ne 5, 0, 0, .null)) rfl
theorem eX8_start_9 : decode mX8_start.2.1 9 = .ok (.ireturn, 1) := px_tab_at tX8_start_ok 5 (e := (9, 1, .ireturn, 0, 0, .null)) rfl
theorem eX8_start_21 : decode mX8_start.2.1 21 = .ok (.if_icmp .ne 18, 3) := px_tab_at tX8_start_ok 12 (e := (21, 3, .if_icmp .ne 18, 0, 0, .null)) rfl
theorem eX8_start_33 : decode mX8_start.2.1 33 = .ok (.invokevirtual 253, 3) := px_tab_at tX8_start_ok 18 (e := (33, 3, .invokevirtual 253, 0, 0, .null)) rfl
theorem eX8_start_36 : decode mX8_start.2.1 36 = .ok (.goto 5, 3) := px_tab_at tX8_start_ok 19 (e := (36, 3, .goto 5, 0, 0, .null)) rfl
theorem eX8_start_41 : decode mX8_start.2.1 41 = .ok (.ireturn, 1) := px_tab_at tX8_start_ok 21 (e := (41, 1, .ireturn, 0, 0, .null)) rfl
theorem eX8_missed_1 : decode mX8_missed.2.1 1 = .ok (.ifCond .lt 8, 3) := px_tab_at tX8_missed_ok 1 (e := (1, 3, .ifCond .lt 8, 0, 0, .null)) rfl
theorem eX8_missed_6 : decode mX8_missed.2.1 6 = .ok (.if_icmp .le 5, 3) := px_tab_at tX8_missed_ok 4 (e := (6, 3, .if_icmp .le 5, 0, 0, .null)) rfl
theorem eX8_missed_10 : decode mX8_missed.2.1 10 = .ok (.ireturn, 1) := px_tab_at tX8_missed_ok 6 (e := (10, 1, .ireturn, 0, 0, .null)) rfl
theorem eX8_missed_18 : decode mX8_missed.2.1 18 = .ok (.ifCond .ne 6, 3) := px_tab_at tX8_missed_ok 10 (e := (18, 3, .ifCond .ne 6, 0, 0, .null)) rfl
theorem eX8_missed_23 : decode mX8_missed.2.1 23 = .ok (.ireturn, 1) := px_tab_at tX8_missed_ok 12 (e := (23, 1, .ireturn, 0, 0, .null)) rfl
theorem eX8_missed_32 : decode mX8_missed.2.1 32 = .ok (.invokevirtual 256, 3) := px_tab_at tX8_missed_ok 17 (e := (32, 3, .invokevirtual 256, 0, 0, .null)) rfl
theorem eX8_missed_36 : decode mX8_missed.2.1 36 = .ok (.ifCond .ne 13, 3) := px_tab_at tX8_missed_ok 19 (e := (36, 3, .ifCond .ne 13, 0, 0, .null)) rfl
theorem eX8_missed_46 : decode mX8_missed.2.1 46 = .ok (.goto 10, 3) := px_tab_at tX8_missed_ok 23 (e := (46, 3, .goto 10, 0, 0, .null)) rfl
theorem eX8_missed_56 : decode mX8_missed.2.1 56 = .ok (.ireturn, 1) := px_tab_at tX8_missed_ok 27 (e := (56, 1, .ireturn, 0, 0, .null)) rfl
theorem eX8_year_2 : decode mX8_year.2.1 2 = .ok (.invokevirtual 118, 3) := px_tab_at tX8_year_ok 2 (e := (2, 3, .invokevirtual 118, 0, 0, .null)) rfl
theorem eX8_year_5 : decode mX8_year.2.1 5 = .ok (.ifCond .eq 24, 3) := px_tab_at tX8_year_ok 3 (e := (5, 3, .ifCond .eq 24, 0, 0, .null)) rfl
theorem eX8_year_9 : decode mX8_year.2.1 9 = .ok (.ifCond .lt 20, 3) := px_tab_at tX8_year_ok 5 (e := (9, 3, .ifCond .lt 20, 0, 0, .null)) rfl
theorem eX8_year_15 : decode mX8_year.2.1 15 = .ok (.if_icmp .gt 14, 3) := px_tab_at tX8_year_ok 8 (e := (15, 3, .if_icmp .gt 14, 0, 0, .null)) rfl
theorem eX8_year_20 : decode mX8_year.2.1 20 = .ok (.if_icmp .lt 9, 3) := px_tab_at tX8_year_ok 11 (e := (20, 3, .if_icmp .lt 9, 0, 0, .null)) rfl
theorem eX8_year_26 : decode mX8_year.2.1 26 = .ok (.if_icmp .le 5, 3) := px_tab_at tX8_year_ok 14 (e := (26, 3, .if_icmp .le 5, 0, 0, .null)) rfl
theorem eX8_year_30 : decode mX8_year.2.1 30 = .ok (.ireturn, 1) := px_tab_at tX8_year_ok 16 (e := (30, 1, .ireturn, 0, 0, .null)) rfl
theorem eX8_year_42 : decode mX8_year.2.1 42 = .ok (.invokevirtual 259, 3) := px_tab_at tX8_year_ok 24 (e := (42, 3, .invokevirtual 259, 0, 0, .null)) rfl
theorem eX8_year_45 : decode mX8_year.2.1 45 = .ok (.ireturn, 1) := px_tab_at tX8_year_ok 25 (e := (45, 1, .ireturn, 0, 0, .null)) rfl
theorem eX8_tell_2 : decode mX8_tell.2.1 2 = .ok (.invokevirtual 136, 3) := px_tab_at tX8_tell_ok 2 (e := (2, 3, .invokevirtual 136, 0, 0, .null)) rfl
theorem eX8_tell_5 : decode mX8_tell.2.1 5 = .ok (.ifCond .eq 26, 3) := px_tab_at tX8_tell_ok 3 (e := (5, 3, .ifCond .eq 26, 0, 0, .null)) rfl
theorem eX8_tell_9 : decode mX8_tell.2.1 9 = .ok (.ifCond .lt 22, 3) := px_tab_at tX8_tell_ok 5 (e := (9, 3, .ifCond .lt 22, 0, 0, .null)) rfl
theorem eX8_tell_16 : decode mX8_tell.2.1 16 = .ok (.if_icmp .gt 15, 3) := px_tab_at tX8_tell_ok 8 (e := (16, 3, .if_icmp .gt 15, 0, 0, .null)) rfl
theorem eX8_tell_25 : decode mX8_tell.2.1 25 = .ok (.invokevirtual 263, 3) := px_tab_at tX8_tell_ok 13 (e := (25, 3, .invokevirtual 263, 0, 0, .null)) rfl
theorem eX8_tell_28 : decode mX8_tell.2.1 28 = .ok (.goto 4, 3) := px_tab_at tX8_tell_ok 14 (e := (28, 3, .goto 4, 0, 0, .null)) rfl
theorem eX8_tell_32 : decode mX8_tell.2.1 32 = .ok (.ireturn, 1) := px_tab_at tX8_tell_ok 16 (e := (32, 1, .ireturn, 0, 0, .null)) rfl
theorem eX8_forget_17 : decode mX8_forget.2.1 17 = .ok (.ireturn, 1) := px_tab_at tX8_forget_ok 9 (e := (17, 1, .ireturn, 0, 0, .null)) rfl
theorem eX8_awake_1 : decode mX8_awake.2.1 1 = .ok (.ifCond .lt 19, 3) := px_tab_at tX8_awake_ok 1 (e := (1, 3, .ifCond .lt 19, 0, 0, .null)) rfl
theorem eX8_awake_12 : decode mX8_awake.2.1 12 = .ok (.if_icmp .gt 8, 3) := px_tab_at tX8_awake_ok 6 (e := (12, 3, .if_icmp .gt 8, 0, 0, .null)) rfl
theorem eX8_awake_17 : decode mX8_awake.2.1 17 = .ok (.if_icmp .ge 5, 3) := px_tab_at tX8_awake_ok 9 (e := (17, 3, .if_icmp .ge 5, 0, 0, .null)) rfl
theorem eX8_awake_21 : decode mX8_awake.2.1 21 = .ok (.ireturn, 1) := px_tab_at tX8_awake_ok 11 (e := (21, 1, .ireturn, 0, 0, .null)) rfl
theorem eX8_awake_31 : decode mX8_awake.2.1 31 = .ok (.invokevirtual 269, 3) := px_tab_at tX8_awake_ok 17 (e := (31, 3, .invokevirtual 269, 0, 0, .null)) rfl
theorem eX8_awake_37 : decode mX8_awake.2.1 37 = .ok (.if_icmp .ne 5, 3) := px_tab_at tX8_awake_ok 21 (e := (37, 3, .if_icmp .ne 5, 0, 0, .null)) rfl
theorem eX8_awake_41 : decode mX8_awake.2.1 41 = .ok (.ireturn, 1) := px_tab_at tX8_awake_ok 23 (e := (41, 1, .ireturn, 0, 0, .null)) rfl
theorem eX8_awake_44 : decode mX8_awake.2.1 44 = .ok (.if_icmp .ge 15, 3) := px_tab_at tX8_awake_ok 26 (e := (44, 3, .if_icmp .ge 15, 0, 0, .null)) rfl
theorem eX8_awake_56 : decode mX8_awake.2.1 56 = .ok (.goto 4, 3) := px_tab_at tX8_awake_ok 32 (e := (56, 3, .goto 4, 0, 0, .null)) rfl
theorem eX8_awake_60 : decode mX8_awake.2.1 60 = .ok (.ireturn, 1) := px_tab_at tX8_awake_ok 34 (e := (60, 1, .ireturn, 0, 0, .null)) rfl
theorem eX8_ask_1 : decode mX8_ask.2.1 1 = .ok (.ifCond .lt 14, 3) := px_tab_at tX8_ask_ok 1 (e := (1, 3, .ifCond .lt 14, 0, 0, .null)) rfl
theorem eX8_ask_12 : decode mX8_ask.2.1 12 = .ok (.if_icmp .le 5, 3) := px_tab_at tX8_ask_ok 6 (e := (12, 3, .if_icmp .le 5, 0, 0, .null)) rfl
theorem eX8_ask_16 : decode mX8_ask.2.1 16 = .ok (.ireturn, 1) := px_tab_at tX8_ask_ok 8 (e := (16, 1, .ireturn, 0, 0, .null)) rfl
theorem eX8_ask_26 : decode mX8_ask.2.1 26 = .ok (.invokevirtual 269, 3) := px_tab_at tX8_ask_ok 14 (e := (26, 3, .invokevirtual 269, 0, 0, .null)) rfl
theorem eX8_ask_29 : decode mX8_ask.2.1 29 = .ok (.ifCond .ne 8, 3) := px_tab_at tX8_ask_ok 15 (e := (29, 3, .ifCond .ne 8, 0, 0, .null)) rfl
theorem eX8_ask_34 : decode mX8_ask.2.1 34 = .ok (.goto 10, 3) := px_tab_at tX8_ask_ok 17 (e := (34, 3, .goto 10, 0, 0, .null)) rfl
theorem eX8_ask_41 : decode mX8_ask.2.1 41 = .ok (.invokevirtual 275, 3) := px_tab_at tX8_ask_ok 20 (e := (41, 3, .invokevirtual 275, 0, 0, .null)) rfl
theorem eX8_ask_44 : decode mX8_ask.2.1 44 = .ok (.ireturn, 1) := px_tab_at tX8_ask_ok 21 (e := (44, 1, .ireturn, 0, 0, .null)) rfl
theorem eX8_hold_1 : decode mX8_hold.2.1 1 = .ok (.ifCond .lt 8, 3) := px_tab_at tX8_hold_ok 1 (e := (1, 3, .ifCond .lt 8, 0, 0, .null)) rfl
theorem eX8_hold_6 : decode mX8_hold.2.1 6 = .ok (.if_icmp .lt 5, 3) := px_tab_at tX8_hold_ok 4 (e := (6, 3, .if_icmp .lt 5, 0, 0, .null)) rfl
theorem eX8_hold_10 : decode mX8_hold.2.1 10 = .ok (.ireturn, 1) := px_tab_at tX8_hold_ok 6 (e := (10, 1, .ireturn, 0, 0, .null)) rfl
theorem eX8_hold_20 : decode mX8_hold.2.1 20 = .ok (.invokevirtual 279, 3) := px_tab_at tX8_hold_ok 12 (e := (20, 3, .invokevirtual 279, 0, 0, .null)) rfl
theorem eX8_hold_36 : decode mX8_hold.2.1 36 = .ok (.ireturn, 1) := px_tab_at tX8_hold_ok 22 (e := (36, 1, .ireturn, 0, 0, .null)) rfl
theorem eX8_restore_1 : decode mX8_restore.2.1 1 = .ok (.ifCond .lt 19, 3) := px_tab_at tX8_restore_ok 1 (e := (1, 3, .ifCond .lt 19, 0, 0, .null)) rfl
theorem eX8_restore_6 : decode mX8_restore.2.1 6 = .ok (.if_icmp .ge 14, 3) := px_tab_at tX8_restore_ok 4 (e := (6, 3, .if_icmp .ge 14, 0, 0, .null)) rfl
theorem eX8_restore_17 : decode mX8_restore.2.1 17 = .ok (.ifCond .ne 5, 3) := px_tab_at tX8_restore_ok 11 (e := (17, 3, .ifCond .ne 5, 0, 0, .null)) rfl
theorem eX8_restore_21 : decode mX8_restore.2.1 21 = .ok (.ireturn, 1) := px_tab_at tX8_restore_ok 13 (e := (21, 1, .ireturn, 0, 0, .null)) rfl
theorem eX8_restore_31 : decode mX8_restore.2.1 31 = .ok (.invokevirtual 198, 3) := px_tab_at tX8_restore_ok 19 (e := (31, 3, .invokevirtual 198, 0, 0, .null)) rfl
theorem eX8_restore_40 : decode mX8_restore.2.1 40 = .ok (.ireturn, 1) := px_tab_at tX8_restore_ok 24 (e := (40, 1, .ireturn, 0, 0, .null)) rfl
theorem eX8_count_1 : decode mX8_count.2.1 1 = .ok (.tableswitch 156 0 11 #[63, 71, 79, 87, 95, 103, 111, 119, 127, 135, 140, 148], 63) := px_tab_at tX8_count_ok 1 (e := (1, 63, .tableswitch 156 0 11 #[63, 71, 79, 87, 95, 103, 111, 119, 127, 135, 140, 148], 0, 0, .null)) rfl
theorem eX8_count_71 : decode mX8_count.2.1 71 = .ok (.ireturn, 1) := px_tab_at tX8_count_ok 5 (e := (71, 1, .ireturn, 0, 0, .null)) rfl
theorem eX8_count_79 : decode mX8_count.2.1 79 = .ok (.ireturn, 1) := px_tab_at tX8_count_ok 9 (e := (79, 1, .ireturn, 0, 0, .null)) rfl
theorem eX8_count_87 : decode mX8_count.2.1 87 = .ok (.ireturn, 1) := px_tab_at tX8_count_ok 13 (e := (87, 1, .ireturn, 0, 0, .null)) rfl
theorem eX8_count_95 : decode mX8_count.2.1 95 = .ok (.ireturn, 1) := px_tab_at tX8_count_ok 17 (e := (95, 1, .ireturn, 0, 0, .null)) rfl
theorem eX8_count_103 : decode mX8_count.2.1 103 = .ok (.ireturn, 1) := px_tab_at tX8_count_ok 21 (e := (103, 1, .ireturn, 0, 0, .null)) rfl
theorem eX8_count_111 : decode mX8_count.2.1 111 = .ok (.ireturn, 1) := px_tab_at tX8_count_ok 25 (e := (111, 1, .ireturn, 0, 0, .null)) rfl
theorem eX8_count_119 : decode mX8_count.2.1 119 = .ok (.ireturn, 1) := px_tab_at tX8_count_ok 29 (e := (119, 1, .ireturn, 0, 0, .null)) rfl
theorem eX8_count_127 : decode mX8_count.2.1 127 = .ok (.ireturn, 1) := px_tab_at tX8_count_ok 33 (e := (127, 1, .ireturn, 0, 0, .null)) rfl
theorem eX8_count_135 : decode mX8_count.2.1 135 = .ok (.ireturn, 1) := px_tab_at tX8_count_ok 37 (e := (135, 1, .ireturn, 0, 0, .null)) rfl
theorem eX8_count_140 : decode mX8_count.2.1 140 = .ok (.ireturn, 1) := px_tab_at tX8_count_ok 40 (e := (140, 1, .ireturn, 0, 0, .null)) rfl
theorem eX8_count_148 : decode mX8_count.2.1 148 = .ok (.ireturn, 1) := px_tab_at tX8_count_ok 44 (e := (148, 1, .ireturn, 0, 0, .null)) rfl
theorem eX8_count_153 : decode mX8_count.2.1 153 = .ok (.invokestatic 206, 3) := px_tab_at tX8_count_ok 47 (e := (153, 3, .invokestatic 206, 0, 0, .null)) rfl
theorem eX8_count_156 : decode mX8_count.2.1 156 = .ok (.ireturn, 1) := px_tab_at tX8_count_ok 48 (e := (156, 1, .ireturn, 0, 0, .null)) rfl
theorem eX8_count_159 : decode mX8_count.2.1 159 = .ok (.invokevirtual 300, 3) := px_tab_at tX8_count_ok 51 (e := (159, 3, .invokevirtual 300, 0, 0, .null)) rfl
theorem eX8_count_162 : decode mX8_count.2.1 162 = .ok (.ireturn, 1) := px_tab_at tX8_count_ok 52 (e := (162, 1, .ireturn, 0, 0, .null)) rfl
theorem eX8_countBridge_1 : decode mX8_countBridge.2.1 1 = .ok (.tableswitch 128 12 18 #[43, 51, 65, 77, 96, 108, 120], 43) := px_tab_at tX8_countBridge_ok 1 (e := (1, 43, .tableswitch 128 12 18 #[43, 51, 65, 77, 96, 108, 120], 0, 0, .null)) rfl
theorem eX8_countBridge_51 : decode mX8_countBridge.2.1 51 = .ok (.ireturn, 1) := px_tab_at tX8_countBridge_ok 5 (e := (51, 1, .ireturn, 0, 0, .null)) rfl
theorem eX8_countBridge_62 : decode mX8_countBridge.2.1 62 = .ok (.invokevirtual 148, 3) := px_tab_at tX8_countBridge_ok 11 (e := (62, 3, .invokevirtual 148, 0, 0, .null)) rfl
theorem eX8_countBridge_65 : decode mX8_countBridge.2.1 65 = .ok (.ireturn, 1) := px_tab_at tX8_countBridge_ok 12 (e := (65, 1, .ireturn, 0, 0, .null)) rfl
theorem eX8_countBridge_74 : decode mX8_countBridge.2.1 74 = .ok (.invokevirtual 303, 3) := px_tab_at tX8_countBridge_ok 17 (e := (74, 3, .invokevirtual 303, 0, 0, .null)) rfl
theorem eX8_countBridge_77 : decode mX8_countBridge.2.1 77 = .ok (.ireturn, 1) := px_tab_at tX8_countBridge_ok 18 (e := (77, 1, .ireturn, 0, 0, .null)) rfl
theorem eX8_countBridge_93 : decode mX8_countBridge.2.1 93 = .ok (.invokevirtual 306, 3) := px_tab_at tX8_countBridge_ok 28 (e := (93, 3, .invokevirtual 306, 0, 0, .null)) rfl
theorem eX8_countBridge_96 : decode mX8_countBridge.2.1 96 = .ok (.ireturn, 1) := px_tab_at tX8_countBridge_ok 29 (e := (96, 1, .ireturn, 0, 0, .null)) rfl
theorem eX8_countBridge_105 : decode mX8_countBridge.2.1 105 = .ok (.invokevirtual 309, 3) := px_tab_at tX8_countBridge_ok 34 (e := (105, 3, .invokevirtual 309, 0, 0, .null)) rfl
theorem eX8_countBridge_108 : decode mX8_countBridge.2.1 108 = .ok (.ireturn, 1) := px_tab_at tX8_countBridge_ok 35 (e := (108, 1, .ireturn, 0, 0, .null)) rfl
theorem eX8_countBridge_117 : decode mX8_countBridge.2.1 117 = .ok (.invokevirtual 214, 3) := px_tab_at tX8_countBridge_ok 40 (e := (117, 3, .invokevirtual 214, 0, 0, .null)) rfl
theorem eX8_countBridge_120 : decode mX8_countBridge.2.1 120 = .ok (.ireturn, 1) := px_tab_at tX8_countBridge_ok 41 (e := (120, 1, .ireturn, 0, 0, .null)) rfl
theorem eX8_countBridge_125 : decode mX8_countBridge.2.1 125 = .ok (.invokevirtual 312, 3) := px_tab_at tX8_countBridge_ok 44 (e := (125, 3, .invokevirtual 312, 0, 0, .null)) rfl
theorem eX8_countBridge_128 : decode mX8_countBridge.2.1 128 = .ok (.ireturn, 1) := px_tab_at tX8_countBridge_ok 45 (e := (128, 1, .ireturn, 0, 0, .null)) rfl
theorem eX8_countBridge_130 : decode mX8_countBridge.2.1 130 = .ok (.ireturn, 1) := px_tab_at tX8_countBridge_ok 47 (e := (130, 1, .ireturn, 0, 0, .null)) rfl
theorem eX8_isSleeper_1 : decode mX8_isSleeper.2.1 1 = .ok (.ifCond .lt 18, 3) := px_tab_at tX8_isSleeper_ok 1 (e := (1, 3, .ifCond .lt 18, 0, 0, .null)) rfl
theorem eX8_isSleeper_12 : decode mX8_isSleeper.2.1 12 = .ok (.if_icmp .ge 7, 3) := px_tab_at tX8_isSleeper_ok 6 (e := (12, 3, .if_icmp .ge 7, 0, 0, .null)) rfl
theorem eX8_isSleeper_16 : decode mX8_isSleeper.2.1 16 = .ok (.goto 4, 3) := px_tab_at tX8_isSleeper_ok 8 (e := (16, 3, .goto 4, 0, 0, .null)) rfl
theorem eX8_isSleeper_20 : decode mX8_isSleeper.2.1 20 = .ok (.ireturn, 1) := px_tab_at tX8_isSleeper_ok 10 (e := (20, 1, .ireturn, 0, 0, .null)) rfl
theorem eX8_isCrosser_1 : decode mX8_isCrosser.2.1 1 = .ok (.ifCond .lt 18, 3) := px_tab_at tX8_isCrosser_ok 1 (e := (1, 3, .ifCond .lt 18, 0, 0, .null)) rfl
theorem eX8_isCrosser_12 : decode mX8_isCrosser.2.1 12 = .ok (.if_icmp .ge 7, 3) := px_tab_at tX8_isCrosser_ok 6 (e := (12, 3, .if_icmp .ge 7, 0, 0, .null)) rfl
theorem eX8_isCrosser_16 : decode mX8_isCrosser.2.1 16 = .ok (.goto 4, 3) := px_tab_at tX8_isCrosser_ok 8 (e := (16, 3, .goto 4, 0, 0, .null)) rfl
theorem eX8_isCrosser_20 : decode mX8_isCrosser.2.1 20 = .ok (.ireturn, 1) := px_tab_at tX8_isCrosser_ok 10 (e := (20, 1, .ireturn, 0, 0, .null)) rfl
theorem eX8_isSpan_1 : decode mX8_isSpan.2.1 1 = .ok (.ifCond .lt 18, 3) := px_tab_at tX8_isSpan_ok 1 (e := (1, 3, .ifCond .lt 18, 0, 0, .null)) rfl
theorem eX8_isSpan_12 : decode mX8_isSpan.2.1 12 = .ok (.if_icmp .ge 7, 3) := px_tab_at tX8_isSpan_ok 6 (e := (12, 3, .if_icmp .ge 7, 0, 0, .null)) rfl
theorem eX8_isSpan_16 : decode mX8_isSpan.2.1 16 = .ok (.goto 4, 3) := px_tab_at tX8_isSpan_ok 8 (e := (16, 3, .goto 4, 0, 0, .null)) rfl
theorem eX8_isSpan_20 : decode mX8_isSpan.2.1 20 = .ok (.ireturn, 1) := px_tab_at tX8_isSpan_ok 10 (e := (20, 1, .ireturn, 0, 0, .null)) rfl
theorem eX8_beginText_19 : decode mX8_beginText.2.1 19 = .ok (.invokevirtual 316, 3) := px_tab_at tX8_beginText_ok 9 (e := (19, 3, .invokevirtual 316, 0, 0, .null)) rfl
theorem eX8_beginText_40 : decode mX8_beginText.2.1 40 = .ok (.return_, 1) := px_tab_at tX8_beginText_ok 20 (e := (40, 1, .return_, 0, 0, .null)) rfl
theorem eX8_remember_12 : decode mX8_remember.2.1 12 = .ok (.invokevirtual 279, 3) := px_tab_at tX8_remember_ok 6 (e := (12, 3, .invokevirtual 279, 0, 0, .null)) rfl
theorem eX8_remember_37 : decode mX8_remember.2.1 37 = .ok (.invokestatic 319, 3) := px_tab_at tX8_remember_ok 21 (e := (37, 3, .invokestatic 319, 0, 0, .null)) rfl
theorem eX8_remember_43 : decode mX8_remember.2.1 43 = .ok (.return_, 1) := px_tab_at tX8_remember_ok 23 (e := (43, 1, .return_, 0, 0, .null)) rfl
theorem eX8_within_2 : decode mX8_within.2.1 2 = .ok (.if_icmp .ge 7, 3) := px_tab_at tX8_within_ok 2 (e := (2, 3, .if_icmp .ge 7, 0, 0, .null)) rfl
theorem eX8_within_6 : decode mX8_within.2.1 6 = .ok (.goto 13, 3) := px_tab_at tX8_within_ok 4 (e := (6, 3, .goto 13, 0, 0, .null)) rfl
theorem eX8_within_11 : decode mX8_within.2.1 11 = .ok (.if_icmp .le 7, 3) := px_tab_at tX8_within_ok 7 (e := (11, 3, .if_icmp .le 7, 0, 0, .null)) rfl
theorem eX8_within_15 : decode mX8_within.2.1 15 = .ok (.goto 4, 3) := px_tab_at tX8_within_ok 9 (e := (15, 3, .goto 4, 0, 0, .null)) rfl
theorem eX8_within_19 : decode mX8_within.2.1 19 = .ok (.ireturn, 1) := px_tab_at tX8_within_ok 11 (e := (19, 1, .ireturn, 0, 0, .null)) rfl
theorem eX9_init_1 : decode mX9_init.2.1 1 = .ok (.invokespecial 7, 3) := px_tab_at tX9_init_ok 1 (e := (1, 3, .invokespecial 7, 0, 0, .null)) rfl
theorem eX9_init_8 : decode mX9_init.2.1 8 = .ok (.newarray .byte, 2) := px_tab_at tX9_init_ok 4 (e := (8, 2, .newarray .byte, 0, 0, .null)) rfl
set_option maxRecDepth 100000 in
theorem eX9_init_10 : decode mX9_init.2.1 10 = .ok (.putfield 13, 3) := by decide +kernel
theorem eX9_init_17 : decode mX9_init.2.1 17 = .ok (.newarray .byte, 2) := px_tab_at tX9_init_ok 7 (e := (17, 2, .newarray .byte, 0, 0, .null)) rfl
set_option maxRecDepth 100000 in
theorem eX9_init_19 : decode mX9_init.2.1 19 = .ok (.putfield 17, 3) := by decide +kernel
theorem eX9_init_26 : decode mX9_init.2.1 26 = .ok (.newarray .int, 2) := px_tab_at tX9_init_ok 10 (e := (26, 2, .newarray .int, 0, 0, .null)) rfl
set_option maxRecDepth 100000 in
theorem eX9_init_28 : decode mX9_init.2.1 28 = .ok (.putfield 20, 3) := by decide +kernel
theorem eX9_init_35 : decode mX9_init.2.1 35 = .ok (.newarray .int, 2) := px_tab_at tX9_init_ok 13 (e := (35, 2, .newarray .int, 0, 0, .null)) rfl
set_option maxRecDepth 100000 in
theorem eX9_init_37 : decode mX9_init.2.1 37 = .ok (.putfield 24, 3) := by decide +kernel
theorem eX9_init_44 : decode mX9_init.2.1 44 = .ok (.newarray .int, 2) := px_tab_at tX9_init_ok 16 (e := (44, 2, .newarray .int, 0, 0, .null)) rfl
set_option maxRecDepth 100000 in
theorem eX9_init_46 : decode mX9_init.2.1 46 = .ok (.putfield 27, 3) := by decide +kernel
theorem eX9_init_53 : decode mX9_init.2.1 53 = .ok (.newarray .long, 2) := px_tab_at tX9_init_ok 19 (e := (53, 2, .newarray .long, 0, 0, .null)) rfl
set_option maxRecDepth 100000 in
theorem eX9_init_55 : decode mX9_init.2.1 55 = .ok (.putfield 30, 3) := by decide +kernel
theorem eX9_init_61 : decode mX9_init.2.1 61 = .ok (.newarray .long, 2) := px_tab_at tX9_init_ok 22 (e := (61, 2, .newarray .long, 0, 0, .null)) rfl
set_option maxRecDepth 100000 in
theorem eX9_init_63 : decode mX9_init.2.1 63 = .ok (.putfield 34, 3) := by decide +kernel
theorem eX9_init_74 : decode mX9_init.2.1 74 = .ok (.newarray .long, 2) := px_tab_at tX9_init_ok 28 (e := (74, 2, .newarray .long, 0, 0, .null)) rfl
set_option maxRecDepth 100000 in
theorem eX9_init_76 : decode mX9_init.2.1 76 = .ok (.putfield 40, 3) := by decide +kernel
theorem eX9_init_82 : decode mX9_init.2.1 82 = .ok (.newarray .int, 2) := px_tab_at tX9_init_ok 31 (e := (82, 2, .newarray .int, 0, 0, .null)) rfl
set_option maxRecDepth 100000 in
theorem eX9_init_84 : decode mX9_init.2.1 84 = .ok (.putfield 43, 3) := by decide +kernel
theorem eX9_init_89 : decode mX9_init.2.1 89 = .ok (.newarray .int, 2) := px_tab_at tX9_init_ok 34 (e := (89, 2, .newarray .int, 0, 0, .null)) rfl
set_option maxRecDepth 100000 in
theorem eX9_init_91 : decode mX9_init.2.1 91 = .ok (.putfield 46, 3) := by decide +kernel
theorem eX9_init_96 : decode mX9_init.2.1 96 = .ok (.newarray .int, 2) := px_tab_at tX9_init_ok 37 (e := (96, 2, .newarray .int, 0, 0, .null)) rfl
set_option maxRecDepth 100000 in
theorem eX9_init_98 : decode mX9_init.2.1 98 = .ok (.putfield 49, 3) := by decide +kernel
theorem eX9_init_104 : decode mX9_init.2.1 104 = .ok (.newarray .int, 2) := px_tab_at tX9_init_ok 40 (e := (104, 2, .newarray .int, 0, 0, .null)) rfl
set_option maxRecDepth 100000 in
theorem eX9_init_106 : decode mX9_init.2.1 106 = .ok (.putfield 52, 3) := by decide +kernel
theorem eX9_init_112 : decode mX9_init.2.1 112 = .ok (.newarray .int, 2) := px_tab_at tX9_init_ok 43 (e := (112, 2, .newarray .int, 0, 0, .null)) rfl
set_option maxRecDepth 100000 in
theorem eX9_init_114 : decode mX9_init.2.1 114 = .ok (.putfield 55, 3) := by decide +kernel
theorem eX9_init_120 : decode mX9_init.2.1 120 = .ok (.newarray .int, 2) := px_tab_at tX9_init_ok 46 (e := (120, 2, .newarray .int, 0, 0, .null)) rfl
set_option maxRecDepth 100000 in
theorem eX9_init_122 : decode mX9_init.2.1 122 = .ok (.putfield 58, 3) := by decide +kernel
theorem eX9_init_128 : decode mX9_init.2.1 128 = .ok (.newarray .int, 2) := px_tab_at tX9_init_ok 49 (e := (128, 2, .newarray .int, 0, 0, .null)) rfl
set_option maxRecDepth 100000 in
theorem eX9_init_130 : decode mX9_init.2.1 130 = .ok (.putfield 61, 3) := by decide +kernel
theorem eX9_init_136 : decode mX9_init.2.1 136 = .ok (.newarray .int, 2) := px_tab_at tX9_init_ok 52 (e := (136, 2, .newarray .int, 0, 0, .null)) rfl
set_option maxRecDepth 100000 in
theorem eX9_init_138 : decode mX9_init.2.1 138 = .ok (.putfield 64, 3) := by decide +kernel
theorem eX9_init_143 : decode mX9_init.2.1 143 = .ok (.newarray .int, 2) := px_tab_at tX9_init_ok 55 (e := (143, 2, .newarray .int, 0, 0, .null)) rfl
set_option maxRecDepth 100000 in
theorem eX9_init_145 : decode mX9_init.2.1 145 = .ok (.putfield 67, 3) := by decide +kernel
theorem eX9_init_150 : decode mX9_init.2.1 150 = .ok (.newarray .int, 2) := px_tab_at tX9_init_ok 58 (e := (150, 2, .newarray .int, 0, 0, .null)) rfl
set_option maxRecDepth 100000 in
theorem eX9_init_152 : decode mX9_init.2.1 152 = .ok (.putfield 70, 3) := by decide +kernel
theorem eX9_init_158 : decode mX9_init.2.1 158 = .ok (.newarray .int, 2) := px_tab_at tX9_init_ok 61 (e := (158, 2, .newarray .int, 0, 0, .null)) rfl
set_option maxRecDepth 100000 in
theorem eX9_init_160 : decode mX9_init.2.1 160 = .ok (.putfield 73, 3) := by decide +kernel
theorem eX9_init_166 : decode mX9_init.2.1 166 = .ok (.newarray .int, 2) := px_tab_at tX9_init_ok 64 (e := (166, 2, .newarray .int, 0, 0, .null)) rfl
set_option maxRecDepth 100000 in
theorem eX9_init_168 : decode mX9_init.2.1 168 = .ok (.putfield 76, 3) := by decide +kernel
theorem eX9_init_174 : decode mX9_init.2.1 174 = .ok (.newarray .int, 2) := px_tab_at tX9_init_ok 67 (e := (174, 2, .newarray .int, 0, 0, .null)) rfl
set_option maxRecDepth 100000 in
theorem eX9_init_176 : decode mX9_init.2.1 176 = .ok (.putfield 79, 3) := by decide +kernel
theorem eX9_init_181 : decode mX9_init.2.1 181 = .ok (.newarray .int, 2) := px_tab_at tX9_init_ok 70 (e := (181, 2, .newarray .int, 0, 0, .null)) rfl
set_option maxRecDepth 100000 in
theorem eX9_init_183 : decode mX9_init.2.1 183 = .ok (.putfield 82, 3) := by decide +kernel
theorem eX9_init_188 : decode mX9_init.2.1 188 = .ok (.newarray .int, 2) := px_tab_at tX9_init_ok 73 (e := (188, 2, .newarray .int, 0, 0, .null)) rfl
set_option maxRecDepth 100000 in
theorem eX9_init_190 : decode mX9_init.2.1 190 = .ok (.putfield 85, 3) := by decide +kernel
theorem eX9_init_195 : decode mX9_init.2.1 195 = .ok (.newarray .int, 2) := px_tab_at tX9_init_ok 76 (e := (195, 2, .newarray .int, 0, 0, .null)) rfl
set_option maxRecDepth 100000 in
theorem eX9_init_197 : decode mX9_init.2.1 197 = .ok (.putfield 88, 3) := by decide +kernel
theorem eX9_init_203 : decode mX9_init.2.1 203 = .ok (.newarray .int, 2) := px_tab_at tX9_init_ok 79 (e := (203, 2, .newarray .int, 0, 0, .null)) rfl
set_option maxRecDepth 100000 in
theorem eX9_init_205 : decode mX9_init.2.1 205 = .ok (.putfield 91, 3) := by decide +kernel
theorem eX9_init_211 : decode mX9_init.2.1 211 = .ok (.newarray .int, 2) := px_tab_at tX9_init_ok 82 (e := (211, 2, .newarray .int, 0, 0, .null)) rfl
set_option maxRecDepth 100000 in
theorem eX9_init_213 : decode mX9_init.2.1 213 = .ok (.putfield 94, 3) := by decide +kernel
theorem eX9_init_220 : decode mX9_init.2.1 220 = .ok (.newarray .boolean, 2) := px_tab_at tX9_init_ok 85 (e := (220, 2, .newarray .boolean, 0, 0, .null)) rfl
set_option maxRecDepth 100000 in
theorem eX9_init_222 : decode mX9_init.2.1 222 = .ok (.putfield 97, 3) := by decide +kernel
theorem eX9_init_229 : decode mX9_init.2.1 229 = .ok (.newarray .int, 2) := px_tab_at tX9_init_ok 88 (e := (229, 2, .newarray .int, 0, 0, .null)) rfl
set_option maxRecDepth 100000 in
theorem eX9_init_231 : decode mX9_init.2.1 231 = .ok (.putfield 101, 3) := by decide +kernel
theorem eX9_init_238 : decode mX9_init.2.1 238 = .ok (.newarray .int, 2) := px_tab_at tX9_init_ok 91 (e := (238, 2, .newarray .int, 0, 0, .null)) rfl
set_option maxRecDepth 100000 in
theorem eX9_init_240 : decode mX9_init.2.1 240 = .ok (.putfield 104, 3) := by decide +kernel
theorem eX9_init_247 : decode mX9_init.2.1 247 = .ok (.newarray .int, 2) := px_tab_at tX9_init_ok 94 (e := (247, 2, .newarray .int, 0, 0, .null)) rfl
set_option maxRecDepth 100000 in
theorem eX9_init_249 : decode mX9_init.2.1 249 = .ok (.putfield 107, 3) := by decide +kernel
theorem eX9_init_256 : decode mX9_init.2.1 256 = .ok (.newarray .int, 2) := px_tab_at tX9_init_ok 97 (e := (256, 2, .newarray .int, 0, 0, .null)) rfl
set_option maxRecDepth 100000 in
theorem eX9_init_258 : decode mX9_init.2.1 258 = .ok (.putfield 110, 3) := by decide +kernel
theorem eX9_init_265 : decode mX9_init.2.1 265 = .ok (.newarray .int, 2) := px_tab_at tX9_init_ok 100 (e := (265, 2, .newarray .int, 0, 0, .null)) rfl
set_option maxRecDepth 100000 in
theorem eX9_init_267 : decode mX9_init.2.1 267 = .ok (.putfield 113, 3) := by decide +kernel
theorem eX9_init_274 : decode mX9_init.2.1 274 = .ok (.newarray .int, 2) := px_tab_at tX9_init_ok 103 (e := (274, 2, .newarray .int, 0, 0, .null)) rfl
set_option maxRecDepth 100000 in
theorem eX9_init_276 : decode mX9_init.2.1 276 = .ok (.putfield 116, 3) := by decide +kernel
theorem eX9_init_282 : decode mX9_init.2.1 282 = .ok (.newarray .int, 2) := px_tab_at tX9_init_ok 106 (e := (282, 2, .newarray .int, 0, 0, .null)) rfl
