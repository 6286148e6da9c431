/-! methods and their instructions: SleepBridge$Text -/
abbrev mX7_init : px_M := (yX7_init, cX7_init, 1, none)
def tX7_init_0 : List px_I := [(0, 1, .aload_n 0, 0, 0, .null), (1, 3, .invokespecial 3, 0, 0, .null), (4, 1, .aload_n 0, 0, 0, .null), (5, 2, .bipush 6, 0, 0, .null), (7, 2, .newarray .long, 0, 0, .null), (12, 1, .aload_n 0, 0, 0, .null), (13, 2, .bipush 6, 0, 0, .null), (15, 2, .newarray .int, 0, 0, .null), (20, 1, .aload_n 0, 0, 0, .null), (21, 2, .bipush 6, 0, 0, .null), (23, 2, .newarray .int, 0, 0, .null), (28, 1, .aload_n 0, 0, 0, .null), (29, 2, .bipush 6, 0, 0, .null), (31, 2, .newarray .int, 0, 0, .null), (36, 1, .aload_n 0, 0, 0, .null), (37, 2, .bipush 6, 0, 0, .null), (39, 2, .newarray .int, 0, 0, .null), (44, 1, .aload_n 0, 0, 0, .null), (45, 2, .bipush 6, 0, 0, .null), (47, 2, .newarray .int, 0, 0, .null), (52, 1, .aload_n 0, 0, 0, .null), (53, 1, .iconst 5, 0, 0, .null), (54, 2, .newarray .long, 0, 0, .null), (59, 1, .aload_n 0, 0, 0, .null), (60, 1, .iconst 5, 0, 0, .null), (61, 2, .newarray .int, 0, 0, .null), (66, 1, .aload_n 0, 0, 0, .null), (67, 1, .iconst 5, 0, 0, .null), (68, 2, .newarray .int, 0, 0, .null), (73, 1, .aload_n 0, 0, 0, .null), (74, 1, .iconst 5, 0, 0, .null), (75, 2, .newarray .int, 0, 0, .null), (80, 1, .aload_n 0, 0, 0, .null), (81, 3, .new 43, 0, 0, .null), (84, 1, .dup, 0, 0, .null), (85, 3, .invokespecial 45, 0, 0, .null), (91, 1, .aload_n 0, 0, 0, .null), (92, 3, .invokevirtual 50, 0, 0, .null), (95, 1, .return_, 0, 0, .null)]
set_option maxRecDepth 100000 in
theorem tX7_init_0_ok : px_tab mX7_init tX7_init_0 := px_tab_of ft_X7_ok (by decide +kernel) (by decide +kernel)
abbrev tX7_init : List px_I := tX7_init_0
theorem tX7_init_ok : px_tab mX7_init tX7_init := tX7_init_0_ok
abbrev mX7_clear : px_M := (yX7_clear, cX7_clear, 1, none)
def tX7_clear_0 : List px_I := [(0, 1, .aload_n 0, 0, 0, .null), (1, 1, .iconst 3, 0, 0, .null), (2, 3, .putfield 53, 7, 0, .int 0), (5, 1, .aload_n 0, 0, 0, .null), (6, 1, .iconst 0, 0, 0, .null), (7, 3, .putfield 57, 7, 1, .int 0), (10, 1, .aload_n 0, 0, 0, .null), (11, 1, .iconst 0, 0, 0, .null), (12, 3, .putfield 60, 7, 2, .int 0), (15, 1, .aload_n 0, 0, 0, .null), (16, 1, .iconst 0, 0, 0, .null), (17, 3, .putfield 63, 7, 3, .int 0), (20, 1, .aload_n 0, 0, 0, .null), (21, 2, .bipush 12, 0, 0, .null), (23, 3, .putfield 66, 7, 4, .int 0), (26, 1, .aload_n 0, 0, 0, .null), (27, 1, .iconst 5, 0, 0, .null), (28, 3, .putfield 69, 7, 5, .int 0), (31, 1, .aload_n 0, 0, 0, .null), (32, 1, .iconst 0, 0, 0, .null), (33, 3, .putfield 72, 7, 6, .int 0), (36, 1, .aload_n 0, 0, 0, .null), (37, 3, .getfield 46, 7, 17, .null), (40, 3, .invokevirtual 75, 0, 0, .null), (43, 1, .return_, 0, 0, .null)]
set_option maxRecDepth 100000 in
theorem tX7_clear_0_ok : px_tab mX7_clear tX7_clear_0 := px_tab_of ft_X7_ok (by decide +kernel) (by decide +kernel)
abbrev tX7_clear : List px_I := tX7_clear_0
theorem tX7_clear_ok : px_tab mX7_clear tX7_clear := tX7_clear_0_ok
abbrev mX7_asleepAt : px_M := (yX7_asleepAt, cX7_asleepAt, 3, (some .int))
def tX7_asleepAt_0 : List px_I := [(0, 1, .iload_n 1, 0, 0, .null), (1, 1, .aload_n 0, 0, 0, .null), (2, 3, .getfield 66, 7, 4, .null), (5, 3, .if_icmp .lt 7, 0, 0, .null), (8, 1, .iconst 0, 0, 0, .null), (9, 3, .goto 15, 0, 0, .null), (12, 1, .iconst 1, 0, 0, .null), (13, 1, .aload_n 0, 0, 0, .null), (14, 3, .getfield 57, 7, 1, .null), (17, 1, .ishl, 0, 0, .null), (18, 1, .iconst 1, 0, 0, .null), (19, 1, .isub, 0, 0, .null), (20, 1, .iload_n 2, 0, 0, .null), (21, 1, .iconst (-1), 0, 0, .null), (22, 1, .ixor, 0, 0, .null), (23, 1, .iand, 0, 0, .null), (24, 1, .ireturn, 0, 0, .null)]
set_option maxRecDepth 100000 in
theorem tX7_asleepAt_0_ok : px_tab mX7_asleepAt tX7_asleepAt_0 := px_tab_of ft_X7_ok (by decide +kernel) (by decide +kernel)
abbrev tX7_asleepAt : List px_I := tX7_asleepAt_0
theorem tX7_asleepAt_ok : px_tab mX7_asleepAt tX7_asleepAt := tX7_asleepAt_0_ok
abbrev mX7_sleeperNamed : px_M := (yX7_sleeperNamed, cX7_sleeperNamed, 4, (some .int))
def tX7_sleeperNamed_0 : List px_I := [(0, 1, .iconst 0, 0, 0, .null), (1, 1, .istore_n 3, 0, 0, .null), (2, 1, .iload_n 3, 0, 0, .null), (3, 1, .aload_n 0, 0, 0, .null), (4, 3, .getfield 57, 7, 1, .null), (7, 3, .if_icmp .ge 22, 0, 0, .null), (10, 1, .aload_n 0, 0, 0, .null), (11, 3, .getfield 9, 7, 7, .null), (14, 1, .iload_n 3, 0, 0, .null), (15, 1, .laload, 0, 0, .null), (16, 1, .lload_n 1, 0, 0, .null), (17, 1, .lcmp, 0, 0, .null), (18, 3, .ifCond .ne 5, 0, 0, .null), (21, 1, .iload_n 3, 0, 0, .null), (22, 1, .ireturn, 0, 0, .null), (23, 3, .iinc 3 1, 0, 0, .null), (26, 3, .goto (-24), 0, 0, .null), (29, 1, .iconst (-1), 0, 0, .null), (30, 1, .ireturn, 0, 0, .null)]
set_option maxRecDepth 100000 in
theorem tX7_sleeperNamed_0_ok : px_tab mX7_sleeperNamed tX7_sleeperNamed_0 := px_tab_of ft_X7_ok (by decide +kernel) (by decide +kernel)
abbrev tX7_sleeperNamed : List px_I := tX7_sleeperNamed_0
theorem tX7_sleeperNamed_ok : px_tab mX7_sleeperNamed tX7_sleeperNamed := tX7_sleeperNamed_0_ok
abbrev mX7_isTaken : px_M := (yX7_isTaken, cX7_isTaken, 4, (some .boolean))
def tX7_isTaken_0 : List px_I := [(0, 1, .iconst 0, 0, 0, .null), (1, 1, .istore_n 3, 0, 0, .null), (2, 1, .iload_n 3, 0, 0, .null), (3, 1, .aload_n 0, 0, 0, .null), (4, 3, .getfield 63, 7, 3, .null), (7, 3, .if_icmp .ge 22, 0, 0, .null), (10, 1, .aload_n 0, 0, 0, .null), (11, 3, .getfield 31, 7, 13, .null), (14, 1, .iload_n 3, 0, 0, .null), (15, 1, .laload, 0, 0, .null), (16, 1, .lload_n 1, 0, 0, .null), (17, 1, .lcmp, 0, 0, .null), (18, 3, .ifCond .ne 5, 0, 0, .null), (21, 1, .iconst 1, 0, 0, .null), (22, 1, .ireturn, 0, 0, .null), (23, 3, .iinc 3 1, 0, 0, .null), (26, 3, .goto (-24), 0, 0, .null), (29, 1, .aload_n 0, 0, 0, .null), (30, 1, .lload_n 1, 0, 0, .null), (31, 3, .invokevirtual 76, 0, 0, .null), (34, 1, .iconst (-1), 0, 0, .null), (35, 3, .if_icmp .eq 7, 0, 0, .null), (38, 1, .iconst 1, 0, 0, .null), (39, 3, .goto 4, 0, 0, .null), (42, 1, .iconst 0, 0, 0, .null), (43, 1, .ireturn, 0, 0, .null)]
set_option maxRecDepth 100000 in
theorem tX7_isTaken_0_ok : px_tab mX7_isTaken tX7_isTaken_0 := px_tab_of ft_X7_ok (by decide +kernel) (by decide +kernel)
abbrev tX7_isTaken : List px_I := tX7_isTaken_0
theorem tX7_isTaken_ok : px_tab mX7_isTaken tX7_isTaken := tX7_isTaken_0_ok
abbrev mX7_hasPair : px_M := (yX7_hasPair, cX7_hasPair, 3, (some .boolean))
def tX7_hasPair_0 : List px_I := [(0, 1, .iconst 0, 0, 0, .null), (1, 1, .istore_n 2, 0, 0, .null), (2, 1, .iload_n 2, 0, 0, .null), (3, 1, .aload_n 0, 0, 0, .null), (4, 3, .getfield 60, 7, 2, .null), (7, 3, .if_icmp .ge 21, 0, 0, .null), (10, 1, .aload_n 0, 0, 0, .null), (11, 3, .getfield 28, 7, 12, .null), (14, 1, .iload_n 2, 0, 0, .null), (15, 1, .iaload, 0, 0, .null), (16, 1, .iload_n 1, 0, 0, .null), (17, 3, .if_icmp .ne 5, 0, 0, .null), (20, 1, .iconst 1, 0, 0, .null), (21, 1, .ireturn, 0, 0, .null), (22, 3, .iinc 2 1, 0, 0, .null), (25, 3, .goto (-23), 0, 0, .null), (28, 1, .iconst 0, 0, 0, .null), (29, 1, .ireturn, 0, 0, .null)]
set_option maxRecDepth 100000 in
theorem tX7_hasPair_0_ok : px_tab mX7_hasPair tX7_hasPair_0 := px_tab_of ft_X7_ok (by decide +kernel) (by decide +kernel)
abbrev tX7_hasPair : List px_I := tX7_hasPair_0
theorem tX7_hasPair_ok : px_tab mX7_hasPair tX7_hasPair := tX7_hasPair_0_ok
abbrev mX7_someLieOutside : px_M := (yX7_someLieOutside, cX7_someLieOutside, 2, (some .boolean))
def tX7_someLieOutside_0 : List px_I := [(0, 1, .iconst 0, 0, 0, .null), (1, 1, .istore_n 1, 0, 0, .null), (2, 1, .iload_n 1, 0, 0, .null), (3, 1, .aload_n 0, 0, 0, .null), (4, 3, .getfield 57, 7, 1, .null), (7, 3, .if_icmp .ge 24, 0, 0, .null), (10, 1, .aload_n 0, 0, 0, .null), (11, 3, .getfield 25, 7, 11, .null), (14, 1, .iload_n 1, 0, 0, .null), (15, 1, .iaload, 0, 0, .null), (16, 1, .aload_n 0, 0, 0, .null), (17, 3, .getfield 53, 7, 0, .null), (20, 3, .if_icmp .lt 5, 0, 0, .null), (23, 1, .iconst 1, 0, 0, .null), (24, 1, .ireturn, 0, 0, .null), (25, 3, .iinc 1 1, 0, 0, .null), (28, 3, .goto (-26), 0, 0, .null), (31, 1, .iconst 0, 0, 0, .null), (32, 1, .ireturn, 0, 0, .null)]
set_option maxRecDepth 100000 in
theorem tX7_someLieOutside_0_ok : px_tab mX7_someLieOutside tX7_someLieOutside_0 := px_tab_of ft_X7_ok (by decide +kernel) (by decide +kernel)
abbrev tX7_someLieOutside : List px_I := tX7_someLieOutside_0
theorem tX7_someLieOutside_ok : px_tab mX7_someLieOutside tX7_someLieOutside := tX7_someLieOutside_0_ok
abbrev mX7_wagesOf : px_M := (yX7_wagesOf, cX7_wagesOf, 4, (some .int))
def tX7_wagesOf_0 : List px_I := [(0, 1, .iconst 0, 0, 0, .null), (1, 1, .istore_n 2, 0, 0, .null), (2, 1, .iconst 0, 0, 0, .null), (3, 1, .istore_n 3, 0, 0, .null), (4, 1, .iload_n 3, 0, 0, .null), (5, 1, .aload_n 0, 0, 0, .null), (6, 3, .getfield 57, 7, 1, .null), (9, 3, .if_icmp .ge 31, 0, 0, .null), (12, 1, .iload_n 2, 0, 0, .null), (13, 1, .iload_n 1, 0, 0, .null), (14, 1, .iload_n 3, 0, 0, .null), (15, 1, .ishr, 0, 0, .null), (16, 1, .iconst 1, 0, 0, .null), (17, 1, .iand, 0, 0, .null), (18, 1, .iconst 1, 0, 0, .null), (19, 3, .if_icmp .ne 12, 0, 0, .null), (22, 1, .aload_n 0, 0, 0, .null), (23, 3, .getfield 22, 7, 10, .null), (26, 1, .iload_n 3, 0, 0, .null), (27, 1, .iaload, 0, 0, .null), (28, 3, .goto 4, 0, 0, .null), (31, 1, .iconst 0, 0, 0, .null), (32, 1, .iadd, 0, 0, .null), (33, 1, .istore_n 2, 0, 0, .null), (34, 3, .iinc 3 1, 0, 0, .null), (37, 3, .goto (-33), 0, 0, .null), (40, 1, .iload_n 2, 0, 0, .null), (41, 1, .ireturn, 0, 0, .null)]
set_option maxRecDepth 100000 in
theorem tX7_wagesOf_0_ok : px_tab mX7_wagesOf tX7_wagesOf_0 := px_tab_of ft_X7_ok (by decide +kernel) (by decide +kernel)
abbrev tX7_wagesOf : List px_I := tX7_wagesOf_0
theorem tX7_wagesOf_ok : px_tab mX7_wagesOf tX7_wagesOf := tX7_wagesOf_0_ok
