set_option maxRecDepth 100000 in
theorem eX9_init_284 : decode mX9_init.2.1 284 = .ok (.putfield 119, 3) := by decide +kernel
theorem eX9_init_290 : decode mX9_init.2.1 290 = .ok (.newarray .int, 2) := px_tab_at tX9_init_ok 109 (e := (290, 2, .newarray .int, 0, 0, .null)) rfl
set_option maxRecDepth 100000 in
theorem eX9_init_292 : decode mX9_init.2.1 292 = .ok (.putfield 122, 3) := by decide +kernel
theorem eX9_init_299 : decode mX9_init.2.1 299 = .ok (.newarray .int, 2) := px_tab_at tX9_init_ok 112 (e := (299, 2, .newarray .int, 0, 0, .null)) rfl
set_option maxRecDepth 100000 in
theorem eX9_init_301 : decode mX9_init.2.1 301 = .ok (.putfield 125, 3) := by decide +kernel
theorem eX9_init_307 : decode mX9_init.2.1 307 = .ok (.newarray .int, 2) := px_tab_at tX9_init_ok 115 (e := (307, 2, .newarray .int, 0, 0, .null)) rfl
set_option maxRecDepth 100000 in
theorem eX9_init_309 : decode mX9_init.2.1 309 = .ok (.putfield 128, 3) := by decide +kernel
theorem eX9_init_315 : decode mX9_init.2.1 315 = .ok (.newarray .int, 2) := px_tab_at tX9_init_ok 118 (e := (315, 2, .newarray .int, 0, 0, .null)) rfl
set_option maxRecDepth 100000 in
theorem eX9_init_317 : decode mX9_init.2.1 317 = .ok (.putfield 131, 3) := by decide +kernel
theorem eX9_init_323 : decode mX9_init.2.1 323 = .ok (.newarray .int, 2) := px_tab_at tX9_init_ok 121 (e := (323, 2, .newarray .int, 0, 0, .null)) rfl
set_option maxRecDepth 100000 in
theorem eX9_init_325 : decode mX9_init.2.1 325 = .ok (.putfield 134, 3) := by decide +kernel
theorem eX9_init_331 : decode mX9_init.2.1 331 = .ok (.newarray .boolean, 2) := px_tab_at tX9_init_ok 124 (e := (331, 2, .newarray .boolean, 0, 0, .null)) rfl
set_option maxRecDepth 100000 in
theorem eX9_init_333 : decode mX9_init.2.1 333 = .ok (.putfield 137, 3) := by decide +kernel
theorem eX9_init_338 : decode mX9_init.2.1 338 = .ok (.newarray .int, 2) := px_tab_at tX9_init_ok 127 (e := (338, 2, .newarray .int, 0, 0, .null)) rfl
set_option maxRecDepth 100000 in
theorem eX9_init_340 : decode mX9_init.2.1 340 = .ok (.putfield 140, 3) := by decide +kernel
theorem eX9_init_347 : decode mX9_init.2.1 347 = .ok (.newarray .int, 2) := px_tab_at tX9_init_ok 130 (e := (347, 2, .newarray .int, 0, 0, .null)) rfl
set_option maxRecDepth 100000 in
theorem eX9_init_349 : decode mX9_init.2.1 349 = .ok (.putfield 143, 3) := by decide +kernel
theorem eX9_init_354 : decode mX9_init.2.1 354 = .ok (.newarray .int, 2) := px_tab_at tX9_init_ok 133 (e := (354, 2, .newarray .int, 0, 0, .null)) rfl
set_option maxRecDepth 100000 in
theorem eX9_init_356 : decode mX9_init.2.1 356 = .ok (.putfield 146, 3) := by decide +kernel
theorem eX9_init_362 : decode mX9_init.2.1 362 = .ok (.newarray .int, 2) := px_tab_at tX9_init_ok 136 (e := (362, 2, .newarray .int, 0, 0, .null)) rfl
set_option maxRecDepth 100000 in
theorem eX9_init_364 : decode mX9_init.2.1 364 = .ok (.putfield 149, 3) := by decide +kernel
theorem eX9_init_370 : decode mX9_init.2.1 370 = .ok (.newarray .int, 2) := px_tab_at tX9_init_ok 139 (e := (370, 2, .newarray .int, 0, 0, .null)) rfl
set_option maxRecDepth 100000 in
theorem eX9_init_372 : decode mX9_init.2.1 372 = .ok (.putfield 152, 3) := by decide +kernel
theorem eX9_init_379 : decode mX9_init.2.1 379 = .ok (.newarray .int, 2) := px_tab_at tX9_init_ok 142 (e := (379, 2, .newarray .int, 0, 0, .null)) rfl
set_option maxRecDepth 100000 in
theorem eX9_init_381 : decode mX9_init.2.1 381 = .ok (.putfield 155, 3) := by decide +kernel
theorem eX9_init_386 : decode mX9_init.2.1 386 = .ok (.newarray .boolean, 2) := px_tab_at tX9_init_ok 145 (e := (386, 2, .newarray .boolean, 0, 0, .null)) rfl
set_option maxRecDepth 100000 in
theorem eX9_init_388 : decode mX9_init.2.1 388 = .ok (.putfield 158, 3) := by decide +kernel
theorem eX9_init_394 : decode mX9_init.2.1 394 = .ok (.newarray .int, 2) := px_tab_at tX9_init_ok 148 (e := (394, 2, .newarray .int, 0, 0, .null)) rfl
set_option maxRecDepth 100000 in
theorem eX9_init_396 : decode mX9_init.2.1 396 = .ok (.putfield 161, 3) := by decide +kernel
theorem eX9_init_401 : decode mX9_init.2.1 401 = .ok (.invokevirtual 164, 3) := px_tab_at tX9_init_ok 151 (e := (401, 3, .invokevirtual 164, 0, 0, .null)) rfl
theorem eX9_init_421 : decode mX9_init.2.1 421 = .ok (.invokestatic 168, 3) := px_tab_at tX9_init_ok 162 (e := (421, 3, .invokestatic 168, 0, 0, .null)) rfl
theorem eX9_init_444 : decode mX9_init.2.1 444 = .ok (.invokestatic 168, 3) := px_tab_at tX9_init_ok 174 (e := (444, 3, .invokestatic 168, 0, 0, .null)) rfl
theorem eX9_init_464 : decode mX9_init.2.1 464 = .ok (.invokestatic 168, 3) := px_tab_at tX9_init_ok 186 (e := (464, 3, .invokestatic 168, 0, 0, .null)) rfl
theorem eX9_init_487 : decode mX9_init.2.1 487 = .ok (.invokestatic 168, 3) := px_tab_at tX9_init_ok 198 (e := (487, 3, .invokestatic 168, 0, 0, .null)) rfl
set_option maxRecDepth 100000 in
theorem eX9_init_508 : decode mX9_init.2.1 508 = .ok (.invokestatic 168, 3) := px_tab_at tX9_init_ok 210 (e := (508, 3, .invokestatic 168, 0, 0, .null)) rfl
set_option maxRecDepth 100000 in
theorem eX9_init_529 : decode mX9_init.2.1 529 = .ok (.invokestatic 168, 3) := px_tab_at tX9_init_ok 222 (e := (529, 3, .invokestatic 168, 0, 0, .null)) rfl
set_option maxRecDepth 100000 in
theorem eX9_init_553 : decode mX9_init.2.1 553 = .ok (.invokestatic 168, 3) := px_tab_at tX9_init_ok 234 (e := (553, 3, .invokestatic 168, 0, 0, .null)) rfl
set_option maxRecDepth 100000 in
theorem eX9_init_574 : decode mX9_init.2.1 574 = .ok (.invokestatic 168, 3) := px_tab_at tX9_init_ok 246 (e := (574, 3, .invokestatic 168, 0, 0, .null)) rfl
set_option maxRecDepth 100000 in
theorem eX9_init_596 : decode mX9_init.2.1 596 = .ok (.invokestatic 168, 3) := px_tab_at tX9_init_ok 258 (e := (596, 3, .invokestatic 168, 0, 0, .null)) rfl
set_option maxRecDepth 100000 in
theorem eX9_init_617 : decode mX9_init.2.1 617 = .ok (.invokestatic 168, 3) := px_tab_at tX9_init_ok 270 (e := (617, 3, .invokestatic 168, 0, 0, .null)) rfl
set_option maxRecDepth 100000 in
theorem eX9_init_636 : decode mX9_init.2.1 636 = .ok (.invokestatic 168, 3) := px_tab_at tX9_init_ok 282 (e := (636, 3, .invokestatic 168, 0, 0, .null)) rfl
set_option maxRecDepth 100000 in
theorem eX9_init_657 : decode mX9_init.2.1 657 = .ok (.invokestatic 168, 3) := px_tab_at tX9_init_ok 294 (e := (657, 3, .invokestatic 168, 0, 0, .null)) rfl
set_option maxRecDepth 100000 in
theorem eX9_init_678 : decode mX9_init.2.1 678 = .ok (.invokestatic 168, 3) := px_tab_at tX9_init_ok 306 (e := (678, 3, .invokestatic 168, 0, 0, .null)) rfl
set_option maxRecDepth 100000 in
theorem eX9_init_700 : decode mX9_init.2.1 700 = .ok (.invokestatic 168, 3) := px_tab_at tX9_init_ok 318 (e := (700, 3, .invokestatic 168, 0, 0, .null)) rfl
set_option maxRecDepth 100000 in
theorem eX9_init_723 : decode mX9_init.2.1 723 = .ok (.invokestatic 168, 3) := px_tab_at tX9_init_ok 330 (e := (723, 3, .invokestatic 168, 0, 0, .null)) rfl
set_option maxRecDepth 100000 in
theorem eX9_init_744 : decode mX9_init.2.1 744 = .ok (.invokestatic 168, 3) := px_tab_at tX9_init_ok 342 (e := (744, 3, .invokestatic 168, 0, 0, .null)) rfl
set_option maxRecDepth 100000 in
theorem eX9_init_766 : decode mX9_init.2.1 766 = .ok (.invokestatic 168, 3) := px_tab_at tX9_init_ok 354 (e := (766, 3, .invokestatic 168, 0, 0, .null)) rfl
set_option maxRecDepth 100000 in
theorem eX9_init_788 : decode mX9_init.2.1 788 = .ok (.invokestatic 168, 3) := px_tab_at tX9_init_ok 366 (e := (788, 3, .invokestatic 168, 0, 0, .null)) rfl
set_option maxRecDepth 100000 in
theorem eX9_init_809 : decode mX9_init.2.1 809 = .ok (.invokestatic 168, 3) := px_tab_at tX9_init_ok 378 (e := (809, 3, .invokestatic 168, 0, 0, .null)) rfl
set_option maxRecDepth 100000 in
theorem eX9_init_832 : decode mX9_init.2.1 832 = .ok (.invokestatic 168, 3) := px_tab_at tX9_init_ok 390 (e := (832, 3, .invokestatic 168, 0, 0, .null)) rfl
set_option maxRecDepth 100000 in
theorem eX9_init_853 : decode mX9_init.2.1 853 = .ok (.invokestatic 168, 3) := px_tab_at tX9_init_ok 402 (e := (853, 3, .invokestatic 168, 0, 0, .null)) rfl
set_option maxRecDepth 100000 in
theorem eX9_init_874 : decode mX9_init.2.1 874 = .ok (.invokestatic 168, 3) := px_tab_at tX9_init_ok 414 (e := (874, 3, .invokestatic 168, 0, 0, .null)) rfl
set_option maxRecDepth 100000 in
theorem eX9_init_879 : decode mX9_init.2.1 879 = .ok (.invokevirtual 172, 3) := px_tab_at tX9_init_ok 417 (e := (879, 3, .invokevirtual 172, 0, 0, .null)) rfl
set_option maxRecDepth 100000 in
theorem eX9_init_883 : decode mX9_init.2.1 883 = .ok (.invokevirtual 175, 3) := px_tab_at tX9_init_ok 419 (e := (883, 3, .invokevirtual 175, 0, 0, .null)) rfl
set_option maxRecDepth 100000 in
theorem eX9_init_886 : decode mX9_init.2.1 886 = .ok (.return_, 1) := px_tab_at tX9_init_ok 420 (e := (886, 1, .return_, 0, 0, .null)) rfl
theorem eX9_feed_10 : decode mX9_feed.2.1 10 = .ok (.if_icmp .le 5, 3) := px_tab_at tX9_feed_ok 5 (e := (10, 3, .if_icmp .le 5, 0, 0, .null)) rfl
theorem eX9_feed_14 : decode mX9_feed.2.1 14 = .ok (.ireturn, 1) := px_tab_at tX9_feed_ok 7 (e := (14, 1, .ireturn, 0, 0, .null)) rfl
theorem eX9_feed_17 : decode mX9_feed.2.1 17 = .ok (.invokevirtual 181, 3) := px_tab_at tX9_feed_ok 10 (e := (17, 3, .invokevirtual 181, 0, 0, .null)) rfl
theorem eX9_feed_22 : decode mX9_feed.2.1 22 = .ok (.invokevirtual 181, 3) := px_tab_at tX9_feed_ok 13 (e := (22, 3, .invokevirtual 181, 0, 0, .null)) rfl
theorem eX9_feed_27 : decode mX9_feed.2.1 27 = .ok (.invokevirtual 181, 3) := px_tab_at tX9_feed_ok 16 (e := (27, 3, .invokevirtual 181, 0, 0, .null)) rfl
theorem eX9_feed_33 : decode mX9_feed.2.1 33 = .ok (.invokevirtual 181, 3) := px_tab_at tX9_feed_ok 19 (e := (33, 3, .invokevirtual 181, 0, 0, .null)) rfl
theorem eX9_feed_39 : decode mX9_feed.2.1 39 = .ok (.invokevirtual 181, 3) := px_tab_at tX9_feed_ok 22 (e := (39, 3, .invokevirtual 181, 0, 0, .null)) rfl
theorem eX9_feed_46 : decode mX9_feed.2.1 46 = .ok (.ireturn, 1) := px_tab_at tX9_feed_ok 25 (e := (46, 1, .ireturn, 0, 0, .null)) rfl
theorem eX9_put_4 : decode mX9_put.2.1 4 = .ok (.ifCond .lt 32, 3) := px_tab_at tX9_put_ok 3 (e := (4, 3, .ifCond .lt 32, 0, 0, .null)) rfl
theorem eX9_put_33 : decode mX9_put.2.1 33 = .ok (.goto (-30), 3) := px_tab_at tX9_put_ok 20 (e := (33, 3, .goto (-30), 0, 0, .null)) rfl
theorem eX9_put_36 : decode mX9_put.2.1 36 = .ok (.return_, 1) := px_tab_at tX9_put_ok 21 (e := (36, 1, .return_, 0, 0, .null)) rfl
theorem eX9_back_1 : decode mX9_back.2.1 1 = .ok (.ifCond .lt 11, 3) := px_tab_at tX9_back_ok 1 (e := (1, 3, .ifCond .lt 11, 0, 0, .null)) rfl
theorem eX9_back_9 : decode mX9_back.2.1 9 = .ok (.if_icmp .le 5, 3) := px_tab_at tX9_back_ok 5 (e := (9, 3, .if_icmp .le 5, 0, 0, .null)) rfl
theorem eX9_back_13 : decode mX9_back.2.1 13 = .ok (.ireturn, 1) := px_tab_at tX9_back_ok 7 (e := (13, 1, .ireturn, 0, 0, .null)) rfl
theorem eX9_back_28 : decode mX9_back.2.1 28 = .ok (.ireturn, 1) := px_tab_at tX9_back_ok 16 (e := (28, 1, .ireturn, 0, 0, .null)) rfl
theorem eX9_byteAt_5 : decode mX9_byteAt.2.1 5 = .ok (.if_icmp .ge 16, 3) := px_tab_at tX9_byteAt_ok 3 (e := (5, 3, .if_icmp .ge 16, 0, 0, .null)) rfl
theorem eX9_byteAt_18 : decode mX9_byteAt.2.1 18 = .ok (.goto 4, 3) := px_tab_at tX9_byteAt_ok 10 (e := (18, 3, .goto 4, 0, 0, .null)) rfl
theorem eX9_byteAt_22 : decode mX9_byteAt.2.1 22 = .ok (.ireturn, 1) := px_tab_at tX9_byteAt_ok 12 (e := (22, 1, .ireturn, 0, 0, .null)) rfl
theorem eX9_isDigit_3 : decode mX9_isDigit.2.1 3 = .ok (.if_icmp .lt 13, 3) := px_tab_at tX9_isDigit_ok 2 (e := (3, 3, .if_icmp .lt 13, 0, 0, .null)) rfl
theorem eX9_isDigit_9 : decode mX9_isDigit.2.1 9 = .ok (.if_icmp .gt 7, 3) := px_tab_at tX9_isDigit_ok 5 (e := (9, 3, .if_icmp .gt 7, 0, 0, .null)) rfl
theorem eX9_isDigit_13 : decode mX9_isDigit.2.1 13 = .ok (.goto 4, 3) := px_tab_at tX9_isDigit_ok 7 (e := (13, 3, .goto 4, 0, 0, .null)) rfl
theorem eX9_isDigit_17 : decode mX9_isDigit.2.1 17 = .ok (.ireturn, 1) := px_tab_at tX9_isDigit_ok 9 (e := (17, 1, .ireturn, 0, 0, .null)) rfl
theorem eX9_isLetter_3 : decode mX9_isLetter.2.1 3 = .ok (.if_icmp .lt 13, 3) := px_tab_at tX9_isLetter_ok 2 (e := (3, 3, .if_icmp .lt 13, 0, 0, .null)) rfl
theorem eX9_isLetter_9 : decode mX9_isLetter.2.1 9 = .ok (.if_icmp .gt 7, 3) := px_tab_at tX9_isLetter_ok 5 (e := (9, 3, .if_icmp .gt 7, 0, 0, .null)) rfl
theorem eX9_isLetter_13 : decode mX9_isLetter.2.1 13 = .ok (.goto 4, 3) := px_tab_at tX9_isLetter_ok 7 (e := (13, 3, .goto 4, 0, 0, .null)) rfl
theorem eX9_isLetter_17 : decode mX9_isLetter.2.1 17 = .ok (.ireturn, 1) := px_tab_at tX9_isLetter_ok 9 (e := (17, 1, .ireturn, 0, 0, .null)) rfl
theorem eX9_appends_1 : decode mX9_appends.2.1 1 = .ok (.ifCond .ne 7, 3) := px_tab_at tX9_appends_ok 1 (e := (1, 3, .ifCond .ne 7, 0, 0, .null)) rfl
theorem eX9_appends_5 : decode mX9_appends.2.1 5 = .ok (.goto 16, 3) := px_tab_at tX9_appends_ok 3 (e := (5, 3, .goto 16, 0, 0, .null)) rfl
theorem eX9_appends_21 : decode mX9_appends.2.1 21 = .ok (.lreturn, 1) := px_tab_at tX9_appends_ok 14 (e := (21, 1, .lreturn, 0, 0, .null)) rfl
theorem eX9_word_2 : decode mX9_word.2.1 2 = .ok (.invokestatic 189, 3) := px_tab_at tX9_word_ok 2 (e := (2, 3, .invokestatic 189, 0, 0, .null)) rfl
theorem eX9_word_6 : decode mX9_word.2.1 6 = .ok (.invokestatic 189, 3) := px_tab_at tX9_word_ok 4 (e := (6, 3, .invokestatic 189, 0, 0, .null)) rfl
theorem eX9_word_10 : decode mX9_word.2.1 10 = .ok (.invokestatic 189, 3) := px_tab_at tX9_word_ok 6 (e := (10, 3, .invokestatic 189, 0, 0, .null)) rfl
theorem eX9_word_14 : decode mX9_word.2.1 14 = .ok (.invokestatic 189, 3) := px_tab_at tX9_word_ok 8 (e := (14, 3, .invokestatic 189, 0, 0, .null)) rfl
theorem eX9_word_19 : decode mX9_word.2.1 19 = .ok (.invokestatic 189, 3) := px_tab_at tX9_word_ok 10 (e := (19, 3, .invokestatic 189, 0, 0, .null)) rfl
theorem eX9_word_24 : decode mX9_word.2.1 24 = .ok (.invokestatic 189, 3) := px_tab_at tX9_word_ok 12 (e := (24, 3, .invokestatic 189, 0, 0, .null)) rfl
theorem eX9_word_29 : decode mX9_word.2.1 29 = .ok (.invokestatic 189, 3) := px_tab_at tX9_word_ok 14 (e := (29, 3, .invokestatic 189, 0, 0, .null)) rfl
theorem eX9_word_32 : decode mX9_word.2.1 32 = .ok (.lreturn, 1) := px_tab_at tX9_word_ok 15 (e := (32, 1, .lreturn, 0, 0, .null)) rfl
theorem eX9_token_51 : decode mX9_token.2.1 51 = .ok (.return_, 1) := px_tab_at tX9_token_ok 30 (e := (51, 1, .return_, 0, 0, .null)) rfl
theorem eX9_cut_14 : decode mX9_cut.2.1 14 = .ok (.if_icmp .gt 280, 3) := px_tab_at tX9_cut_ok 8 (e := (14, 3, .if_icmp .gt 280, 0, 0, .null)) rfl
theorem eX9_cut_19 : decode mX9_cut.2.1 19 = .ok (.invokevirtual 196, 3) := px_tab_at tX9_cut_ok 11 (e := (19, 3, .invokevirtual 196, 0, 0, .null)) rfl
theorem eX9_cut_28 : decode mX9_cut.2.1 28 = .ok (.if_icmp .lt 15, 3) := px_tab_at tX9_cut_ok 16 (e := (28, 3, .if_icmp .lt 15, 0, 0, .null)) rfl
theorem eX9_cut_39 : decode mX9_cut.2.1 39 = .ok (.invokevirtual 200, 3) := px_tab_at tX9_cut_ok 23 (e := (39, 3, .invokevirtual 200, 0, 0, .null)) rfl
theorem eX9_cut_42 : decode mX9_cut.2.1 42 = .ok (.return_, 1) := px_tab_at tX9_cut_ok 24 (e := (42, 1, .return_, 0, 0, .null)) rfl
theorem eX9_cut_46 : decode mX9_cut.2.1 46 = .ok (.if_icmp .eq 21, 3) := px_tab_at tX9_cut_ok 27 (e := (46, 3, .if_icmp .eq 21, 0, 0, .null)) rfl
theorem eX9_cut_52 : decode mX9_cut.2.1 52 = .ok (.if_icmp .eq 15, 3) := px_tab_at tX9_cut_ok 30 (e := (52, 3, .if_icmp .eq 15, 0, 0, .null)) rfl
theorem eX9_cut_58 : decode mX9_cut.2.1 58 = .ok (.if_icmp .eq 9, 3) := px_tab_at tX9_cut_ok 33 (e := (58, 3, .if_icmp .eq 9, 0, 0, .null)) rfl
theorem eX9_cut_64 : decode mX9_cut.2.1 64 = .ok (.if_icmp .ne 9, 3) := px_tab_at tX9_cut_ok 36 (e := (64, 3, .if_icmp .ne 9, 0, 0, .null)) rfl
theorem eX9_cut_70 : decode mX9_cut.2.1 70 = .ok (.goto 221, 3) := px_tab_at tX9_cut_ok 38 (e := (70, 3, .goto 221, 0, 0, .null)) rfl
theorem eX9_cut_74 : decode mX9_cut.2.1 74 = .ok (.invokestatic 204, 3) := px_tab_at tX9_cut_ok 40 (e := (74, 3, .invokestatic 204, 0, 0, .null)) rfl
theorem eX9_cut_77 : decode mX9_cut.2.1 77 = .ok (.ifCond .eq 119, 3) := px_tab_at tX9_cut_ok 41 (e := (77, 3, .ifCond .eq 119, 0, 0, .null)) rfl
theorem eX9_cut_89 : decode mX9_cut.2.1 89 = .ok (.invokevirtual 196, 3) := px_tab_at tX9_cut_ok 50 (e := (89, 3, .invokevirtual 196, 0, 0, .null)) rfl
theorem eX9_cut_92 : decode mX9_cut.2.1 92 = .ok (.invokestatic 204, 3) := px_tab_at tX9_cut_ok 51 (e := (92, 3, .invokestatic 204, 0, 0, .null)) rfl
theorem eX9_cut_95 : decode mX9_cut.2.1 95 = .ok (.ifCond .eq 29, 3) := px_tab_at tX9_cut_ok 52 (e := (95, 3, .ifCond .eq 29, 0, 0, .null)) rfl
theorem eX9_cut_101 : decode mX9_cut.2.1 101 = .ok (.if_icmp .ge 17, 3) := px_tab_at tX9_cut_ok 55 (e := (101, 3, .if_icmp .ge 17, 0, 0, .null)) rfl
theorem eX9_cut_110 : decode mX9_cut.2.1 110 = .ok (.invokevirtual 196, 3) := px_tab_at tX9_cut_ok 61 (e := (110, 3, .invokevirtual 196, 0, 0, .null)) rfl
theorem eX9_cut_113 : decode mX9_cut.2.1 113 = .ok (.invokestatic 189, 3) := px_tab_at tX9_cut_ok 62 (e := (113, 3, .invokestatic 189, 0, 0, .null)) rfl
theorem eX9_cut_121 : decode mX9_cut.2.1 121 = .ok (.goto (-36), 3) := px_tab_at tX9_cut_ok 65 (e := (121, 3, .goto (-36), 0, 0, .null)) rfl
theorem eX9_cut_127 : decode mX9_cut.2.1 127 = .ok (.if_icmp .le 7, 3) := px_tab_at tX9_cut_ok 68 (e := (127, 3, .if_icmp .le 7, 0, 0, .null)) rfl
theorem eX9_cut_131 : decode mX9_cut.2.1 131 = .ok (.goto 4, 3) := px_tab_at tX9_cut_ok 70 (e := (131, 3, .goto 4, 0, 0, .null)) rfl
theorem eX9_cut_140 : decode mX9_cut.2.1 140 = .ok (.if_icmp .gt 39, 3) := px_tab_at tX9_cut_ok 75 (e := (140, 3, .if_icmp .gt 39, 0, 0, .null)) rfl
theorem eX9_cut_150 : decode mX9_cut.2.1 150 = .ok (.if_icmp .ge 29, 3) := px_tab_at tX9_cut_ok 80 (e := (150, 3, .if_icmp .ge 29, 0, 0, .null)) rfl
theorem eX9_cut_163 : decode mX9_cut.2.1 163 = .ok (.ifCond .ne 10, 3) := px_tab_at tX9_cut_ok 87 (e := (163, 3, .ifCond .ne 10, 0, 0, .null)) rfl
theorem eX9_cut_176 : decode mX9_cut.2.1 176 = .ok (.goto (-30), 3) := px_tab_at tX9_cut_ok 93 (e := (176, 3, .goto (-30), 0, 0, .null)) rfl
theorem eX9_cut_186 : decode mX9_cut.2.1 186 = .ok (.invokevirtual 200, 3) := px_tab_at tX9_cut_ok 99 (e := (186, 3, .invokevirtual 200, 0, 0, .null)) rfl
theorem eX9_cut_193 : decode mX9_cut.2.1 193 = .ok (.goto 98, 3) := px_tab_at tX9_cut_ok 104 (e := (193, 3, .goto 98, 0, 0, .null)) rfl
theorem eX9_cut_197 : decode mX9_cut.2.1 197 = .ok (.invokestatic 208, 3) := px_tab_at tX9_cut_ok 106 (e := (197, 3, .invokestatic 208, 0, 0, .null)) rfl
theorem eX9_cut_200 : decode mX9_cut.2.1 200 = .ok (.ifCond .eq 75, 3) := px_tab_at tX9_cut_ok 107 (e := (200, 3, .ifCond .eq 75, 0, 0, .null)) rfl
theorem eX9_cut_212 : decode mX9_cut.2.1 212 = .ok (.invokevirtual 196, 3) := px_tab_at tX9_cut_ok 116 (e := (212, 3, .invokevirtual 196, 0, 0, .null)) rfl
theorem eX9_cut_215 : decode mX9_cut.2.1 215 = .ok (.invokestatic 208, 3) := px_tab_at tX9_cut_ok 117 (e := (215, 3, .invokestatic 208, 0, 0, .null)) rfl
theorem eX9_cut_218 : decode mX9_cut.2.1 218 = .ok (.ifCond .eq 32, 3) := px_tab_at tX9_cut_ok 118 (e := (218, 3, .ifCond .eq 32, 0, 0, .null)) rfl
theorem eX9_cut_223 : decode mX9_cut.2.1 223 = .ok (.if_icmp .ge 21, 3) := px_tab_at tX9_cut_ok 121 (e := (223, 3, .if_icmp .ge 21, 0, 0, .null)) rfl
theorem eX9_cut_235 : decode mX9_cut.2.1 235 = .ok (.invokevirtual 196, 3) := px_tab_at tX9_cut_ok 129 (e := (235, 3, .invokevirtual 196, 0, 0, .null)) rfl
theorem eX9_cut_247 : decode mX9_cut.2.1 247 = .ok (.goto (-39), 3) := px_tab_at tX9_cut_ok 135 (e := (247, 3, .goto (-39), 0, 0, .null)) rfl
theorem eX9_cut_253 : decode mX9_cut.2.1 253 = .ok (.if_icmp .le 7, 3) := px_tab_at tX9_cut_ok 139 (e := (253, 3, .if_icmp .le 7, 0, 0, .null)) rfl
theorem eX9_cut_257 : decode mX9_cut.2.1 257 = .ok (.goto 4, 3) := px_tab_at tX9_cut_ok 141 (e := (257, 3, .goto 4, 0, 0, .null)) rfl
theorem eX9_cut_265 : decode mX9_cut.2.1 265 = .ok (.invokevirtual 200, 3) := px_tab_at tX9_cut_ok 146 (e := (265, 3, .invokevirtual 200, 0, 0, .null)) rfl
theorem eX9_cut_272 : decode mX9_cut.2.1 272 = .ok (.goto 19, 3) := px_tab_at tX9_cut_ok 151 (e := (272, 3, .goto 19, 0, 0, .null)) rfl
theorem eX9_cut_283 : decode mX9_cut.2.1 283 = .ok (.invokevirtual 196, 3) := px_tab_at tX9_cut_ok 160 (e := (283, 3, .invokevirtual 196, 0, 0, .null)) rfl
theorem eX9_cut_286 : decode mX9_cut.2.1 286 = .ok (.invokevirtual 211, 3) := px_tab_at tX9_cut_ok 161 (e := (286, 3, .invokevirtual 211, 0, 0, .null)) rfl
theorem eX9_cut_291 : decode mX9_cut.2.1 291 = .ok (.goto (-284), 3) := px_tab_at tX9_cut_ok 164 (e := (291, 3, .goto (-284), 0, 0, .null)) rfl
theorem eX9_cut_294 : decode mX9_cut.2.1 294 = .ok (.return_, 1) := px_tab_at tX9_cut_ok 165 (e := (294, 1, .return_, 0, 0, .null)) rfl
theorem eX9_sign_3 : decode mX9_sign.2.1 3 = .ok (.if_icmp .ne 7, 3) := px_tab_at tX9_sign_ok 2 (e := (3, 3, .if_icmp .ne 7, 0, 0, .null)) rfl
theorem eX9_sign_7 : decode mX9_sign.2.1 7 = .ok (.goto 36, 3) := px_tab_at tX9_sign_ok 4 (e := (7, 3, .goto 36, 0, 0, .null)) rfl
theorem eX9_sign_13 : decode mX9_sign.2.1 13 = .ok (.if_icmp .ne 7, 3) := px_tab_at tX9_sign_ok 7 (e := (13, 3, .if_icmp .ne 7, 0, 0, .null)) rfl
theorem eX9_sign_17 : decode mX9_sign.2.1 17 = .ok (.goto 26, 3) := px_tab_at tX9_sign_ok 9 (e := (17, 3, .goto 26, 0, 0, .null)) rfl
theorem eX9_sign_23 : decode mX9_sign.2.1 23 = .ok (.if_icmp .ne 8, 3) := px_tab_at tX9_sign_ok 12 (e := (23, 3, .if_icmp .ne 8, 0, 0, .null)) rfl
theorem eX9_sign_28 : decode mX9_sign.2.1 28 = .ok (.goto 15, 3) := px_tab_at tX9_sign_ok 14 (e := (28, 3, .goto 15, 0, 0, .null)) rfl
theorem eX9_sign_34 : decode mX9_sign.2.1 34 = .ok (.if_icmp .ne 8, 3) := px_tab_at tX9_sign_ok 17 (e := (34, 3, .if_icmp .ne 8, 0, 0, .null)) rfl
theorem eX9_sign_39 : decode mX9_sign.2.1 39 = .ok (.goto 4, 3) := px_tab_at tX9_sign_ok 19 (e := (39, 3, .goto 4, 0, 0, .null)) rfl
theorem eX9_sign_48 : decode mX9_sign.2.1 48 = .ok (.if_icmp .ne 7, 3) := px_tab_at tX9_sign_ok 24 (e := (48, 3, .if_icmp .ne 7, 0, 0, .null)) rfl
theorem eX9_sign_58 : decode mX9_sign.2.1 58 = .ok (.if_icmp .ne 7, 3) := px_tab_at tX9_sign_ok 29 (e := (58, 3, .if_icmp .ne 7, 0, 0, .null)) rfl
theorem eX9_sign_68 : decode mX9_sign.2.1 68 = .ok (.if_icmp .ne 7, 3) := px_tab_at tX9_sign_ok 34 (e := (68, 3, .if_icmp .ne 7, 0, 0, .null)) rfl
theorem eX9_sign_78 : decode mX9_sign.2.1 78 = .ok (.if_icmp .ne 7, 3) := px_tab_at tX9_sign_ok 39 (e := (78, 3, .if_icmp .ne 7, 0, 0, .null)) rfl
theorem eX9_sign_88 : decode mX9_sign.2.1 88 = .ok (.if_icmp .ne 7, 3) := px_tab_at tX9_sign_ok 44 (e := (88, 3, .if_icmp .ne 7, 0, 0, .null)) rfl
theorem eX9_sign_101 : decode mX9_sign.2.1 101 = .ok (.invokevirtual 200, 3) := px_tab_at tX9_sign_ok 52 (e := (101, 3, .invokevirtual 200, 0, 0, .null)) rfl
theorem eX9_sign_105 : decode mX9_sign.2.1 105 = .ok (.ireturn, 1) := px_tab_at tX9_sign_ok 54 (e := (105, 1, .ireturn, 0, 0, .null)) rfl
theorem eX9_is_4 : decode mX9_is.2.1 4 = .ok (.ifCond .ne 20, 3) := px_tab_at tX9_is_ok 2 (e := (4, 3, .ifCond .ne 20, 0, 0, .null)) rfl
theorem eX9_is_17 : decode mX9_is.2.1 17 = .ok (.if_icmp .ne 7, 3) := px_tab_at tX9_is_ok 9 (e := (17, 3, .if_icmp .ne 7, 0, 0, .null)) rfl
theorem eX9_is_21 : decode mX9_is.2.1 21 = .ok (.goto 4, 3) := px_tab_at tX9_is_ok 11 (e := (21, 3, .goto 4, 0, 0, .null)) rfl
theorem eX9_is_25 : decode mX9_is.2.1 25 = .ok (.ireturn, 1) := px_tab_at tX9_is_ok 13 (e := (25, 1, .ireturn, 0, 0, .null)) rfl
theorem eX9_fail_4 : decode mX9_fail.2.1 4 = .ok (.ifCond .le 4, 3) := px_tab_at tX9_fail_ok 2 (e := (4, 3, .ifCond .le 4, 0, 0, .null)) rfl
theorem eX9_fail_7 : decode mX9_fail.2.1 7 = .ok (.return_, 1) := px_tab_at tX9_fail_ok 3 (e := (7, 1, .return_, 0, 0, .null)) rfl
theorem eX9_fail_26 : decode mX9_fail.2.1 26 = .ok (.return_, 1) := px_tab_at tX9_fail_ok 14 (e := (26, 1, .return_, 0, 0, .null)) rfl
theorem eX9_wrong_11 : decode mX9_wrong.2.1 11 = .ok (.ifCond .gt 34, 3) := px_tab_at tX9_wrong_ok 7 (e := (11, 3, .ifCond .gt 34, 0, 0, .null)) rfl
theorem eX9_wrong_18 : decode mX9_wrong.2.1 18 = .ok (.ifCond .eq 28, 3) := px_tab_at tX9_wrong_ok 10 (e := (18, 3, .ifCond .eq 28, 0, 0, .null)) rfl
theorem eX9_wrong_26 : decode mX9_wrong.2.1 26 = .ok (.if_icmp .gt 19, 3) := px_tab_at tX9_wrong_ok 14 (e := (26, 3, .if_icmp .gt 19, 0, 0, .null)) rfl
theorem eX9_wrong_34 : decode mX9_wrong.2.1 34 = .ok (.if_icmp .ne 12, 3) := px_tab_at tX9_wrong_ok 18 (e := (34, 3, .if_icmp .ne 12, 0, 0, .null)) rfl
theorem eX9_wrong_42 : decode mX9_wrong.2.1 42 = .ok (.if_icmp .lt 4, 3) := px_tab_at tX9_wrong_ok 22 (e := (42, 3, .if_icmp .lt 4, 0, 0, .null)) rfl
theorem eX9_wrong_45 : decode mX9_wrong.2.1 45 = .ok (.return_, 1) := px_tab_at tX9_wrong_ok 23 (e := (45, 1, .return_, 0, 0, .null)) rfl
theorem eX9_wrong_56 : decode mX9_wrong.2.1 56 = .ok (.return_, 1) := px_tab_at tX9_wrong_ok 30 (e := (56, 1, .return_, 0, 0, .null)) rfl
theorem eX9_goesOn_7 : decode mX9_goesOn.2.1 7 = .ok (.if_icmp .ne 11, 3) := px_tab_at tX9_goesOn_ok 3 (e := (7, 3, .if_icmp .ne 11, 0, 0, .null)) rfl
theorem eX9_goesOn_12 : decode mX9_goesOn.2.1 12 = .ok (.invokevirtual 230, 3) := px_tab_at tX9_goesOn_ok 6 (e := (12, 3, .invokevirtual 230, 0, 0, .null)) rfl
theorem eX9_goesOn_15 : decode mX9_goesOn.2.1 15 = .ok (.goto 13, 3) := px_tab_at tX9_goesOn_ok 7 (e := (15, 3, .goto 13, 0, 0, .null)) rfl
theorem eX9_goesOn_28 : decode mX9_goesOn.2.1 28 = .ok (.return_, 1) := px_tab_at tX9_goesOn_ok 14 (e := (28, 1, .return_, 0, 0, .null)) rfl
theorem eX9_must_2 : decode mX9_must.2.1 2 = .ok (.invokevirtual 233, 3) := px_tab_at tX9_must_ok 2 (e := (2, 3, .invokevirtual 233, 0, 0, .null)) rfl
theorem eX9_must_5 : decode mX9_must.2.1 5 = .ok (.ifCond .eq 10, 3) := px_tab_at tX9_must_ok 3 (e := (5, 3, .ifCond .eq 10, 0, 0, .null)) rfl
theorem eX9_must_9 : decode mX9_must.2.1 9 = .ok (.invokevirtual 236, 3) := px_tab_at tX9_must_ok 5 (e := (9, 3, .invokevirtual 236, 0, 0, .null)) rfl
theorem eX9_must_12 : decode mX9_must.2.1 12 = .ok (.goto 8, 3) := px_tab_at tX9_must_ok 6 (e := (12, 3, .goto 8, 0, 0, .null)) rfl
theorem eX9_must_17 : decode mX9_must.2.1 17 = .ok (.invokevirtual 230, 3) := px_tab_at tX9_must_ok 9 (e := (17, 3, .invokevirtual 230, 0, 0, .null)) rfl
theorem eX9_must_20 : decode mX9_must.2.1 20 = .ok (.return_, 1) := px_tab_at tX9_must_ok 10 (e := (20, 1, .return_, 0, 0, .null)) rfl
theorem eX9_plain_55 : decode mX9_plain.2.1 55 = .ok (.if_icmp .ge 21, 3) := px_tab_at tX9_plain_ok 39 (e := (55, 3, .if_icmp .ge 21, 0, 0, .null)) rfl
theorem eX9_plain_73 : decode mX9_plain.2.1 73 = .ok (.goto (-21), 3) := px_tab_at tX9_plain_ok 50 (e := (73, 3, .goto (-21), 0, 0, .null)) rfl
theorem eX9_plain_80 : decode mX9_plain.2.1 80 = .ok (.if_icmp .ge 31, 3) := px_tab_at tX9_plain_ok 55 (e := (80, 3, .if_icmp .ge 31, 0, 0, .null)) rfl
theorem eX9_plain_108 : decode mX9_plain.2.1 108 = .ok (.goto (-30), 3) := px_tab_at tX9_plain_ok 75 (e := (108, 3, .goto (-30), 0, 0, .null)) rfl
theorem eX9_plain_111 : decode mX9_plain.2.1 111 = .ok (.return_, 1) := px_tab_at tX9_plain_ok 76 (e := (111, 1, .return_, 0, 0, .null)) rfl
theorem eX9_read_15 : decode mX9_read.2.1 15 = .ok (.if_icmp .ge 21, 3) := px_tab_at tX9_read_ok 9 (e := (15, 3, .if_icmp .ge 21, 0, 0, .null)) rfl
theorem eX9_read_33 : decode mX9_read.2.1 33 = .ok (.goto (-23), 3) := px_tab_at tX9_read_ok 19 (e := (33, 3, .goto (-23), 0, 0, .null)) rfl
theorem eX9_read_42 : decode mX9_read.2.1 42 = .ok (.invokevirtual 239, 3) := px_tab_at tX9_read_ok 24 (e := (42, 3, .invokevirtual 239, 0, 0, .null)) rfl
theorem eX9_read_85 : decode mX9_read.2.1 85 = .ok (.invokevirtual 164, 3) := px_tab_at tX9_read_ok 49 (e := (85, 3, .invokevirtual 164, 0, 0, .null)) rfl
theorem eX9_read_116 : decode mX9_read.2.1 116 = .ok (.ifCond .ne 18, 3) := px_tab_at tX9_read_ok 64 (e := (116, 3, .ifCond .ne 18, 0, 0, .null)) rfl
theorem eX9_read_121 : decode mX9_read.2.1 121 = .ok (.invokevirtual 233, 3) := px_tab_at tX9_read_ok 67 (e := (121, 3, .invokevirtual 233, 0, 0, .null)) rfl
theorem eX9_read_124 : decode mX9_read.2.1 124 = .ok (.ifCond .ne 10, 3) := px_tab_at tX9_read_ok 68 (e := (124, 3, .ifCond .ne 10, 0, 0, .null)) rfl
theorem eX9_read_128 : decode mX9_read.2.1 128 = .ok (.invokevirtual 260, 3) := px_tab_at tX9_read_ok 70 (e := (128, 3, .invokevirtual 260, 0, 0, .null)) rfl
theorem eX9_read_131 : decode mX9_read.2.1 131 = .ok (.goto (-19), 3) := px_tab_at tX9_read_ok 71 (e := (131, 3, .goto (-19), 0, 0, .null)) rfl
theorem eX9_read_146 : decode mX9_read.2.1 146 = .ok (.if_icmp .ge 51, 3) := px_tab_at tX9_read_ok 80 (e := (146, 3, .if_icmp .ge 51, 0, 0, .null)) rfl
theorem eX9_read_153 : decode mX9_read.2.1 153 = .ok (.ifCond .ne 44, 3) := px_tab_at tX9_read_ok 83 (e := (153, 3, .ifCond .ne 44, 0, 0, .null)) rfl
theorem eX9_read_179 : decode mX9_read.2.1 179 = .ok (.if_icmp .lt 12, 3) := px_tab_at tX9_read_ok 98 (e := (179, 3, .if_icmp .lt 12, 0, 0, .null)) rfl
theorem eX9_read_188 : decode mX9_read.2.1 188 = .ok (.invokevirtual 263, 3) := px_tab_at tX9_read_ok 103 (e := (188, 3, .invokevirtual 263, 0, 0, .null)) rfl
theorem eX9_read_194 : decode mX9_read.2.1 194 = .ok (.goto (-58), 3) := px_tab_at tX9_read_ok 105 (e := (194, 3, .goto (-58), 0, 0, .null)) rfl
theorem eX9_read_202 : decode mX9_read.2.1 202 = .ok (.ifCond .le 10, 3) := px_tab_at tX9_read_ok 109 (e := (202, 3, .ifCond .le 10, 0, 0, .null)) rfl
theorem eX9_read_209 : decode mX9_read.2.1 209 = .ok (.goto 18, 3) := px_tab_at tX9_read_ok 112 (e := (209, 3, .goto 18, 0, 0, .null)) rfl
theorem eX9_read_216 : decode mX9_read.2.1 216 = .ok (.ifCond .le 10, 3) := px_tab_at tX9_read_ok 115 (e := (216, 3, .ifCond .le 10, 0, 0, .null)) rfl
theorem eX9_read_223 : decode mX9_read.2.1 223 = .ok (.goto 4, 3) := px_tab_at tX9_read_ok 118 (e := (223, 3, .goto 4, 0, 0, .null)) rfl
theorem eX9_read_234 : decode mX9_read.2.1 234 = .ok (.ifCond .le 8, 3) := px_tab_at tX9_read_ok 123 (e := (234, 3, .ifCond .le 8, 0, 0, .null)) rfl
theorem eX9_read_241 : decode mX9_read.2.1 241 = .ok (.ireturn, 1) := px_tab_at tX9_read_ok 126 (e := (241, 1, .ireturn, 0, 0, .null)) rfl
theorem eX9_read_246 : decode mX9_read.2.1 246 = .ok (.ifCond .le 8, 3) := px_tab_at tX9_read_ok 129 (e := (246, 3, .ifCond .le 8, 0, 0, .null)) rfl
theorem eX9_read_253 : decode mX9_read.2.1 253 = .ok (.ireturn, 1) := px_tab_at tX9_read_ok 132 (e := (253, 1, .ireturn, 0, 0, .null)) rfl
theorem eX9_read_263 : decode mX9_read.2.1 263 = .ok (.invokevirtual 172, 3) := px_tab_at tX9_read_ok 138 (e := (263, 3, .invokevirtual 172, 0, 0, .null)) rfl
theorem eX9_read_267 : decode mX9_read.2.1 267 = .ok (.invokevirtual 175, 3) := px_tab_at tX9_read_ok 140 (e := (267, 3, .invokevirtual 175, 0, 0, .null)) rfl
theorem eX9_read_284 : decode mX9_read.2.1 284 = .ok (.if_icmp .ge 16, 3) := px_tab_at tX9_read_ok 151 (e := (284, 3, .if_icmp .ge 16, 0, 0, .null)) rfl
theorem eX9_read_297 : decode mX9_read.2.1 297 = .ok (.goto (-15), 3) := px_tab_at tX9_read_ok 158 (e := (297, 3, .goto (-15), 0, 0, .null)) rfl
theorem eX9_read_301 : decode mX9_read.2.1 301 = .ok (.ireturn, 1) := px_tab_at tX9_read_ok 160 (e := (301, 1, .ireturn, 0, 0, .null)) rfl
theorem eX9_place_4 : decode mX9_place.2.1 4 = .ok (.ireturn, 1) := px_tab_at tX9_place_ok 2 (e := (4, 1, .ireturn, 0, 0, .null)) rfl
theorem eX9_roomFor_2 : decode mX9_roomFor.2.1 2 = .ok (.if_icmp .ne 8, 3) := px_tab_at tX9_roomFor_ok 2 (e := (2, 3, .if_icmp .ne 8, 0, 0, .null)) rfl
theorem eX9_roomFor_7 : decode mX9_roomFor.2.1 7 = .ok (.invokevirtual 230, 3) := px_tab_at tX9_roomFor_ok 5 (e := (7, 3, .invokevirtual 230, 0, 0, .null)) rfl
theorem eX9_roomFor_14 : decode mX9_roomFor.2.1 14 = .ok (.ifCond .ne 7, 3) := px_tab_at tX9_roomFor_ok 8 (e := (14, 3, .ifCond .ne 7, 0, 0, .null)) rfl
theorem eX9_roomFor_18 : decode mX9_roomFor.2.1 18 = .ok (.invokevirtual 236, 3) := px_tab_at tX9_roomFor_ok 10 (e := (18, 3, .invokevirtual 236, 0, 0, .null)) rfl
theorem eX9_roomFor_21 : decode mX9_roomFor.2.1 21 = .ok (.return_, 1) := px_tab_at tX9_roomFor_ok 11 (e := (21, 1, .return_, 0, 0, .null)) rfl
theorem eX9_toldInt_1 : decode mX9_toldInt.2.1 1 = .ok (.invokevirtual 236, 3) := px_tab_at tX9_toldInt_ok 1 (e := (1, 3, .invokevirtual 236, 0, 0, .null)) rfl
theorem eX9_toldInt_7 : decode mX9_toldInt.2.1 7 = .ok (.invokevirtual 273, 3) := px_tab_at tX9_toldInt_ok 5 (e := (7, 3, .invokevirtual 273, 0, 0, .null)) rfl
theorem eX9_toldInt_13 : decode mX9_toldInt.2.1 13 = .ok (.invokevirtual 277, 3) := px_tab_at tX9_toldInt_ok 9 (e := (13, 3, .invokevirtual 277, 0, 0, .null)) rfl
theorem eX9_toldInt_17 : decode mX9_toldInt.2.1 17 = .ok (.ireturn, 1) := px_tab_at tX9_toldInt_ok 11 (e := (17, 1, .ireturn, 0, 0, .null)) rfl
theorem eX9_tellOne_9 : decode mX9_tellOne.2.1 9 = .ok (.tableswitch 217 20 29 #[55, 73, 102, 131, 217, 217, 217, 159, 178, 197], 55) := px_tab_at tX9_tellOne_ok 5 (e := (9, 55, .tableswitch 217 20 29 #[55, 73, 102, 131, 217, 217, 217, 159, 178, 197], 0, 0, .null)) rfl
theorem eX9_tellOne_75 : decode mX9_tellOne.2.1 75 = .ok (.invokevirtual 280, 3) := px_tab_at tX9_tellOne_ok 13 (e := (75, 3, .invokevirtual 280, 0, 0, .null)) rfl
theorem eX9_tellOne_79 : decode mX9_tellOne.2.1 79 = .ok (.goto 200, 3) := px_tab_at tX9_tellOne_ok 15 (e := (79, 3, .goto 200, 0, 0, .null)) rfl
theorem eX9_tellOne_94 : decode mX9_tellOne.2.1 94 = .ok (.invokevirtual 283, 3) := px_tab_at tX9_tellOne_ok 23 (e := (94, 3, .invokevirtual 283, 0, 0, .null)) rfl
theorem eX9_tellOne_101 : decode mX9_tellOne.2.1 101 = .ok (.ifCond .ne 178, 3) := px_tab_at tX9_tellOne_ok 26 (e := (101, 3, .ifCond .ne 178, 0, 0, .null)) rfl
theorem eX9_tellOne_105 : decode mX9_tellOne.2.1 105 = .ok (.invokevirtual 286, 3) := px_tab_at tX9_tellOne_ok 28 (e := (105, 3, .invokevirtual 286, 0, 0, .null)) rfl
theorem eX9_tellOne_108 : decode mX9_tellOne.2.1 108 = .ok (.goto 171, 3) := px_tab_at tX9_tellOne_ok 29 (e := (108, 3, .goto 171, 0, 0, .null)) rfl
theorem eX9_tellOne_123 : decode mX9_tellOne.2.1 123 = .ok (.invokevirtual 283, 3) := px_tab_at tX9_tellOne_ok 37 (e := (123, 3, .invokevirtual 283, 0, 0, .null)) rfl
theorem eX9_tellOne_130 : decode mX9_tellOne.2.1 130 = .ok (.ifCond .ne 149, 3) := px_tab_at tX9_tellOne_ok 40 (e := (130, 3, .ifCond .ne 149, 0, 0, .null)) rfl
theorem eX9_tellOne_134 : decode mX9_tellOne.2.1 134 = .ok (.invokevirtual 289, 3) := px_tab_at tX9_tellOne_ok 42 (e := (134, 3, .invokevirtual 289, 0, 0, .null)) rfl
theorem eX9_tellOne_137 : decode mX9_tellOne.2.1 137 = .ok (.goto 142, 3) := px_tab_at tX9_tellOne_ok 43 (e := (137, 3, .goto 142, 0, 0, .null)) rfl
theorem eX9_tellOne_151 : decode mX9_tellOne.2.1 151 = .ok (.invokevirtual 283, 3) := px_tab_at tX9_tellOne_ok 51 (e := (151, 3, .invokevirtual 283, 0, 0, .null)) rfl
theorem eX9_tellOne_158 : decode mX9_tellOne.2.1 158 = .ok (.ifCond .ne 121, 3) := px_tab_at tX9_tellOne_ok 54 (e := (158, 3, .ifCond .ne 121, 0, 0, .null)) rfl
theorem eX9_tellOne_162 : decode mX9_tellOne.2.1 162 = .ok (.invokevirtual 292, 3) := px_tab_at tX9_tellOne_ok 56 (e := (162, 3, .invokevirtual 292, 0, 0, .null)) rfl
theorem eX9_tellOne_165 : decode mX9_tellOne.2.1 165 = .ok (.goto 114, 3) := px_tab_at tX9_tellOne_ok 57 (e := (165, 3, .goto 114, 0, 0, .null)) rfl
theorem eX9_tellOne_180 : decode mX9_tellOne.2.1 180 = .ok (.invokevirtual 280, 3) := px_tab_at tX9_tellOne_ok 65 (e := (180, 3, .invokevirtual 280, 0, 0, .null)) rfl
theorem eX9_tellOne_184 : decode mX9_tellOne.2.1 184 = .ok (.goto 95, 3) := px_tab_at tX9_tellOne_ok 67 (e := (184, 3, .goto 95, 0, 0, .null)) rfl
theorem eX9_tellOne_199 : decode mX9_tellOne.2.1 199 = .ok (.invokevirtual 280, 3) := px_tab_at tX9_tellOne_ok 75 (e := (199, 3, .invokevirtual 280, 0, 0, .null)) rfl
theorem eX9_tellOne_203 : decode mX9_tellOne.2.1 203 = .ok (.goto 76, 3) := px_tab_at tX9_tellOne_ok 77 (e := (203, 3, .goto 76, 0, 0, .null)) rfl
theorem eX9_tellOne_219 : decode mX9_tellOne.2.1 219 = .ok (.invokevirtual 280, 3) := px_tab_at tX9_tellOne_ok 85 (e := (219, 3, .invokevirtual 280, 0, 0, .null)) rfl
theorem eX9_tellOne_223 : decode mX9_tellOne.2.1 223 = .ok (.goto 56, 3) := px_tab_at tX9_tellOne_ok 87 (e := (223, 3, .goto 56, 0, 0, .null)) rfl
theorem eX9_tellOne_240 : decode mX9_tellOne.2.1 240 = .ok (.ifCond .lt 17, 3) := px_tab_at tX9_tellOne_ok 97 (e := (240, 3, .ifCond .lt 17, 0, 0, .null)) rfl
theorem eX9_tellOne_254 : decode mX9_tellOne.2.1 254 = .ok (.if_icmp .le 8, 3) := px_tab_at tX9_tellOne_ok 104 (e := (254, 3, .if_icmp .le 8, 0, 0, .null)) rfl
theorem eX9_tellOne_259 : decode mX9_tellOne.2.1 259 = .ok (.invokevirtual 230, 3) := px_tab_at tX9_tellOne_ok 107 (e := (259, 3, .invokevirtual 230, 0, 0, .null)) rfl
theorem eX9_tellOne_266 : decode mX9_tellOne.2.1 266 = .ok (.ifCond .le 4, 3) := px_tab_at tX9_tellOne_ok 110 (e := (266, 3, .ifCond .le 4, 0, 0, .null)) rfl
theorem eX9_tellOne_269 : decode mX9_tellOne.2.1 269 = .ok (.return_, 1) := px_tab_at tX9_tellOne_ok 111 (e := (269, 1, .return_, 0, 0, .null)) rfl
theorem eX9_tellOne_271 : decode mX9_tellOne.2.1 271 = .ok (.invokevirtual 236, 3) := px_tab_at tX9_tellOne_ok 113 (e := (271, 3, .invokevirtual 236, 0, 0, .null)) rfl
theorem eX9_tellOne_276 : decode mX9_tellOne.2.1 276 = .ok (.invokevirtual 295, 3) := px_tab_at tX9_tellOne_ok 116 (e := (276, 3, .invokevirtual 295, 0, 0, .null)) rfl
theorem eX9_tellOne_279 : decode mX9_tellOne.2.1 279 = .ok (.return_, 1) := px_tab_at tX9_tellOne_ok 117 (e := (279, 1, .return_, 0, 0, .null)) rfl
theorem eX9_named_7 : decode mX9_named.2.1 7 = .ok (.invokevirtual 277, 3) := px_tab_at tX9_named_ok 5 (e := (7, 3, .invokevirtual 277, 0, 0, .null)) rfl
theorem eX9_named_17 : decode mX9_named.2.1 17 = .ok (.if_icmp .ge 38, 3) := px_tab_at tX9_named_ok 11 (e := (17, 3, .if_icmp .ge 38, 0, 0, .null)) rfl
theorem eX9_named_24 : decode mX9_named.2.1 24 = .ok (.ifCond .ne 31, 3) := px_tab_at tX9_named_ok 14 (e := (24, 3, .ifCond .ne 31, 0, 0, .null)) rfl
theorem eX9_named_40 : decode mX9_named.2.1 40 = .ok (.ifCond .ne 9, 3) := px_tab_at tX9_named_ok 24 (e := (40, 3, .ifCond .ne 9, 0, 0, .null)) rfl
theorem eX9_named_46 : decode mX9_named.2.1 46 = .ok (.invokevirtual 263, 3) := px_tab_at tX9_named_ok 28 (e := (46, 3, .invokevirtual 263, 0, 0, .null)) rfl
theorem eX9_named_52 : decode mX9_named.2.1 52 = .ok (.goto (-40), 3) := px_tab_at tX9_named_ok 30 (e := (52, 3, .goto (-40), 0, 0, .null)) rfl
theorem eX9_named_56 : decode mX9_named.2.1 56 = .ok (.ireturn, 1) := px_tab_at tX9_named_ok 32 (e := (56, 1, .ireturn, 0, 0, .null)) rfl
theorem eX9_ends_2 : decode mX9_ends.2.1 2 = .ok (.invokevirtual 277, 3) := px_tab_at tX9_ends_ok 2 (e := (2, 3, .invokevirtual 277, 0, 0, .null)) rfl
theorem eX9_ends_9 : decode mX9_ends.2.1 9 = .ok (.ifCond .le 4, 3) := px_tab_at tX9_ends_ok 5 (e := (9, 3, .ifCond .le 4, 0, 0, .null)) rfl
theorem eX9_ends_12 : decode mX9_ends.2.1 12 = .ok (.return_, 1) := px_tab_at tX9_ends_ok 6 (e := (12, 1, .return_, 0, 0, .null)) rfl
theorem eX9_ends_48 : decode mX9_ends.2.1 48 = .ok (.return_, 1) := px_tab_at tX9_ends_ok 28 (e := (48, 1, .return_, 0, 0, .null)) rfl
theorem eX9_knownSleeper_7 : decode mX9_knownSleeper.2.1 7 = .ok (.invokevirtual 277, 3) := px_tab_at tX9_knownSleeper_ok 5 (e := (7, 3, .invokevirtual 277, 0, 0, .null)) rfl
theorem eX9_knownSleeper_14 : decode mX9_knownSleeper.2.1 14 = .ok (.ifCond .le 5, 3) := px_tab_at tX9_knownSleeper_ok 8 (e := (14, 3, .ifCond .le 5, 0, 0, .null)) rfl
theorem eX9_knownSleeper_18 : decode mX9_knownSleeper.2.1 18 = .ok (.ireturn, 1) := px_tab_at tX9_knownSleeper_ok 10 (e := (18, 1, .ireturn, 0, 0, .null)) rfl
theorem eX9_knownSleeper_26 : decode mX9_knownSleeper.2.1 26 = .ok (.if_icmp .ge 41, 3) := px_tab_at tX9_knownSleeper_ok 16 (e := (26, 3, .if_icmp .ge 41, 0, 0, .null)) rfl
theorem eX9_knownSleeper_42 : decode mX9_knownSleeper.2.1 42 = .ok (.ifCond .ne 19, 3) := px_tab_at tX9_knownSleeper_ok 26 (e := (42, 3, .ifCond .ne 19, 0, 0, .null)) rfl
theorem eX9_knownSleeper_51 : decode mX9_knownSleeper.2.1 51 = .ok (.ifCond .lt 10, 3) := px_tab_at tX9_knownSleeper_ok 31 (e := (51, 3, .ifCond .lt 10, 0, 0, .null)) rfl
theorem eX9_knownSleeper_60 : decode mX9_knownSleeper.2.1 60 = .ok (.ireturn, 1) := px_tab_at tX9_knownSleeper_ok 36 (e := (60, 1, .ireturn, 0, 0, .null)) rfl
theorem eX9_knownSleeper_64 : decode mX9_knownSleeper.2.1 64 = .ok (.goto (-43), 3) := px_tab_at tX9_knownSleeper_ok 38 (e := (64, 3, .goto (-43), 0, 0, .null)) rfl
theorem eX9_knownSleeper_70 : decode mX9_knownSleeper.2.1 70 = .ok (.invokevirtual 263, 3) := px_tab_at tX9_knownSleeper_ok 42 (e := (70, 3, .invokevirtual 263, 0, 0, .null)) rfl
theorem eX9_knownSleeper_74 : decode mX9_knownSleeper.2.1 74 = .ok (.ireturn, 1) := px_tab_at tX9_knownSleeper_ok 44 (e := (74, 1, .ireturn, 0, 0, .null)) rfl
theorem eX9_bounded_4 : decode mX9_bounded.2.1 4 = .ok (.ifCond .gt 11, 3) := px_tab_at tX9_bounded_ok 2 (e := (4, 3, .ifCond .gt 11, 0, 0, .null)) rfl
theorem eX9_bounded_9 : decode mX9_bounded.2.1 9 = .ok (.invokevirtual 233, 3) := px_tab_at tX9_bounded_ok 5 (e := (9, 3, .invokevirtual 233, 0, 0, .null)) rfl
theorem eX9_bounded_12 : decode mX9_bounded.2.1 12 = .ok (.ifCond .ne 10, 3) := px_tab_at tX9_bounded_ok 6 (e := (12, 3, .ifCond .ne 10, 0, 0, .null)) rfl
theorem eX9_bounded_17 : decode mX9_bounded.2.1 17 = .ok (.invokevirtual 230, 3) := px_tab_at tX9_bounded_ok 9 (e := (17, 3, .invokevirtual 230, 0, 0, .null)) rfl
theorem eX9_bounded_21 : decode mX9_bounded.2.1 21 = .ok (.ireturn, 1) := px_tab_at tX9_bounded_ok 11 (e := (21, 1, .ireturn, 0, 0, .null)) rfl
theorem eX9_bounded_34 : decode mX9_bounded.2.1 34 = .ok (.if_icmp .lt 8, 3) := px_tab_at tX9_bounded_ok 20 (e := (34, 3, .if_icmp .lt 8, 0, 0, .null)) rfl
theorem eX9_bounded_39 : decode mX9_bounded.2.1 39 = .ok (.if_icmp .le 12, 3) := px_tab_at tX9_bounded_ok 23 (e := (39, 3, .if_icmp .le 12, 0, 0, .null)) rfl
theorem eX9_bounded_48 : decode mX9_bounded.2.1 48 = .ok (.invokevirtual 263, 3) := px_tab_at tX9_bounded_ok 28 (e := (48, 3, .invokevirtual 263, 0, 0, .null)) rfl
theorem eX9_bounded_52 : decode mX9_bounded.2.1 52 = .ok (.invokevirtual 236, 3) := px_tab_at tX9_bounded_ok 30 (e := (52, 3, .invokevirtual 236, 0, 0, .null)) rfl
theorem eX9_bounded_56 : decode mX9_bounded.2.1 56 = .ok (.ireturn, 1) := px_tab_at tX9_bounded_ok 32 (e := (56, 1, .ireturn, 0, 0, .null)) rfl
theorem eX9_tellSleeper_19 : decode mX9_tellSleeper.2.1 19 = .ok (.invokevirtual 298, 3) := px_tab_at tX9_tellSleeper_ok 12 (e := (19, 3, .invokevirtual 298, 0, 0, .null)) rfl
theorem eX9_tellSleeper_32 : decode mX9_tellSleeper.2.1 32 = .ok (.invokevirtual 273, 3) := px_tab_at tX9_tellSleeper_ok 20 (e := (32, 3, .invokevirtual 273, 0, 0, .null)) rfl
theorem eX9_tellSleeper_45 : decode mX9_tellSleeper.2.1 45 = .ok (.invokevirtual 273, 3) := px_tab_at tX9_tellSleeper_ok 28 (e := (45, 3, .invokevirtual 273, 0, 0, .null)) rfl
theorem eX9_tellSleeper_58 : decode mX9_tellSleeper.2.1 58 = .ok (.invokevirtual 273, 3) := px_tab_at tX9_tellSleeper_ok 36 (e := (58, 3, .invokevirtual 273, 0, 0, .null)) rfl
theorem eX9_tellSleeper_70 : decode mX9_tellSleeper.2.1 70 = .ok (.invokevirtual 273, 3) := px_tab_at tX9_tellSleeper_ok 44 (e := (70, 3, .invokevirtual 273, 0, 0, .null)) rfl
theorem eX9_tellSleeper_85 : decode mX9_tellSleeper.2.1 85 = .ok (.invokevirtual 302, 3) := px_tab_at tX9_tellSleeper_ok 53 (e := (85, 3, .invokevirtual 302, 0, 0, .null)) rfl
theorem eX9_tellSleeper_92 : decode mX9_tellSleeper.2.1 92 = .ok (.ifCond .ne 16, 3) := px_tab_at tX9_tellSleeper_ok 56 (e := (92, 3, .ifCond .ne 16, 0, 0, .null)) rfl
theorem eX9_tellSleeper_108 : decode mX9_tellSleeper.2.1 108 = .ok (.return_, 1) := px_tab_at tX9_tellSleeper_ok 66 (e := (108, 1, .return_, 0, 0, .null)) rfl
theorem eX9_tellPair_1 : decode mX9_tellPair.2.1 1 = .ok (.invokevirtual 305, 3) := px_tab_at tX9_tellPair_ok 1 (e := (1, 3, .invokevirtual 305, 0, 0, .null)) rfl
theorem eX9_tellPair_11 : decode mX9_tellPair.2.1 11 = .ok (.invokevirtual 305, 3) := px_tab_at tX9_tellPair_ok 7 (e := (11, 3, .invokevirtual 305, 0, 0, .null)) rfl
theorem eX9_tellPair_19 : decode mX9_tellPair.2.1 19 = .ok (.ifCond .ne 15, 3) := px_tab_at tX9_tellPair_ok 11 (e := (19, 3, .ifCond .ne 15, 0, 0, .null)) rfl
theorem eX9_tellPair_23 : decode mX9_tellPair.2.1 23 = .ok (.ifCond .lt 11, 3) := px_tab_at tX9_tellPair_ok 13 (e := (23, 3, .ifCond .lt 11, 0, 0, .null)) rfl
theorem eX9_tellPair_27 : decode mX9_tellPair.2.1 27 = .ok (.ifCond .lt 7, 3) := px_tab_at tX9_tellPair_ok 15 (e := (27, 3, .ifCond .lt 7, 0, 0, .null)) rfl
theorem eX9_tellPair_31 : decode mX9_tellPair.2.1 31 = .ok (.goto 4, 3) := px_tab_at tX9_tellPair_ok 17 (e := (31, 3, .goto 4, 0, 0, .null)) rfl
theorem eX9_tellPair_39 : decode mX9_tellPair.2.1 39 = .ok (.ifCond .eq 36, 3) := px_tab_at tX9_tellPair_ok 21 (e := (39, 3, .ifCond .eq 36, 0, 0, .null)) rfl
theorem eX9_tellPair_44 : decode mX9_tellPair.2.1 44 = .ok (.if_icmp .eq 25, 3) := px_tab_at tX9_tellPair_ok 24 (e := (44, 3, .if_icmp .eq 25, 0, 0, .null)) rfl
theorem eX9_tellPair_66 : decode mX9_tellPair.2.1 66 = .ok (.if_icmp .ne 9, 3) := px_tab_at tX9_tellPair_ok 39 (e := (66, 3, .if_icmp .ne 9, 0, 0, .null)) rfl
theorem eX9_tellPair_72 : decode mX9_tellPair.2.1 72 = .ok (.invokevirtual 263, 3) := px_tab_at tX9_tellPair_ok 43 (e := (72, 3, .invokevirtual 263, 0, 0, .null)) rfl
theorem eX9_tellPair_77 : decode mX9_tellPair.2.1 77 = .ok (.invokevirtual 277, 3) := px_tab_at tX9_tellPair_ok 46 (e := (77, 3, .invokevirtual 277, 0, 0, .null)) rfl
theorem eX9_tellPair_84 : decode mX9_tellPair.2.1 84 = .ok (.ifCond .le 4, 3) := px_tab_at tX9_tellPair_ok 49 (e := (84, 3, .ifCond .le 4, 0, 0, .null)) rfl
theorem eX9_tellPair_87 : decode mX9_tellPair.2.1 87 = .ok (.return_, 1) := px_tab_at tX9_tellPair_ok 50 (e := (87, 1, .return_, 0, 0, .null)) rfl
theorem eX9_tellPair_103 : decode mX9_tellPair.2.1 103 = .ok (.ifCond .ne 4, 3) := px_tab_at tX9_tellPair_ok 61 (e := (103, 3, .ifCond .ne 4, 0, 0, .null)) rfl
theorem eX9_tellPair_106 : decode mX9_tellPair.2.1 106 = .ok (.return_, 1) := px_tab_at tX9_tellPair_ok 62 (e := (106, 1, .return_, 0, 0, .null)) rfl
theorem eX9_tellPair_147 : decode mX9_tellPair.2.1 147 = .ok (.return_, 1) := px_tab_at tX9_tellPair_ok 93 (e := (147, 1, .return_, 0, 0, .null)) rfl
theorem eX9_tellCrosser_18 : decode mX9_tellCrosser.2.1 18 = .ok (.invokevirtual 298, 3) := px_tab_at tX9_tellCrosser_ok 12 (e := (18, 3, .invokevirtual 298, 0, 0, .null)) rfl
theorem eX9_tellCrosser_31 : decode mX9_tellCrosser.2.1 31 = .ok (.invokevirtual 273, 3) := px_tab_at tX9_tellCrosser_ok 20 (e := (31, 3, .invokevirtual 273, 0, 0, .null)) rfl
theorem eX9_tellCrosser_44 : decode mX9_tellCrosser.2.1 44 = .ok (.invokevirtual 273, 3) := px_tab_at tX9_tellCrosser_ok 28 (e := (44, 3, .invokevirtual 273, 0, 0, .null)) rfl
theorem eX9_tellCrosser_57 : decode mX9_tellCrosser.2.1 57 = .ok (.invokevirtual 273, 3) := px_tab_at tX9_tellCrosser_ok 36 (e := (57, 3, .invokevirtual 273, 0, 0, .null)) rfl
theorem eX9_tellCrosser_64 : decode mX9_tellCrosser.2.1 64 = .ok (.invokevirtual 302, 3) := px_tab_at tX9_tellCrosser_ok 41 (e := (64, 3, .invokevirtual 302, 0, 0, .null)) rfl
theorem eX9_tellCrosser_71 : decode mX9_tellCrosser.2.1 71 = .ok (.ifCond .ne 16, 3) := px_tab_at tX9_tellCrosser_ok 44 (e := (71, 3, .ifCond .ne 16, 0, 0, .null)) rfl
theorem eX9_tellCrosser_87 : decode mX9_tellCrosser.2.1 87 = .ok (.return_, 1) := px_tab_at tX9_tellCrosser_ok 54 (e := (87, 1, .return_, 0, 0, .null)) rfl
theorem eX9_tellLaw_2 : decode mX9_tellLaw.2.1 2 = .ok (.invokevirtual 277, 3) := px_tab_at tX9_tellLaw_ok 2 (e := (2, 3, .invokevirtual 277, 0, 0, .null)) rfl
theorem eX9_tellLaw_16 : decode mX9_tellLaw.2.1 16 = .ok (.ifCond .ne 113, 3) := px_tab_at tX9_tellLaw_ok 10 (e := (16, 3, .ifCond .ne 113, 0, 0, .null)) rfl
theorem eX9_tellLaw_22 : decode mX9_tellLaw.2.1 22 = .ok (.invokevirtual 233, 3) := px_tab_at tX9_tellLaw_ok 13 (e := (22, 3, .invokevirtual 233, 0, 0, .null)) rfl
theorem eX9_tellLaw_25 : decode mX9_tellLaw.2.1 25 = .ok (.ifCond .eq 104, 3) := px_tab_at tX9_tellLaw_ok 14 (e := (25, 3, .ifCond .eq 104, 0, 0, .null)) rfl
theorem eX9_tellLaw_30 : decode mX9_tellLaw.2.1 30 = .ok (.if_icmp .ne 8, 3) := px_tab_at tX9_tellLaw_ok 17 (e := (30, 3, .if_icmp .ne 8, 0, 0, .null)) rfl
theorem eX9_tellLaw_35 : decode mX9_tellLaw.2.1 35 = .ok (.invokevirtual 230, 3) := px_tab_at tX9_tellLaw_ok 20 (e := (35, 3, .invokevirtual 230, 0, 0, .null)) rfl
theorem eX9_tellLaw_42 : decode mX9_tellLaw.2.1 42 = .ok (.ifCond .le 4, 3) := px_tab_at tX9_tellLaw_ok 23 (e := (42, 3, .ifCond .le 4, 0, 0, .null)) rfl
theorem eX9_tellLaw_45 : decode mX9_tellLaw.2.1 45 = .ok (.return_, 1) := px_tab_at tX9_tellLaw_ok 24 (e := (45, 1, .return_, 0, 0, .null)) rfl
theorem eX9_tellLaw_50 : decode mX9_tellLaw.2.1 50 = .ok (.invokevirtual 236, 3) := px_tab_at tX9_tellLaw_ok 27 (e := (50, 3, .invokevirtual 236, 0, 0, .null)) rfl
theorem eX9_tellLaw_77 : decode mX9_tellLaw.2.1 77 = .ok (.invokevirtual 308, 3) := px_tab_at tX9_tellLaw_ok 42 (e := (77, 3, .invokevirtual 308, 0, 0, .null)) rfl
theorem eX9_tellLaw_83 : decode mX9_tellLaw.2.1 83 = .ok (.invokevirtual 277, 3) := px_tab_at tX9_tellLaw_ok 45 (e := (83, 3, .invokevirtual 277, 0, 0, .null)) rfl
theorem eX9_tellLaw_103 : decode mX9_tellLaw.2.1 103 = .ok (.ifCond .ne 7, 3) := px_tab_at tX9_tellLaw_ok 55 (e := (103, 3, .ifCond .ne 7, 0, 0, .null)) rfl
theorem eX9_tellLaw_107 : decode mX9_tellLaw.2.1 107 = .ok (.invokevirtual 308, 3) := px_tab_at tX9_tellLaw_ok 57 (e := (107, 3, .invokevirtual 308, 0, 0, .null)) rfl
theorem eX9_tellLaw_113 : decode mX9_tellLaw.2.1 113 = .ok (.invokevirtual 277, 3) := px_tab_at tX9_tellLaw_ok 60 (e := (113, 3, .invokevirtual 277, 0, 0, .null)) rfl
theorem eX9_tellLaw_117 : decode mX9_tellLaw.2.1 117 = .ok (.invokevirtual 311, 3) := px_tab_at tX9_tellLaw_ok 62 (e := (117, 3, .invokevirtual 311, 0, 0, .null)) rfl
theorem eX9_tellLaw_123 : decode mX9_tellLaw.2.1 123 = .ok (.invokevirtual 277, 3) := px_tab_at tX9_tellLaw_ok 65 (e := (123, 3, .invokevirtual 277, 0, 0, .null)) rfl
theorem eX9_tellLaw_126 : decode mX9_tellLaw.2.1 126 = .ok (.goto (-114), 3) := px_tab_at tX9_tellLaw_ok 66 (e := (126, 3, .goto (-114), 0, 0, .null)) rfl
theorem eX9_tellLaw_140 : decode mX9_tellLaw.2.1 140 = .ok (.invokevirtual 311, 3) := px_tab_at tX9_tellLaw_ok 74 (e := (140, 3, .invokevirtual 311, 0, 0, .null)) rfl
theorem eX9_tellLaw_145 : decode mX9_tellLaw.2.1 145 = .ok (.invokevirtual 277, 3) := px_tab_at tX9_tellLaw_ok 77 (e := (145, 3, .invokevirtual 277, 0, 0, .null)) rfl
theorem eX9_tellLaw_152 : decode mX9_tellLaw.2.1 152 = .ok (.ifCond .le 4, 3) := px_tab_at tX9_tellLaw_ok 80 (e := (152, 3, .ifCond .le 4, 0, 0, .null)) rfl
theorem eX9_tellLaw_155 : decode mX9_tellLaw.2.1 155 = .ok (.return_, 1) := px_tab_at tX9_tellLaw_ok 81 (e := (155, 1, .return_, 0, 0, .null)) rfl
theorem eX9_tellLaw_187 : decode mX9_tellLaw.2.1 187 = .ok (.return_, 1) := px_tab_at tX9_tellLaw_ok 103 (e := (187, 1, .return_, 0, 0, .null)) rfl
theorem eX9_term_17 : decode mX9_term.2.1 17 = .ok (.ifCond .ne 7, 3) := px_tab_at tX9_term_ok 9 (e := (17, 3, .ifCond .ne 7, 0, 0, .null)) rfl
theorem eX9_term_21 : decode mX9_term.2.1 21 = .ok (.invokevirtual 308, 3) := px_tab_at tX9_term_ok 11 (e := (21, 3, .invokevirtual 308, 0, 0, .null)) rfl
theorem eX9_term_47 : decode mX9_term.2.1 47 = .ok (.return_, 1) := px_tab_at tX9_term_ok 25 (e := (47, 1, .return_, 0, 0, .null)) rfl
theorem eX9_emit_30 : decode mX9_emit.2.1 30 = .ok (.return_, 1) := px_tab_at tX9_emit_ok 18 (e := (30, 1, .return_, 0, 0, .null)) rfl
theorem eX9_comesOut_4 : decode mX9_comesOut.2.1 4 = .ok (.ifCond .le 87, 3) := px_tab_at tX9_comesOut_ok 2 (e := (4, 3, .ifCond .le 87, 0, 0, .null)) rfl
theorem eX9_comesOut_22 : decode mX9_comesOut.2.1 22 = .ok (.if_icmp .eq 19, 3) := px_tab_at tX9_comesOut_ok 13 (e := (22, 3, .if_icmp .eq 19, 0, 0, .null)) rfl
theorem eX9_comesOut_26 : decode mX9_comesOut.2.1 26 = .ok (.ifCond .eq 16, 3) := px_tab_at tX9_comesOut_ok 15 (e := (26, 3, .ifCond .eq 16, 0, 0, .null)) rfl
theorem eX9_comesOut_32 : decode mX9_comesOut.2.1 32 = .ok (.if_icmp .eq 9, 3) := px_tab_at tX9_comesOut_ok 18 (e := (32, 3, .if_icmp .eq 9, 0, 0, .null)) rfl
theorem eX9_comesOut_38 : decode mX9_comesOut.2.1 38 = .ok (.if_icmp .ne 4, 3) := px_tab_at tX9_comesOut_ok 21 (e := (38, 3, .if_icmp .ne 4, 0, 0, .null)) rfl
theorem eX9_comesOut_41 : decode mX9_comesOut.2.1 41 = .ok (.return_, 1) := px_tab_at tX9_comesOut_ok 22 (e := (41, 1, .return_, 0, 0, .null)) rfl
theorem eX9_comesOut_56 : decode mX9_comesOut.2.1 56 = .ok (.if_icmp .ne 7, 3) := px_tab_at tX9_comesOut_ok 32 (e := (56, 3, .if_icmp .ne 7, 0, 0, .null)) rfl
theorem eX9_comesOut_60 : decode mX9_comesOut.2.1 60 = .ok (.goto 24, 3) := px_tab_at tX9_comesOut_ok 34 (e := (60, 3, .goto 24, 0, 0, .null)) rfl
theorem eX9_comesOut_66 : decode mX9_comesOut.2.1 66 = .ok (.if_icmp .ne 7, 3) := px_tab_at tX9_comesOut_ok 37 (e := (66, 3, .if_icmp .ne 7, 0, 0, .null)) rfl
theorem eX9_comesOut_70 : decode mX9_comesOut.2.1 70 = .ok (.goto 14, 3) := px_tab_at tX9_comesOut_ok 39 (e := (70, 3, .goto 14, 0, 0, .null)) rfl
theorem eX9_comesOut_76 : decode mX9_comesOut.2.1 76 = .ok (.if_icmp .ne 7, 3) := px_tab_at tX9_comesOut_ok 42 (e := (76, 3, .if_icmp .ne 7, 0, 0, .null)) rfl
theorem eX9_comesOut_80 : decode mX9_comesOut.2.1 80 = .ok (.goto 4, 3) := px_tab_at tX9_comesOut_ok 44 (e := (80, 3, .goto 4, 0, 0, .null)) rfl
theorem eX9_comesOut_85 : decode mX9_comesOut.2.1 85 = .ok (.invokevirtual 317, 3) := px_tab_at tX9_comesOut_ok 47 (e := (85, 3, .invokevirtual 317, 0, 0, .null)) rfl
theorem eX9_comesOut_88 : decode mX9_comesOut.2.1 88 = .ok (.goto (-88), 3) := px_tab_at tX9_comesOut_ok 48 (e := (88, 3, .goto (-88), 0, 0, .null)) rfl
theorem eX9_comesOut_91 : decode mX9_comesOut.2.1 91 = .ok (.return_, 1) := px_tab_at tX9_comesOut_ok 49 (e := (91, 1, .return_, 0, 0, .null)) rfl
theorem eX9_expression_13 : decode mX9_expression.2.1 13 = .ok (.ifCond .eq 259, 3) := px_tab_at tX9_expression_ok 9 (e := (13, 3, .ifCond .eq 259, 0, 0, .null)) rfl
theorem eX9_expression_20 : decode mX9_expression.2.1 20 = .ok (.ifCond .ne 252, 3) := px_tab_at tX9_expression_ok 12 (e := (20, 3, .ifCond .ne 252, 0, 0, .null)) rfl
theorem eX9_expression_26 : decode mX9_expression.2.1 26 = .ok (.invokevirtual 233, 3) := px_tab_at tX9_expression_ok 15 (e := (26, 3, .invokevirtual 233, 0, 0, .null)) rfl
theorem eX9_expression_29 : decode mX9_expression.2.1 29 = .ok (.ifCond .eq 55, 3) := px_tab_at tX9_expression_ok 16 (e := (29, 3, .ifCond .eq 55, 0, 0, .null)) rfl
theorem eX9_expression_38 : decode mX9_expression.2.1 38 = .ok (.if_icmp .ne 8, 3) := px_tab_at tX9_expression_ok 20 (e := (38, 3, .if_icmp .ne 8, 0, 0, .null)) rfl
theorem eX9_expression_43 : decode mX9_expression.2.1 43 = .ok (.invokevirtual 230, 3) := px_tab_at tX9_expression_ok 23 (e := (43, 3, .invokevirtual 230, 0, 0, .null)) rfl
theorem eX9_expression_57 : decode mX9_expression.2.1 57 = .ok (.invokevirtual 236, 3) := px_tab_at tX9_expression_ok 31 (e := (57, 3, .invokevirtual 236, 0, 0, .null)) rfl
theorem eX9_expression_81 : decode mX9_expression.2.1 81 = .ok (.goto (-58), 3) := px_tab_at tX9_expression_ok 44 (e := (81, 3, .goto (-58), 0, 0, .null)) rfl
theorem eX9_expression_85 : decode mX9_expression.2.1 85 = .ok (.invokevirtual 320, 3) := px_tab_at tX9_expression_ok 46 (e := (85, 3, .invokevirtual 320, 0, 0, .null)) rfl
theorem eX9_expression_92 : decode mX9_expression.2.1 92 = .ok (.ifCond .le 4, 3) := px_tab_at tX9_expression_ok 49 (e := (92, 3, .ifCond .le 4, 0, 0, .null)) rfl
theorem eX9_expression_95 : decode mX9_expression.2.1 95 = .ok (.return_, 1) := px_tab_at tX9_expression_ok 50 (e := (95, 1, .return_, 0, 0, .null)) rfl
theorem eX9_expression_99 : decode mX9_expression.2.1 99 = .ok (.invokevirtual 233, 3) := px_tab_at tX9_expression_ok 53 (e := (99, 3, .invokevirtual 233, 0, 0, .null)) rfl
theorem eX9_expression_102 : decode mX9_expression.2.1 102 = .ok (.ifCond .eq 43, 3) := px_tab_at tX9_expression_ok 54 (e := (102, 3, .ifCond .eq 43, 0, 0, .null)) rfl
theorem eX9_expression_110 : decode mX9_expression.2.1 110 = .ok (.if_icmp .le 35, 3) := px_tab_at tX9_expression_ok 58 (e := (110, 3, .if_icmp .le 35, 0, 0, .null)) rfl
theorem eX9_expression_115 : decode mX9_expression.2.1 115 = .ok (.invokevirtual 323, 3) := px_tab_at tX9_expression_ok 61 (e := (115, 3, .invokevirtual 323, 0, 0, .null)) rfl
theorem eX9_expression_139 : decode mX9_expression.2.1 139 = .ok (.invokevirtual 236, 3) := px_tab_at tX9_expression_ok 75 (e := (139, 3, .invokevirtual 236, 0, 0, .null)) rfl
theorem eX9_expression_142 : decode mX9_expression.2.1 142 = .ok (.goto (-46), 3) := px_tab_at tX9_expression_ok 76 (e := (142, 3, .goto (-46), 0, 0, .null)) rfl
theorem eX9_expression_148 : decode mX9_expression.2.1 148 = .ok (.invokevirtual 233, 3) := px_tab_at tX9_expression_ok 79 (e := (148, 3, .invokevirtual 233, 0, 0, .null)) rfl
theorem eX9_expression_151 : decode mX9_expression.2.1 151 = .ok (.ifCond .ne 30, 3) := px_tab_at tX9_expression_ok 80 (e := (151, 3, .ifCond .ne 30, 0, 0, .null)) rfl
theorem eX9_expression_157 : decode mX9_expression.2.1 157 = .ok (.invokevirtual 233, 3) := px_tab_at tX9_expression_ok 83 (e := (157, 3, .invokevirtual 233, 0, 0, .null)) rfl
theorem eX9_expression_160 : decode mX9_expression.2.1 160 = .ok (.ifCond .ne 21, 3) := px_tab_at tX9_expression_ok 84 (e := (160, 3, .ifCond .ne 21, 0, 0, .null)) rfl
theorem eX9_expression_166 : decode mX9_expression.2.1 166 = .ok (.invokevirtual 233, 3) := px_tab_at tX9_expression_ok 87 (e := (166, 3, .invokevirtual 233, 0, 0, .null)) rfl
theorem eX9_expression_169 : decode mX9_expression.2.1 169 = .ok (.ifCond .ne 12, 3) := px_tab_at tX9_expression_ok 88 (e := (169, 3, .ifCond .ne 12, 0, 0, .null)) rfl
theorem eX9_expression_175 : decode mX9_expression.2.1 175 = .ok (.invokevirtual 233, 3) := px_tab_at tX9_expression_ok 91 (e := (175, 3, .invokevirtual 233, 0, 0, .null)) rfl
theorem eX9_expression_178 : decode mX9_expression.2.1 178 = .ok (.ifCond .eq 7, 3) := px_tab_at tX9_expression_ok 92 (e := (178, 3, .ifCond .eq 7, 0, 0, .null)) rfl
theorem eX9_expression_182 : decode mX9_expression.2.1 182 = .ok (.goto 4, 3) := px_tab_at tX9_expression_ok 94 (e := (182, 3, .goto 4, 0, 0, .null)) rfl
theorem eX9_expression_188 : decode mX9_expression.2.1 188 = .ok (.ifCond .ne 22, 3) := px_tab_at tX9_expression_ok 98 (e := (188, 3, .ifCond .ne 22, 0, 0, .null)) rfl
theorem eX9_expression_196 : decode mX9_expression.2.1 196 = .ok (.if_icmp .le 8, 3) := px_tab_at tX9_expression_ok 102 (e := (196, 3, .if_icmp .le 8, 0, 0, .null)) rfl
theorem eX9_expression_201 : decode mX9_expression.2.1 201 = .ok (.invokevirtual 230, 3) := px_tab_at tX9_expression_ok 105 (e := (201, 3, .invokevirtual 230, 0, 0, .null)) rfl
theorem eX9_expression_206 : decode mX9_expression.2.1 206 = .ok (.invokevirtual 323, 3) := px_tab_at tX9_expression_ok 108 (e := (206, 3, .invokevirtual 323, 0, 0, .null)) rfl
theorem eX9_expression_209 : decode mX9_expression.2.1 209 = .ok (.return_, 1) := px_tab_at tX9_expression_ok 109 (e := (209, 1, .return_, 0, 0, .null)) rfl
theorem eX9_expression_214 : decode mX9_expression.2.1 214 = .ok (.invokevirtual 233, 3) := px_tab_at tX9_expression_ok 113 (e := (214, 3, .invokevirtual 233, 0, 0, .null)) rfl
theorem eX9_expression_217 : decode mX9_expression.2.1 217 = .ok (.ifCond .ne 12, 3) := px_tab_at tX9_expression_ok 114 (e := (217, 3, .ifCond .ne 12, 0, 0, .null)) rfl
theorem eX9_expression_223 : decode mX9_expression.2.1 223 = .ok (.invokevirtual 233, 3) := px_tab_at tX9_expression_ok 117 (e := (223, 3, .invokevirtual 233, 0, 0, .null)) rfl
theorem eX9_expression_226 : decode mX9_expression.2.1 226 = .ok (.ifCond .eq 7, 3) := px_tab_at tX9_expression_ok 118 (e := (226, 3, .ifCond .eq 7, 0, 0, .null)) rfl
theorem eX9_expression_230 : decode mX9_expression.2.1 230 = .ok (.goto 4, 3) := px_tab_at tX9_expression_ok 120 (e := (230, 3, .goto 4, 0, 0, .null)) rfl
theorem eX9_expression_234 : decode mX9_expression.2.1 234 = .ok (.invokevirtual 323, 3) := px_tab_at tX9_expression_ok 122 (e := (234, 3, .invokevirtual 323, 0, 0, .null)) rfl
theorem eX9_expression_266 : decode mX9_expression.2.1 266 = .ok (.invokevirtual 236, 3) := px_tab_at tX9_expression_ok 140 (e := (266, 3, .invokevirtual 236, 0, 0, .null)) rfl
theorem eX9_expression_269 : decode mX9_expression.2.1 269 = .ok (.goto (-257), 3) := px_tab_at tX9_expression_ok 141 (e := (269, 3, .goto (-257), 0, 0, .null)) rfl
theorem eX9_expression_272 : decode mX9_expression.2.1 272 = .ok (.return_, 1) := px_tab_at tX9_expression_ok 142 (e := (272, 1, .return_, 0, 0, .null)) rfl
theorem eX9_unit_2 : decode mX9_unit.2.1 2 = .ok (.invokevirtual 233, 3) := px_tab_at tX9_unit_ok 2 (e := (2, 3, .invokevirtual 233, 0, 0, .null)) rfl
theorem eX9_unit_5 : decode mX9_unit.2.1 5 = .ok (.ifCond .eq 24, 3) := px_tab_at tX9_unit_ok 3 (e := (5, 3, .ifCond .eq 24, 0, 0, .null)) rfl
theorem eX9_unit_19 : decode mX9_unit.2.1 19 = .ok (.invokevirtual 317, 3) := px_tab_at tX9_unit_ok 11 (e := (19, 3, .invokevirtual 317, 0, 0, .null)) rfl
theorem eX9_unit_23 : decode mX9_unit.2.1 23 = .ok (.invokevirtual 236, 3) := px_tab_at tX9_unit_ok 13 (e := (23, 3, .invokevirtual 236, 0, 0, .null)) rfl
theorem eX9_unit_26 : decode mX9_unit.2.1 26 = .ok (.goto 67, 3) := px_tab_at tX9_unit_ok 14 (e := (26, 3, .goto 67, 0, 0, .null)) rfl
theorem eX9_unit_33 : decode mX9_unit.2.1 33 = .ok (.ifCond .ne 55, 3) := px_tab_at tX9_unit_ok 17 (e := (33, 3, .ifCond .ne 55, 0, 0, .null)) rfl
theorem eX9_unit_47 : decode mX9_unit.2.1 47 = .ok (.if_icmp .lt 41, 3) := px_tab_at tX9_unit_ok 24 (e := (47, 3, .if_icmp .lt 41, 0, 0, .null)) rfl
theorem eX9_unit_61 : decode mX9_unit.2.1 61 = .ok (.if_icmp .gt 27, 3) := px_tab_at tX9_unit_ok 31 (e := (61, 3, .if_icmp .gt 27, 0, 0, .null)) rfl
theorem eX9_unit_78 : decode mX9_unit.2.1 78 = .ok (.invokevirtual 317, 3) := px_tab_at tX9_unit_ok 41 (e := (78, 3, .invokevirtual 317, 0, 0, .null)) rfl
theorem eX9_unit_82 : decode mX9_unit.2.1 82 = .ok (.invokevirtual 236, 3) := px_tab_at tX9_unit_ok 43 (e := (82, 3, .invokevirtual 236, 0, 0, .null)) rfl
theorem eX9_unit_85 : decode mX9_unit.2.1 85 = .ok (.goto 8, 3) := px_tab_at tX9_unit_ok 44 (e := (85, 3, .goto 8, 0, 0, .null)) rfl
theorem eX9_unit_90 : decode mX9_unit.2.1 90 = .ok (.invokevirtual 230, 3) := px_tab_at tX9_unit_ok 47 (e := (90, 3, .invokevirtual 230, 0, 0, .null)) rfl
theorem eX9_unit_93 : decode mX9_unit.2.1 93 = .ok (.return_, 1) := px_tab_at tX9_unit_ok 48 (e := (93, 1, .return_, 0, 0, .null)) rfl
theorem eX9_termOf_8 : decode mX9_termOf.2.1 8 = .ok (.if_icmp .ge 157, 3) := px_tab_at tX9_termOf_ok 6 (e := (8, 3, .if_icmp .ge 157, 0, 0, .null)) rfl
theorem eX9_termOf_23 : decode mX9_termOf.2.1 23 = .ok (.if_icmp .ge 42, 3) := px_tab_at tX9_termOf_ok 14 (e := (23, 3, .if_icmp .ge 42, 0, 0, .null)) rfl
theorem eX9_termOf_33 : decode mX9_termOf.2.1 33 = .ok (.ifCond .ne 13, 3) := px_tab_at tX9_termOf_ok 19 (e := (33, 3, .ifCond .ne 13, 0, 0, .null)) rfl
theorem eX9_termOf_43 : decode mX9_termOf.2.1 43 = .ok (.goto 15, 3) := px_tab_at tX9_termOf_ok 24 (e := (43, 3, .goto 15, 0, 0, .null)) rfl
theorem eX9_termOf_62 : decode mX9_termOf.2.1 62 = .ok (.goto 97, 3) := px_tab_at tX9_termOf_ok 34 (e := (62, 3, .goto 97, 0, 0, .null)) rfl
theorem eX9_termOf_89 : decode mX9_termOf.2.1 89 = .ok (.if_icmp .ne 15, 3) := px_tab_at tX9_termOf_ok 50 (e := (89, 3, .if_icmp .ne 15, 0, 0, .null)) rfl
theorem eX9_termOf_94 : decode mX9_termOf.2.1 94 = .ok (.ifCond .ne 10, 3) := px_tab_at tX9_termOf_ok 52 (e := (94, 3, .ifCond .ne 10, 0, 0, .null)) rfl
theorem eX9_termOf_103 : decode mX9_termOf.2.1 103 = .ok (.ireturn, 1) := px_tab_at tX9_termOf_ok 57 (e := (103, 1, .ireturn, 0, 0, .null)) rfl
theorem eX9_termOf_114 : decode mX9_termOf.2.1 114 = .ok (.if_icmp .ne 11, 3) := px_tab_at tX9_termOf_ok 65 (e := (114, 3, .if_icmp .ne 11, 0, 0, .null)) rfl
theorem eX9_termOf_122 : decode mX9_termOf.2.1 122 = .ok (.goto 36, 3) := px_tab_at tX9_termOf_ok 69 (e := (122, 3, .goto 36, 0, 0, .null)) rfl
theorem eX9_termOf_128 : decode mX9_termOf.2.1 128 = .ok (.if_icmp .ne 11, 3) := px_tab_at tX9_termOf_ok 72 (e := (128, 3, .if_icmp .ne 11, 0, 0, .null)) rfl
theorem eX9_termOf_136 : decode mX9_termOf.2.1 136 = .ok (.goto 22, 3) := px_tab_at tX9_termOf_ok 76 (e := (136, 3, .goto 22, 0, 0, .null)) rfl
theorem eX9_termOf_142 : decode mX9_termOf.2.1 142 = .ok (.if_icmp .ne 11, 3) := px_tab_at tX9_termOf_ok 79 (e := (142, 3, .if_icmp .ne 11, 0, 0, .null)) rfl
theorem eX9_termOf_150 : decode mX9_termOf.2.1 150 = .ok (.goto 8, 3) := px_tab_at tX9_termOf_ok 83 (e := (150, 3, .goto 8, 0, 0, .null)) rfl
theorem eX9_termOf_162 : decode mX9_termOf.2.1 162 = .ok (.goto (-157), 3) := px_tab_at tX9_termOf_ok 89 (e := (162, 3, .goto (-157), 0, 0, .null)) rfl
theorem eX9_termOf_171 : decode mX9_termOf.2.1 171 = .ok (.ireturn, 1) := px_tab_at tX9_termOf_ok 94 (e := (171, 1, .ireturn, 0, 0, .null)) rfl
theorem eX9_in_2 : decode mX9_in.2.1 2 = .ok (.if_icmp .lt 12, 3) := px_tab_at tX9_in_ok 2 (e := (2, 3, .if_icmp .lt 12, 0, 0, .null)) rfl
theorem eX9_in_7 : decode mX9_in.2.1 7 = .ok (.if_icmp .gt 7, 3) := px_tab_at tX9_in_ok 5 (e := (7, 3, .if_icmp .gt 7, 0, 0, .null)) rfl
theorem eX9_in_11 : decode mX9_in.2.1 11 = .ok (.goto 4, 3) := px_tab_at tX9_in_ok 7 (e := (11, 3, .goto 4, 0, 0, .null)) rfl
theorem eX9_in_15 : decode mX9_in.2.1 15 = .ok (.ireturn, 1) := px_tab_at tX9_in_ok 9 (e := (15, 1, .ireturn, 0, 0, .null)) rfl
theorem eX9_held_2 : decode mX9_held.2.1 2 = .ok (.if_icmp .ge 7, 3) := px_tab_at tX9_held_ok 2 (e := (2, 3, .if_icmp .ge 7, 0, 0, .null)) rfl
theorem eX9_held_6 : decode mX9_held.2.1 6 = .ok (.goto 13, 3) := px_tab_at tX9_held_ok 4 (e := (6, 3, .goto 13, 0, 0, .null)) rfl
theorem eX9_held_11 : decode mX9_held.2.1 11 = .ok (.if_icmp .le 7, 3) := px_tab_at tX9_held_ok 7 (e := (11, 3, .if_icmp .le 7, 0, 0, .null)) rfl
theorem eX9_held_15 : decode mX9_held.2.1 15 = .ok (.goto 4, 3) := px_tab_at tX9_held_ok 9 (e := (15, 3, .goto 4, 0, 0, .null)) rfl
theorem eX9_held_19 : decode mX9_held.2.1 19 = .ok (.ireturn, 1) := px_tab_at tX9_held_ok 11 (e := (19, 1, .ireturn, 0, 0, .null)) rfl
theorem eX9_bits_7 : decode mX9_bits.2.1 7 = .ok (.if_icmp .ge 17, 3) := px_tab_at tX9_bits_ok 6 (e := (7, 3, .if_icmp .ge 17, 0, 0, .null)) rfl
theorem eX9_bits_21 : decode mX9_bits.2.1 21 = .ok (.goto (-17), 3) := px_tab_at tX9_bits_ok 16 (e := (21, 3, .goto (-17), 0, 0, .null)) rfl
theorem eX9_bits_25 : decode mX9_bits.2.1 25 = .ok (.ireturn, 1) := px_tab_at tX9_bits_ok 18 (e := (25, 1, .ireturn, 0, 0, .null)) rfl
theorem eX9_isSpan_13 : decode mX9_isSpan.2.1 13 = .ok (.invokestatic 331, 3) := px_tab_at tX9_isSpan_ok 9 (e := (13, 3, .invokestatic 331, 0, 0, .null)) rfl
theorem eX9_isSpan_16 : decode mX9_isSpan.2.1 16 = .ok (.ireturn, 1) := px_tab_at tX9_isSpan_ok 10 (e := (16, 1, .ireturn, 0, 0, .null)) rfl
theorem eX9_isSleeper_13 : decode mX9_isSleeper.2.1 13 = .ok (.invokestatic 331, 3) := px_tab_at tX9_isSleeper_ok 9 (e := (13, 3, .invokestatic 331, 0, 0, .null)) rfl
theorem eX9_isSleeper_16 : decode mX9_isSleeper.2.1 16 = .ok (.ireturn, 1) := px_tab_at tX9_isSleeper_ok 10 (e := (16, 1, .ireturn, 0, 0, .null)) rfl
theorem eX9_isCrosser_13 : decode mX9_isCrosser.2.1 13 = .ok (.invokestatic 331, 3) := px_tab_at tX9_isCrosser_ok 9 (e := (13, 3, .invokestatic 331, 0, 0, .null)) rfl
theorem eX9_isCrosser_16 : decode mX9_isCrosser.2.1 16 = .ok (.ireturn, 1) := px_tab_at tX9_isCrosser_ok 10 (e := (16, 1, .ireturn, 0, 0, .null)) rfl
theorem eX9_nightBegins_12 : decode mX9_nightBegins.2.1 12 = .ok (.if_icmp .ge 39, 3) := px_tab_at tX9_nightBegins_ok 8 (e := (12, 3, .if_icmp .ge 39, 0, 0, .null)) rfl
theorem eX9_nightBegins_48 : decode mX9_nightBegins.2.1 48 = .ok (.goto (-46), 3) := px_tab_at tX9_nightBegins_ok 30 (e := (48, 3, .goto (-46), 0, 0, .null)) rfl
theorem eX9_nightBegins_70 : decode mX9_nightBegins.2.1 70 = .ok (.return_, 1) := px_tab_at tX9_nightBegins_ok 44 (e := (70, 1, .return_, 0, 0, .null)) rfl
theorem eX9_begins_5 : decode mX9_begins.2.1 5 = .ok (.if_icmp .ge 16, 3) := px_tab_at tX9_begins_ok 4 (e := (5, 3, .if_icmp .ge 16, 0, 0, .null)) rfl
theorem eX9_begins_18 : decode mX9_begins.2.1 18 = .ok (.goto (-16), 3) := px_tab_at tX9_begins_ok 11 (e := (18, 3, .goto (-16), 0, 0, .null)) rfl
theorem eX9_begins_33 : decode mX9_begins.2.1 33 = .ok (.if_icmp .ge 32, 3) := px_tab_at tX9_begins_ok 20 (e := (33, 3, .if_icmp .ge 32, 0, 0, .null)) rfl
theorem eX9_begins_62 : decode mX9_begins.2.1 62 = .ok (.goto (-39), 3) := px_tab_at tX9_begins_ok 37 (e := (62, 3, .goto (-39), 0, 0, .null)) rfl
theorem eX9_begins_69 : decode mX9_begins.2.1 69 = .ok (.if_icmp .ge 20, 3) := px_tab_at tX9_begins_ok 42 (e := (69, 3, .if_icmp .ge 20, 0, 0, .null)) rfl
theorem eX9_begins_86 : decode mX9_begins.2.1 86 = .ok (.goto (-19), 3) := px_tab_at tX9_begins_ok 51 (e := (86, 3, .goto (-19), 0, 0, .null)) rfl
theorem eX9_begins_90 : decode mX9_begins.2.1 90 = .ok (.invokevirtual 335, 3) := px_tab_at tX9_begins_ok 53 (e := (90, 3, .invokevirtual 335, 0, 0, .null)) rfl
theorem eX9_begins_111 : decode mX9_begins.2.1 111 = .ok (.return_, 1) := px_tab_at tX9_begins_ok 64 (e := (111, 1, .return_, 0, 0, .null)) rfl
theorem eX9_keepsRow_5 : decode mX9_keepsRow.2.1 5 = .ok (.if_icmp .ge 21, 3) := px_tab_at tX9_keepsRow_ok 4 (e := (5, 3, .if_icmp .ge 21, 0, 0, .null)) rfl
theorem eX9_keepsRow_23 : decode mX9_keepsRow.2.1 23 = .ok (.goto (-21), 3) := px_tab_at tX9_keepsRow_ok 14 (e := (23, 3, .goto (-21), 0, 0, .null)) rfl
theorem eX9_keepsRow_26 : decode mX9_keepsRow.2.1 26 = .ok (.return_, 1) := px_tab_at tX9_keepsRow_ok 15 (e := (26, 1, .return_, 0, 0, .null)) rfl
theorem eX9_copies_5 : decode mX9_copies.2.1 5 = .ok (.if_icmp .ge 21, 3) := px_tab_at tX9_copies_ok 4 (e := (5, 3, .if_icmp .ge 21, 0, 0, .null)) rfl
theorem eX9_copies_23 : decode mX9_copies.2.1 23 = .ok (.goto (-21), 3) := px_tab_at tX9_copies_ok 14 (e := (23, 3, .goto (-21), 0, 0, .null)) rfl
theorem eX9_copies_44 : decode mX9_copies.2.1 44 = .ok (.return_, 1) := px_tab_at tX9_copies_ok 25 (e := (44, 1, .return_, 0, 0, .null)) rfl
theorem eX9_mixed_18 : decode mX9_mixed.2.1 18 = .ok (.ireturn, 1) := px_tab_at tX9_mixed_ok 13 (e := (18, 1, .ireturn, 0, 0, .null)) rfl
theorem eX9_lotOf_6 : decode mX9_lotOf.2.1 6 = .ok (.invokestatic 345, 3) := px_tab_at tX9_lotOf_ok 3 (e := (6, 3, .invokestatic 345, 0, 0, .null)) rfl
theorem eX9_lotOf_10 : decode mX9_lotOf.2.1 10 = .ok (.invokestatic 345, 3) := px_tab_at tX9_lotOf_ok 5 (e := (10, 3, .invokestatic 345, 0, 0, .null)) rfl
theorem eX9_lotOf_18 : decode mX9_lotOf.2.1 18 = .ok (.ireturn, 1) := px_tab_at tX9_lotOf_ok 10 (e := (18, 1, .ireturn, 0, 0, .null)) rfl
theorem eX9_isAsleep_9 : decode mX9_isAsleep.2.1 9 = .ok (.ifCond .ne 26, 3) := px_tab_at tX9_isAsleep_ok 6 (e := (9, 3, .ifCond .ne 26, 0, 0, .null)) rfl
theorem eX9_isAsleep_28 : decode mX9_isAsleep.2.1 28 = .ok (.if_icmp .ge 7, 3) := px_tab_at tX9_isAsleep_ok 16 (e := (28, 3, .if_icmp .ge 7, 0, 0, .null)) rfl
theorem eX9_isAsleep_32 : decode mX9_isAsleep.2.1 32 = .ok (.goto 4, 3) := px_tab_at tX9_isAsleep_ok 18 (e := (32, 3, .goto 4, 0, 0, .null)) rfl
theorem eX9_isAsleep_36 : decode mX9_isAsleep.2.1 36 = .ok (.ireturn, 1) := px_tab_at tX9_isAsleep_ok 20 (e := (36, 1, .ireturn, 0, 0, .null)) rfl
theorem eX9_asleepBits_14 : decode mX9_asleepBits.2.1 14 = .ok (.if_icmp .ge 23, 3) := px_tab_at tX9_asleepBits_ok 10 (e := (14, 3, .if_icmp .ge 23, 0, 0, .null)) rfl
theorem eX9_asleepBits_19 : decode mX9_asleepBits.2.1 19 = .ok (.invokevirtual 348, 3) := px_tab_at tX9_asleepBits_ok 13 (e := (19, 3, .invokevirtual 348, 0, 0, .null)) rfl
theorem eX9_asleepBits_22 : decode mX9_asleepBits.2.1 22 = .ok (.ifCond .eq 9, 3) := px_tab_at tX9_asleepBits_ok 14 (e := (22, 3, .ifCond .eq 9, 0, 0, .null)) rfl
theorem eX9_asleepBits_34 : decode mX9_asleepBits.2.1 34 = .ok (.goto (-30), 3) := px_tab_at tX9_asleepBits_ok 22 (e := (34, 3, .goto (-30), 0, 0, .null)) rfl
theorem eX9_asleepBits_38 : decode mX9_asleepBits.2.1 38 = .ok (.ireturn, 1) := px_tab_at tX9_asleepBits_ok 24 (e := (38, 1, .ireturn, 0, 0, .null)) rfl
theorem eX9_loadOn_14 : decode mX9_loadOn.2.1 14 = .ok (.if_icmp .ge 38, 3) := px_tab_at tX9_loadOn_ok 10 (e := (14, 3, .if_icmp .ge 38, 0, 0, .null)) rfl
theorem eX9_loadOn_27 : decode mX9_loadOn.2.1 27 = .ok (.if_icmp .ne 19, 3) := px_tab_at tX9_loadOn_ok 18 (e := (27, 3, .if_icmp .ne 19, 0, 0, .null)) rfl
theorem eX9_loadOn_49 : decode mX9_loadOn.2.1 49 = .ok (.goto (-45), 3) := px_tab_at tX9_loadOn_ok 32 (e := (49, 3, .goto (-45), 0, 0, .null)) rfl
theorem eX9_loadOn_53 : decode mX9_loadOn.2.1 53 = .ok (.ireturn, 1) := px_tab_at tX9_loadOn_ok 34 (e := (53, 1, .ireturn, 0, 0, .null)) rfl
theorem eX9_noiseNow_14 : decode mX9_noiseNow.2.1 14 = .ok (.if_icmp .ge 42, 3) := px_tab_at tX9_noiseNow_ok 10 (e := (14, 3, .if_icmp .ge 42, 0, 0, .null)) rfl
theorem eX9_noiseNow_28 : decode mX9_noiseNow.2.1 28 = .ok (.invokestatic 331, 3) := px_tab_at tX9_noiseNow_ok 19 (e := (28, 3, .invokestatic 331, 0, 0, .null)) rfl
theorem eX9_noiseNow_31 : decode mX9_noiseNow.2.1 31 = .ok (.ifCond .eq 19, 3) := px_tab_at tX9_noiseNow_ok 20 (e := (31, 3, .ifCond .eq 19, 0, 0, .null)) rfl
theorem eX9_noiseNow_53 : decode mX9_noiseNow.2.1 53 = .ok (.goto (-49), 3) := px_tab_at tX9_noiseNow_ok 34 (e := (53, 3, .goto (-49), 0, 0, .null)) rfl
theorem eX9_noiseNow_57 : decode mX9_noiseNow.2.1 57 = .ok (.ireturn, 1) := px_tab_at tX9_noiseNow_ok 36 (e := (57, 1, .ireturn, 0, 0, .null)) rfl
theorem eX9_looks_26 : decode mX9_looks.2.1 26 = .ok (.if_icmp .ge 49, 3) := px_tab_at tX9_looks_ok 17 (e := (26, 3, .if_icmp .ge 49, 0, 0, .null)) rfl
theorem eX9_looks_32 : decode mX9_looks.2.1 32 = .ok (.if_icmp .eq 37, 3) := px_tab_at tX9_looks_ok 20 (e := (32, 3, .if_icmp .eq 37, 0, 0, .null)) rfl
theorem eX9_looks_38 : decode mX9_looks.2.1 38 = .ok (.invokevirtual 348, 3) := px_tab_at tX9_looks_ok 23 (e := (38, 3, .invokevirtual 348, 0, 0, .null)) rfl
theorem eX9_looks_41 : decode mX9_looks.2.1 41 = .ok (.ifCond .eq 28, 3) := px_tab_at tX9_looks_ok 24 (e := (41, 3, .ifCond .eq 28, 0, 0, .null)) rfl
theorem eX9_looks_63 : decode mX9_looks.2.1 63 = .ok (.if_icmp .ne 6, 3) := px_tab_at tX9_looks_ok 37 (e := (63, 3, .if_icmp .ne 6, 0, 0, .null)) rfl
theorem eX9_looks_72 : decode mX9_looks.2.1 72 = .ok (.goto (-57), 3) := px_tab_at tX9_looks_ok 40 (e := (72, 3, .goto (-57), 0, 0, .null)) rfl
theorem eX9_looks_118 : decode mX9_looks.2.1 118 = .ok (.invokevirtual 351, 3) := px_tab_at tX9_looks_ok 69 (e := (118, 3, .invokevirtual 351, 0, 0, .null)) rfl
theorem eX9_looks_168 : decode mX9_looks.2.1 168 = .ok (.invokevirtual 354, 3) := px_tab_at tX9_looks_ok 101 (e := (168, 3, .invokevirtual 354, 0, 0, .null)) rfl
theorem eX9_looks_185 : decode mX9_looks.2.1 185 = .ok (.return_, 1) := px_tab_at tX9_looks_ok 111 (e := (185, 1, .return_, 0, 0, .null)) rfl
theorem eX9_asks_2 : decode mX9_asks.2.1 2 = .ok (.invokevirtual 357, 3) := px_tab_at tX9_asks_ok 2 (e := (2, 3, .invokevirtual 357, 0, 0, .null)) rfl
theorem eX9_asks_32 : decode mX9_asks.2.1 32 = .ok (.if_icmp .ge 11, 3) := px_tab_at tX9_asks_ok 20 (e := (32, 3, .if_icmp .ge 11, 0, 0, .null)) rfl
theorem eX9_asks_38 : decode mX9_asks.2.1 38 = .ok (.invokevirtual 360, 3) := px_tab_at tX9_asks_ok 23 (e := (38, 3, .invokevirtual 360, 0, 0, .null)) rfl
theorem eX9_asks_49 : decode mX9_asks.2.1 49 = .ok (.invokestatic 363, 3) := px_tab_at tX9_asks_ok 28 (e := (49, 3, .invokestatic 363, 0, 0, .null)) rfl
theorem eX9_asks_52 : decode mX9_asks.2.1 52 = .ok (.ireturn, 1) := px_tab_at tX9_asks_ok 29 (e := (52, 1, .ireturn, 0, 0, .null)) rfl
theorem eX9_lawTells_19 : decode mX9_lawTells.2.1 19 = .ok (.if_icmp .ge 101, 3) := px_tab_at tX9_lawTells_ok 13 (e := (19, 3, .if_icmp .ge 101, 0, 0, .null)) rfl
theorem eX9_lawTells_28 : decode mX9_lawTells.2.1 28 = .ok (.ifCond .eq 56, 3) := px_tab_at tX9_lawTells_ok 18 (e := (28, 3, .ifCond .eq 56, 0, 0, .null)) rfl
theorem eX9_lawTells_44 : decode mX9_lawTells.2.1 44 = .ok (.invokevirtual 366, 3) := px_tab_at tX9_lawTells_ok 28 (e := (44, 3, .invokevirtual 366, 0, 0, .null)) rfl
theorem eX9_lawTells_61 : decode mX9_lawTells.2.1 61 = .ok (.invokevirtual 366, 3) := px_tab_at tX9_lawTells_ok 39 (e := (61, 3, .invokevirtual 366, 0, 0, .null)) rfl
theorem eX9_lawTells_70 : decode mX9_lawTells.2.1 70 = .ok (.ifCond .eq 5, 3) := px_tab_at tX9_lawTells_ok 43 (e := (70, 3, .ifCond .eq 5, 0, 0, .null)) rfl
theorem eX9_lawTells_74 : decode mX9_lawTells.2.1 74 = .ok (.ireturn, 1) := px_tab_at tX9_lawTells_ok 45 (e := (74, 1, .ireturn, 0, 0, .null)) rfl
theorem eX9_lawTells_78 : decode mX9_lawTells.2.1 78 = .ok (.if_icmp .lt 6, 3) := px_tab_at tX9_lawTells_ok 48 (e := (78, 3, .if_icmp .lt 6, 0, 0, .null)) rfl
theorem eX9_lawTells_81 : decode mX9_lawTells.2.1 81 = .ok (.goto 33, 3) := px_tab_at tX9_lawTells_ok 49 (e := (81, 3, .goto 33, 0, 0, .null)) rfl
theorem eX9_lawTells_97 : decode mX9_lawTells.2.1 97 = .ok (.invokevirtual 366, 3) := px_tab_at tX9_lawTells_ok 59 (e := (97, 3, .invokevirtual 366, 0, 0, .null)) rfl
theorem eX9_lawTells_105 : decode mX9_lawTells.2.1 105 = .ok (.ifCond .eq 7, 3) := px_tab_at tX9_lawTells_ok 63 (e := (105, 3, .ifCond .eq 7, 0, 0, .null)) rfl
theorem eX9_lawTells_109 : decode mX9_lawTells.2.1 109 = .ok (.goto 4, 3) := px_tab_at tX9_lawTells_ok 65 (e := (109, 3, .goto 4, 0, 0, .null)) rfl
theorem eX9_lawTells_113 : decode mX9_lawTells.2.1 113 = .ok (.ireturn, 1) := px_tab_at tX9_lawTells_ok 67 (e := (113, 1, .ireturn, 0, 0, .null)) rfl
theorem eX9_lawTells_117 : decode mX9_lawTells.2.1 117 = .ok (.goto (-105), 3) := px_tab_at tX9_lawTells_ok 69 (e := (117, 3, .goto (-105), 0, 0, .null)) rfl
theorem eX9_lawTells_121 : decode mX9_lawTells.2.1 121 = .ok (.ireturn, 1) := px_tab_at tX9_lawTells_ok 71 (e := (121, 1, .ireturn, 0, 0, .null)) rfl
theorem eX9_holdsNow_2 : decode mX9_holdsNow.2.1 2 = .ok (.invokevirtual 348, 3) := px_tab_at tX9_holdsNow_ok 2 (e := (2, 3, .invokevirtual 348, 0, 0, .null)) rfl
theorem eX9_holdsNow_5 : decode mX9_holdsNow.2.1 5 = .ok (.ifCond .eq 21, 3) := px_tab_at tX9_holdsNow_ok 3 (e := (5, 3, .ifCond .eq 21, 0, 0, .null)) rfl
theorem eX9_holdsNow_20 : decode mX9_holdsNow.2.1 20 = .ok (.invokevirtual 369, 3) := px_tab_at tX9_holdsNow_ok 13 (e := (20, 3, .invokevirtual 369, 0, 0, .null)) rfl
theorem eX9_holdsNow_23 : decode mX9_holdsNow.2.1 23 = .ok (.goto 4, 3) := px_tab_at tX9_holdsNow_ok 14 (e := (23, 3, .goto 4, 0, 0, .null)) rfl
theorem eX9_holdsNow_27 : decode mX9_holdsNow.2.1 27 = .ok (.ireturn, 1) := px_tab_at tX9_holdsNow_ok 16 (e := (27, 1, .ireturn, 0, 0, .null)) rfl
theorem eX9_dreamsOn_14 : decode mX9_dreamsOn.2.1 14 = .ok (.if_icmp .ge 94, 3) := px_tab_at tX9_dreamsOn_ok 10 (e := (14, 3, .if_icmp .ge 94, 0, 0, .null)) rfl
theorem eX9_dreamsOn_23 : decode mX9_dreamsOn.2.1 23 = .ok (.if_icmp .ge 79, 3) := px_tab_at tX9_dreamsOn_ok 15 (e := (23, 3, .if_icmp .ge 79, 0, 0, .null)) rfl
theorem eX9_dreamsOn_46 : decode mX9_dreamsOn.2.1 46 = .ok (.if_icmp .ne 50, 3) := px_tab_at tX9_dreamsOn_ok 30 (e := (46, 3, .if_icmp .ne 50, 0, 0, .null)) rfl
theorem eX9_dreamsOn_59 : decode mX9_dreamsOn.2.1 59 = .ok (.if_icmp .ne 37, 3) := px_tab_at tX9_dreamsOn_ok 38 (e := (59, 3, .if_icmp .ne 37, 0, 0, .null)) rfl
theorem eX9_dreamsOn_73 : decode mX9_dreamsOn.2.1 73 = .ok (.if_icmp .ne 23, 3) := px_tab_at tX9_dreamsOn_ok 46 (e := (73, 3, .if_icmp .ne 23, 0, 0, .null)) rfl
theorem eX9_dreamsOn_78 : decode mX9_dreamsOn.2.1 78 = .ok (.invokevirtual 348, 3) := px_tab_at tX9_dreamsOn_ok 49 (e := (78, 3, .invokevirtual 348, 0, 0, .null)) rfl
theorem eX9_dreamsOn_81 : decode mX9_dreamsOn.2.1 81 = .ok (.ifCond .eq 15, 3) := px_tab_at tX9_dreamsOn_ok 50 (e := (81, 3, .ifCond .eq 15, 0, 0, .null)) rfl
theorem eX9_dreamsOn_87 : decode mX9_dreamsOn.2.1 87 = .ok (.invokevirtual 348, 3) := px_tab_at tX9_dreamsOn_ok 53 (e := (87, 3, .invokevirtual 348, 0, 0, .null)) rfl
theorem eX9_dreamsOn_90 : decode mX9_dreamsOn.2.1 90 = .ok (.ifCond .eq 6, 3) := px_tab_at tX9_dreamsOn_ok 54 (e := (90, 3, .ifCond .eq 6, 0, 0, .null)) rfl
theorem eX9_dreamsOn_99 : decode mX9_dreamsOn.2.1 99 = .ok (.goto (-79), 3) := px_tab_at tX9_dreamsOn_ok 57 (e := (99, 3, .goto (-79), 0, 0, .null)) rfl
theorem eX9_dreamsOn_105 : decode mX9_dreamsOn.2.1 105 = .ok (.goto (-101), 3) := px_tab_at tX9_dreamsOn_ok 59 (e := (105, 3, .goto (-101), 0, 0, .null)) rfl
theorem eX9_dreamsOn_109 : decode mX9_dreamsOn.2.1 109 = .ok (.ireturn, 1) := px_tab_at tX9_dreamsOn_ok 61 (e := (109, 1, .ireturn, 0, 0, .null)) rfl
theorem eX9_bearsNow_11 : decode mX9_bearsNow.2.1 11 = .ok (.invokevirtual 373, 3) := px_tab_at tX9_bearsNow_ok 7 (e := (11, 3, .invokevirtual 373, 0, 0, .null)) rfl
theorem eX9_bearsNow_28 : decode mX9_bearsNow.2.1 28 = .ok (.if_icmp .ge 30, 3) := px_tab_at tX9_bearsNow_ok 18 (e := (28, 3, .if_icmp .ge 30, 0, 0, .null)) rfl
theorem eX9_bearsNow_41 : decode mX9_bearsNow.2.1 41 = .ok (.if_icmp .ne 11, 3) := px_tab_at tX9_bearsNow_ok 26 (e := (41, 3, .if_icmp .ne 11, 0, 0, .null)) rfl
theorem eX9_bearsNow_47 : decode mX9_bearsNow.2.1 47 = .ok (.invokevirtual 376, 3) := px_tab_at tX9_bearsNow_ok 30 (e := (47, 3, .invokevirtual 376, 0, 0, .null)) rfl
theorem eX9_bearsNow_55 : decode mX9_bearsNow.2.1 55 = .ok (.goto (-37), 3) := px_tab_at tX9_bearsNow_ok 34 (e := (55, 3, .goto (-37), 0, 0, .null)) rfl
theorem eX9_bearsNow_59 : decode mX9_bearsNow.2.1 59 = .ok (.ireturn, 1) := px_tab_at tX9_bearsNow_ok 36 (e := (59, 1, .ireturn, 0, 0, .null)) rfl
theorem eX9_leastNow_2 : decode mX9_leastNow.2.1 2 = .ok (.invokevirtual 379, 3) := px_tab_at tX9_leastNow_ok 2 (e := (2, 3, .invokevirtual 379, 0, 0, .null)) rfl
theorem eX9_leastNow_18 : decode mX9_leastNow.2.1 18 = .ok (.if_icmp .ge 22, 3) := px_tab_at tX9_leastNow_ok 12 (e := (18, 3, .if_icmp .ge 22, 0, 0, .null)) rfl
theorem eX9_leastNow_23 : decode mX9_leastNow.2.1 23 = .ok (.invokevirtual 379, 3) := px_tab_at tX9_leastNow_ok 15 (e := (23, 3, .invokevirtual 379, 0, 0, .null)) rfl
theorem eX9_leastNow_29 : decode mX9_leastNow.2.1 29 = .ok (.if_icmp .ge 5, 3) := px_tab_at tX9_leastNow_ok 19 (e := (29, 3, .if_icmp .ge 5, 0, 0, .null)) rfl
theorem eX9_leastNow_37 : decode mX9_leastNow.2.1 37 = .ok (.goto (-29), 3) := px_tab_at tX9_leastNow_ok 23 (e := (37, 3, .goto (-29), 0, 0, .null)) rfl
theorem eX9_leastNow_41 : decode mX9_leastNow.2.1 41 = .ok (.ireturn, 1) := px_tab_at tX9_leastNow_ok 25 (e := (41, 1, .ireturn, 0, 0, .null)) rfl
theorem eX9_sleepsOn_12 : decode mX9_sleepsOn.2.1 12 = .ok (.if_icmp .ge 125, 3) := px_tab_at tX9_sleepsOn_ok 8 (e := (12, 3, .if_icmp .ge 125, 0, 0, .null)) rfl
theorem eX9_sleepsOn_36 : decode mX9_sleepsOn.2.1 36 = .ok (.invokevirtual 348, 3) := px_tab_at tX9_sleepsOn_ok 24 (e := (36, 3, .invokevirtual 348, 0, 0, .null)) rfl
theorem eX9_sleepsOn_39 : decode mX9_sleepsOn.2.1 39 = .ok (.ifCond .ne 6, 3) := px_tab_at tX9_sleepsOn_ok 25 (e := (39, 3, .ifCond .ne 6, 0, 0, .null)) rfl
theorem eX9_sleepsOn_42 : decode mX9_sleepsOn.2.1 42 = .ok (.goto 89, 3) := px_tab_at tX9_sleepsOn_ok 26 (e := (42, 3, .goto 89, 0, 0, .null)) rfl
theorem eX9_sleepsOn_54 : decode mX9_sleepsOn.2.1 54 = .ok (.ifCond .ne 36, 3) := px_tab_at tX9_sleepsOn_ok 32 (e := (54, 3, .ifCond .ne 36, 0, 0, .null)) rfl
theorem eX9_sleepsOn_70 : decode mX9_sleepsOn.2.1 70 = .ok (.invokevirtual 382, 3) := px_tab_at tX9_sleepsOn_ok 42 (e := (70, 3, .invokevirtual 382, 0, 0, .null)) rfl
theorem eX9_sleepsOn_80 : decode mX9_sleepsOn.2.1 80 = .ok (.invokevirtual 369, 3) := px_tab_at tX9_sleepsOn_ok 49 (e := (80, 3, .invokevirtual 369, 0, 0, .null)) rfl
theorem eX9_sleepsOn_83 : decode mX9_sleepsOn.2.1 83 = .ok (.if_icmp .ge 7, 3) := px_tab_at tX9_sleepsOn_ok 50 (e := (83, 3, .if_icmp .ge 7, 0, 0, .null)) rfl
theorem eX9_sleepsOn_87 : decode mX9_sleepsOn.2.1 87 = .ok (.goto 4, 3) := px_tab_at tX9_sleepsOn_ok 52 (e := (87, 3, .goto 4, 0, 0, .null)) rfl
theorem eX9_sleepsOn_98 : decode mX9_sleepsOn.2.1 98 = .ok (.ifCond .ne 33, 3) := px_tab_at tX9_sleepsOn_ok 59 (e := (98, 3, .ifCond .ne 33, 0, 0, .null)) rfl
theorem eX9_sleepsOn_120 : decode mX9_sleepsOn.2.1 120 = .ok (.invokevirtual 369, 3) := px_tab_at tX9_sleepsOn_ok 73 (e := (120, 3, .invokevirtual 369, 0, 0, .null)) rfl
theorem eX9_sleepsOn_127 : decode mX9_sleepsOn.2.1 127 = .ok (.invokestatic 363, 3) := px_tab_at tX9_sleepsOn_ok 77 (e := (127, 3, .invokestatic 363, 0, 0, .null)) rfl
theorem eX9_sleepsOn_134 : decode mX9_sleepsOn.2.1 134 = .ok (.goto (-132), 3) := px_tab_at tX9_sleepsOn_ok 80 (e := (134, 3, .goto (-132), 0, 0, .null)) rfl
theorem eX9_sleepsOn_149 : decode mX9_sleepsOn.2.1 149 = .ok (.if_icmp .ge 40, 3) := px_tab_at tX9_sleepsOn_ok 89 (e := (149, 3, .if_icmp .ge 40, 0, 0, .null)) rfl
theorem eX9_sleepsOn_170 : decode mX9_sleepsOn.2.1 170 = .ok (.ifCond .eq 13, 3) := px_tab_at tX9_sleepsOn_ok 102 (e := (170, 3, .ifCond .eq 13, 0, 0, .null)) rfl
theorem eX9_sleepsOn_186 : decode mX9_sleepsOn.2.1 186 = .ok (.goto (-47), 3) := px_tab_at tX9_sleepsOn_ok 111 (e := (186, 3, .goto (-47), 0, 0, .null)) rfl
theorem eX9_sleepsOn_211 : decode mX9_sleepsOn.2.1 211 = .ok (.return_, 1) := px_tab_at tX9_sleepsOn_ok 128 (e := (211, 1, .return_, 0, 0, .null)) rfl
theorem eX9_goesOver_47 : decode mX9_goesOver.2.1 47 = .ok (.return_, 1) := px_tab_at tX9_goesOver_ok 33 (e := (47, 1, .return_, 0, 0, .null)) rfl
theorem eX9_crosses_19 : decode mX9_crosses.2.1 19 = .ok (.if_icmp .ne 9, 3) := px_tab_at tX9_crosses_ok 13 (e := (19, 3, .if_icmp .ne 9, 0, 0, .null)) rfl
theorem eX9_crosses_24 : decode mX9_crosses.2.1 24 = .ok (.invokevirtual 385, 3) := px_tab_at tX9_crosses_ok 16 (e := (24, 3, .invokevirtual 385, 0, 0, .null)) rfl
theorem eX9_crosses_27 : decode mX9_crosses.2.1 27 = .ok (.return_, 1) := px_tab_at tX9_crosses_ok 17 (e := (27, 1, .return_, 0, 0, .null)) rfl
theorem eX9_crosses_46 : decode mX9_crosses.2.1 46 = .ok (.invokevirtual 354, 3) := px_tab_at tX9_crosses_ok 32 (e := (46, 3, .invokevirtual 354, 0, 0, .null)) rfl
theorem eX9_crosses_55 : decode mX9_crosses.2.1 55 = .ok (.invokevirtual 379, 3) := px_tab_at tX9_crosses_ok 39 (e := (55, 3, .invokevirtual 379, 0, 0, .null)) rfl
theorem eX9_crosses_58 : decode mX9_crosses.2.1 58 = .ok (.if_icmp .gt 15, 3) := px_tab_at tX9_crosses_ok 40 (e := (58, 3, .if_icmp .gt 15, 0, 0, .null)) rfl
theorem eX9_crosses_73 : decode mX9_crosses.2.1 73 = .ok (.return_, 1) := px_tab_at tX9_crosses_ok 50 (e := (73, 1, .return_, 0, 0, .null)) rfl
theorem eX9_hourGoes_12 : decode mX9_hourGoes.2.1 12 = .ok (.if_icmp .ge 42, 3) := px_tab_at tX9_hourGoes_ok 8 (e := (12, 3, .if_icmp .ge 42, 0, 0, .null)) rfl
theorem eX9_hourGoes_31 : decode mX9_hourGoes.2.1 31 = .ok (.if_icmp .ne 7, 3) := px_tab_at tX9_hourGoes_ok 19 (e := (31, 3, .if_icmp .ne 7, 0, 0, .null)) rfl
theorem eX9_hourGoes_35 : decode mX9_hourGoes.2.1 35 = .ok (.goto 12, 3) := px_tab_at tX9_hourGoes_ok 21 (e := (35, 3, .goto 12, 0, 0, .null)) rfl
theorem eX9_hourGoes_51 : decode mX9_hourGoes.2.1 51 = .ok (.goto (-49), 3) := px_tab_at tX9_hourGoes_ok 30 (e := (51, 3, .goto (-49), 0, 0, .null)) rfl
theorem eX9_hourGoes_55 : decode mX9_hourGoes.2.1 55 = .ok (.invokevirtual 388, 3) := px_tab_at tX9_hourGoes_ok 32 (e := (55, 3, .invokevirtual 388, 0, 0, .null)) rfl
theorem eX9_hourGoes_70 : decode mX9_hourGoes.2.1 70 = .ok (.if_icmp .ge 70, 3) := px_tab_at tX9_hourGoes_ok 41 (e := (70, 3, .if_icmp .ge 70, 0, 0, .null)) rfl
theorem eX9_hourGoes_75 : decode mX9_hourGoes.2.1 75 = .ok (.invokevirtual 354, 3) := px_tab_at tX9_hourGoes_ok 44 (e := (75, 3, .invokevirtual 354, 0, 0, .null)) rfl
theorem eX9_hourGoes_80 : decode mX9_hourGoes.2.1 80 = .ok (.invokevirtual 379, 3) := px_tab_at tX9_hourGoes_ok 47 (e := (80, 3, .invokevirtual 379, 0, 0, .null)) rfl
theorem eX9_hourGoes_83 : decode mX9_hourGoes.2.1 83 = .ok (.if_icmp .gt 6, 3) := px_tab_at tX9_hourGoes_ok 48 (e := (83, 3, .if_icmp .gt 6, 0, 0, .null)) rfl
theorem eX9_hourGoes_86 : decode mX9_hourGoes.2.1 86 = .ok (.goto 48, 3) := px_tab_at tX9_hourGoes_ok 49 (e := (86, 3, .goto 48, 0, 0, .null)) rfl
theorem eX9_hourGoes_101 : decode mX9_hourGoes.2.1 101 = .ok (.if_icmp .ge 33, 3) := px_tab_at tX9_hourGoes_ok 58 (e := (101, 3, .if_icmp .ge 33, 0, 0, .null)) rfl
theorem eX9_hourGoes_114 : decode mX9_hourGoes.2.1 114 = .ok (.if_icmp .ne 14, 3) := px_tab_at tX9_hourGoes_ok 66 (e := (114, 3, .if_icmp .ne 14, 0, 0, .null)) rfl
theorem eX9_hourGoes_131 : decode mX9_hourGoes.2.1 131 = .ok (.goto (-40), 3) := px_tab_at tX9_hourGoes_ok 75 (e := (131, 3, .goto (-40), 0, 0, .null)) rfl
theorem eX9_hourGoes_137 : decode mX9_hourGoes.2.1 137 = .ok (.goto (-77), 3) := px_tab_at tX9_hourGoes_ok 77 (e := (137, 3, .goto (-77), 0, 0, .null)) rfl
theorem eX9_hourGoes_154 : decode mX9_hourGoes.2.1 154 = .ok (.if_icmp .lt 62, 3) := px_tab_at tX9_hourGoes_ok 88 (e := (154, 3, .if_icmp .lt 62, 0, 0, .null)) rfl
theorem eX9_hourGoes_169 : decode mX9_hourGoes.2.1 169 = .ok (.if_icmp .ge 41, 3) := px_tab_at tX9_hourGoes_ok 97 (e := (169, 3, .if_icmp .ge 41, 0, 0, .null)) rfl
theorem eX9_hourGoes_179 : decode mX9_hourGoes.2.1 179 = .ok (.if_icmp .ne 25, 3) := px_tab_at tX9_hourGoes_ok 103 (e := (179, 3, .if_icmp .ne 25, 0, 0, .null)) rfl
theorem eX9_hourGoes_193 : decode mX9_hourGoes.2.1 193 = .ok (.if_icmp .ne 6, 3) := px_tab_at tX9_hourGoes_ok 111 (e := (193, 3, .if_icmp .ne 6, 0, 0, .null)) rfl
theorem eX9_hourGoes_196 : decode mX9_hourGoes.2.1 196 = .ok (.goto 8, 3) := px_tab_at tX9_hourGoes_ok 112 (e := (196, 3, .goto 8, 0, 0, .null)) rfl
theorem eX9_hourGoes_201 : decode mX9_hourGoes.2.1 201 = .ok (.invokevirtual 391, 3) := px_tab_at tX9_hourGoes_ok 115 (e := (201, 3, .invokevirtual 391, 0, 0, .null)) rfl
theorem eX9_hourGoes_207 : decode mX9_hourGoes.2.1 207 = .ok (.goto (-48), 3) := px_tab_at tX9_hourGoes_ok 117 (e := (207, 3, .goto (-48), 0, 0, .null)) rfl
theorem eX9_hourGoes_213 : decode mX9_hourGoes.2.1 213 = .ok (.goto (-61), 3) := px_tab_at tX9_hourGoes_ok 119 (e := (213, 3, .goto (-61), 0, 0, .null)) rfl
theorem eX9_hourGoes_216 : decode mX9_hourGoes.2.1 216 = .ok (.return_, 1) := px_tab_at tX9_hourGoes_ok 120 (e := (216, 1, .return_, 0, 0, .null)) rfl
theorem eX9_goes_4 : decode mX9_goes.2.1 4 = .ok (.if_icmp .ge 13, 3) := px_tab_at tX9_goes_ok 4 (e := (4, 3, .if_icmp .ge 13, 0, 0, .null)) rfl
theorem eX9_goes_8 : decode mX9_goes.2.1 8 = .ok (.invokevirtual 394, 3) := px_tab_at tX9_goes_ok 6 (e := (8, 3, .invokevirtual 394, 0, 0, .null)) rfl
theorem eX9_goes_14 : decode mX9_goes.2.1 14 = .ok (.goto (-12), 3) := px_tab_at tX9_goes_ok 8 (e := (14, 3, .goto (-12), 0, 0, .null)) rfl
theorem eX9_goes_17 : decode mX9_goes.2.1 17 = .ok (.return_, 1) := px_tab_at tX9_goes_ok 9 (e := (17, 1, .return_, 0, 0, .null)) rfl
theorem eX9_sleeper_2 : decode mX9_sleeper.2.1 2 = .ok (.invokevirtual 397, 3) := px_tab_at tX9_sleeper_ok 2 (e := (2, 3, .invokevirtual 397, 0, 0, .null)) rfl
theorem eX9_sleeper_5 : decode mX9_sleeper.2.1 5 = .ok (.ifCond .ne 5, 3) := px_tab_at tX9_sleeper_ok 3 (e := (5, 3, .ifCond .ne 5, 0, 0, .null)) rfl
theorem eX9_sleeper_9 : decode mX9_sleeper.2.1 9 = .ok (.ireturn, 1) := px_tab_at tX9_sleeper_ok 5 (e := (9, 1, .ireturn, 0, 0, .null)) rfl
theorem eX9_sleeper_11 : decode mX9_sleeper.2.1 11 = .ok (.invokevirtual 400, 3) := px_tab_at tX9_sleeper_ok 7 (e := (11, 3, .invokevirtual 400, 0, 0, .null)) rfl
theorem eX9_sleeper_15 : decode mX9_sleeper.2.1 15 = .ok (.tableswitch 104 0 5 #[37, 44, 59, 74, 84, 98], 37) := px_tab_at tX9_sleeper_ok 9 (e := (15, 37, .tableswitch 104 0 5 #[37, 44, 59, 74, 84, 98], 0, 0, .null)) rfl
theorem eX9_sleeper_58 : decode mX9_sleeper.2.1 58 = .ok (.ireturn, 1) := px_tab_at tX9_sleeper_ok 14 (e := (58, 1, .ireturn, 0, 0, .null)) rfl
theorem eX9_sleeper_73 : decode mX9_sleeper.2.1 73 = .ok (.ireturn, 1) := px_tab_at tX9_sleeper_ok 24 (e := (73, 1, .ireturn, 0, 0, .null)) rfl
theorem eX9_sleeper_88 : decode mX9_sleeper.2.1 88 = .ok (.ireturn, 1) := px_tab_at tX9_sleeper_ok 34 (e := (88, 1, .ireturn, 0, 0, .null)) rfl
theorem eX9_sleeper_98 : decode mX9_sleeper.2.1 98 = .ok (.ireturn, 1) := px_tab_at tX9_sleeper_ok 41 (e := (98, 1, .ireturn, 0, 0, .null)) rfl
theorem eX9_sleeper_101 : decode mX9_sleeper.2.1 101 = .ok (.invokevirtual 348, 3) := px_tab_at tX9_sleeper_ok 44 (e := (101, 3, .invokevirtual 348, 0, 0, .null)) rfl
theorem eX9_sleeper_104 : decode mX9_sleeper.2.1 104 = .ok (.ifCond .eq 7, 3) := px_tab_at tX9_sleeper_ok 45 (e := (104, 3, .ifCond .eq 7, 0, 0, .null)) rfl
theorem eX9_sleeper_108 : decode mX9_sleeper.2.1 108 = .ok (.goto 4, 3) := px_tab_at tX9_sleeper_ok 47 (e := (108, 3, .goto 4, 0, 0, .null)) rfl
theorem eX9_sleeper_112 : decode mX9_sleeper.2.1 112 = .ok (.ireturn, 1) := px_tab_at tX9_sleeper_ok 49 (e := (112, 1, .ireturn, 0, 0, .null)) rfl
theorem eX9_sleeper_115 : decode mX9_sleeper.2.1 115 = .ok (.invokevirtual 376, 3) := px_tab_at tX9_sleeper_ok 52 (e := (115, 3, .invokevirtual 376, 0, 0, .null)) rfl
theorem eX9_sleeper_118 : decode mX9_sleeper.2.1 118 = .ok (.ireturn, 1) := px_tab_at tX9_sleeper_ok 53 (e := (118, 1, .ireturn, 0, 0, .null)) rfl
theorem eX9_sleeper_120 : decode mX9_sleeper.2.1 120 = .ok (.ireturn, 1) := px_tab_at tX9_sleeper_ok 55 (e := (120, 1, .ireturn, 0, 0, .null)) rfl
theorem eX9_crosser_2 : decode mX9_crosser.2.1 2 = .ok (.invokevirtual 403, 3) := px_tab_at tX9_crosser_ok 2 (e := (2, 3, .invokevirtual 403, 0, 0, .null)) rfl
theorem eX9_crosser_5 : decode mX9_crosser.2.1 5 = .ok (.ifCond .ne 5, 3) := px_tab_at tX9_crosser_ok 3 (e := (5, 3, .ifCond .ne 5, 0, 0, .null)) rfl
theorem eX9_crosser_9 : decode mX9_crosser.2.1 9 = .ok (.ireturn, 1) := px_tab_at tX9_crosser_ok 5 (e := (9, 1, .ireturn, 0, 0, .null)) rfl
theorem eX9_crosser_11 : decode mX9_crosser.2.1 11 = .ok (.tableswitch 88 0 4 #[33, 47, 61, 75, 75], 33) := px_tab_at tX9_crosser_ok 7 (e := (11, 33, .tableswitch 88 0 4 #[33, 47, 61, 75, 75], 0, 0, .null)) rfl
theorem eX9_crosser_57 : decode mX9_crosser.2.1 57 = .ok (.ireturn, 1) := px_tab_at tX9_crosser_ok 17 (e := (57, 1, .ireturn, 0, 0, .null)) rfl
theorem eX9_crosser_71 : decode mX9_crosser.2.1 71 = .ok (.ireturn, 1) := px_tab_at tX9_crosser_ok 27 (e := (71, 1, .ireturn, 0, 0, .null)) rfl
theorem eX9_crosser_85 : decode mX9_crosser.2.1 85 = .ok (.ireturn, 1) := px_tab_at tX9_crosser_ok 37 (e := (85, 1, .ireturn, 0, 0, .null)) rfl
theorem eX9_crosser_98 : decode mX9_crosser.2.1 98 = .ok (.ireturn, 1) := px_tab_at tX9_crosser_ok 48 (e := (98, 1, .ireturn, 0, 0, .null)) rfl
theorem eX9_crosser_100 : decode mX9_crosser.2.1 100 = .ok (.ireturn, 1) := px_tab_at tX9_crosser_ok 50 (e := (100, 1, .ireturn, 0, 0, .null)) rfl
theorem eX9_bitsOf_9 : decode mX9_bitsOf.2.1 9 = .ok (.if_icmp .ge 31, 3) := px_tab_at tX9_bitsOf_ok 6 (e := (9, 3, .if_icmp .ge 31, 0, 0, .null)) rfl
theorem eX9_bitsOf_22 : decode mX9_bitsOf.2.1 22 = .ok (.if_icmp .ne 12, 3) := px_tab_at tX9_bitsOf_ok 14 (e := (22, 3, .if_icmp .ne 12, 0, 0, .null)) rfl
theorem eX9_bitsOf_37 : decode mX9_bitsOf.2.1 37 = .ok (.goto (-31), 3) := px_tab_at tX9_bitsOf_ok 22 (e := (37, 3, .goto (-31), 0, 0, .null)) rfl
theorem eX9_bitsOf_42 : decode mX9_bitsOf.2.1 42 = .ok (.ireturn, 1) := px_tab_at tX9_bitsOf_ok 24 (e := (42, 1, .ireturn, 0, 0, .null)) rfl
theorem eX9_span_2 : decode mX9_span.2.1 2 = .ok (.invokevirtual 406, 3) := px_tab_at tX9_span_ok 2 (e := (2, 3, .invokevirtual 406, 0, 0, .null)) rfl
theorem eX9_span_5 : decode mX9_span.2.1 5 = .ok (.ifCond .ne 5, 3) := px_tab_at tX9_span_ok 3 (e := (5, 3, .ifCond .ne 5, 0, 0, .null)) rfl
theorem eX9_span_9 : decode mX9_span.2.1 9 = .ok (.ireturn, 1) := px_tab_at tX9_span_ok 5 (e := (9, 1, .ireturn, 0, 0, .null)) rfl
theorem eX9_span_11 : decode mX9_span.2.1 11 = .ok (.invokevirtual 400, 3) := px_tab_at tX9_span_ok 7 (e := (11, 3, .invokevirtual 400, 0, 0, .null)) rfl
theorem eX9_span_15 : decode mX9_span.2.1 15 = .ok (.tableswitch 75 0 3 #[29, 35, 41, 58], 29) := px_tab_at tX9_span_ok 9 (e := (15, 29, .tableswitch 75 0 3 #[29, 35, 41, 58], 0, 0, .null)) rfl
theorem eX9_span_46 : decode mX9_span.2.1 46 = .ok (.invokevirtual 379, 3) := px_tab_at tX9_span_ok 12 (e := (46, 3, .invokevirtual 379, 0, 0, .null)) rfl
theorem eX9_span_49 : decode mX9_span.2.1 49 = .ok (.ireturn, 1) := px_tab_at tX9_span_ok 13 (e := (49, 1, .ireturn, 0, 0, .null)) rfl
theorem eX9_span_52 : decode mX9_span.2.1 52 = .ok (.invokevirtual 354, 3) := px_tab_at tX9_span_ok 16 (e := (52, 3, .invokevirtual 354, 0, 0, .null)) rfl
theorem eX9_span_55 : decode mX9_span.2.1 55 = .ok (.ireturn, 1) := px_tab_at tX9_span_ok 17 (e := (55, 1, .ireturn, 0, 0, .null)) rfl
theorem eX9_span_69 : decode mX9_span.2.1 69 = .ok (.invokevirtual 409, 3) := px_tab_at tX9_span_ok 26 (e := (69, 3, .invokevirtual 409, 0, 0, .null)) rfl
theorem eX9_span_72 : decode mX9_span.2.1 72 = .ok (.ireturn, 1) := px_tab_at tX9_span_ok 27 (e := (72, 1, .ireturn, 0, 0, .null)) rfl
theorem eX9_span_86 : decode mX9_span.2.1 86 = .ok (.invokevirtual 409, 3) := px_tab_at tX9_span_ok 36 (e := (86, 3, .invokevirtual 409, 0, 0, .null)) rfl
theorem eX9_span_89 : decode mX9_span.2.1 89 = .ok (.ireturn, 1) := px_tab_at tX9_span_ok 37 (e := (89, 1, .ireturn, 0, 0, .null)) rfl
theorem eX9_span_91 : decode mX9_span.2.1 91 = .ok (.ireturn, 1) := px_tab_at tX9_span_ok 39 (e := (91, 1, .ireturn, 0, 0, .null)) rfl
theorem eX9_tells_2 : decode mX9_tells.2.1 2 = .ok (.invokevirtual 397, 3) := px_tab_at tX9_tells_ok 2 (e := (2, 3, .invokevirtual 397, 0, 0, .null)) rfl
theorem eX9_tells_5 : decode mX9_tells.2.1 5 = .ok (.ifCond .eq 12, 3) := px_tab_at tX9_tells_ok 3 (e := (5, 3, .ifCond .eq 12, 0, 0, .null)) rfl
theorem eX9_tells_11 : decode mX9_tells.2.1 11 = .ok (.invokestatic 331, 3) := px_tab_at tX9_tells_ok 7 (e := (11, 3, .invokestatic 331, 0, 0, .null)) rfl
theorem eX9_tells_14 : decode mX9_tells.2.1 14 = .ok (.ifCond .ne 6, 3) := px_tab_at tX9_tells_ok 8 (e := (14, 3, .ifCond .ne 6, 0, 0, .null)) rfl
theorem eX9_tells_19 : decode mX9_tells.2.1 19 = .ok (.ireturn, 1) := px_tab_at tX9_tells_ok 10 (e := (19, 1, .ireturn, 0, 0, .null)) rfl
theorem eX9_tells_21 : decode mX9_tells.2.1 21 = .ok (.invokevirtual 400, 3) := px_tab_at tX9_tells_ok 12 (e := (21, 3, .invokevirtual 400, 0, 0, .null)) rfl
theorem eX9_tells_26 : decode mX9_tells.2.1 26 = .ok (.invokevirtual 348, 3) := px_tab_at tX9_tells_ok 15 (e := (26, 3, .invokevirtual 348, 0, 0, .null)) rfl
theorem eX9_tells_29 : decode mX9_tells.2.1 29 = .ok (.ifCond .ne 6, 3) := px_tab_at tX9_tells_ok 16 (e := (29, 3, .ifCond .ne 6, 0, 0, .null)) rfl
theorem eX9_tells_34 : decode mX9_tells.2.1 34 = .ok (.ireturn, 1) := px_tab_at tX9_tells_ok 18 (e := (34, 1, .ireturn, 0, 0, .null)) rfl
theorem eX9_tells_36 : decode mX9_tells.2.1 36 = .ok (.ifCond .ne 16, 3) := px_tab_at tX9_tells_ok 20 (e := (36, 3, .ifCond .ne 16, 0, 0, .null)) rfl
theorem eX9_tells_46 : decode mX9_tells.2.1 46 = .ok (.invokevirtual 369, 3) := px_tab_at tX9_tells_ok 27 (e := (46, 3, .invokevirtual 369, 0, 0, .null)) rfl
theorem eX9_tells_49 : decode mX9_tells.2.1 49 = .ok (.goto 14, 3) := px_tab_at tX9_tells_ok 28 (e := (49, 3, .goto 14, 0, 0, .null)) rfl
theorem eX9_tells_60 : decode mX9_tells.2.1 60 = .ok (.invokevirtual 369, 3) := px_tab_at tX9_tells_ok 35 (e := (60, 3, .invokevirtual 369, 0, 0, .null)) rfl
theorem eX9_tells_63 : decode mX9_tells.2.1 63 = .ok (.ireturn, 1) := px_tab_at tX9_tells_ok 36 (e := (63, 1, .ireturn, 0, 0, .null)) rfl
theorem eX9_dreams_2 : decode mX9_dreams.2.1 2 = .ok (.invokevirtual 406, 3) := px_tab_at tX9_dreams_ok 2 (e := (2, 3, .invokevirtual 406, 0, 0, .null)) rfl
theorem eX9_dreams_5 : decode mX9_dreams.2.1 5 = .ok (.ifCond .ne 5, 3) := px_tab_at tX9_dreams_ok 3 (e := (5, 3, .ifCond .ne 5, 0, 0, .null)) rfl
theorem eX9_dreams_9 : decode mX9_dreams.2.1 9 = .ok (.ireturn, 1) := px_tab_at tX9_dreams_ok 5 (e := (9, 1, .ireturn, 0, 0, .null)) rfl
theorem eX9_dreams_11 : decode mX9_dreams.2.1 11 = .ok (.invokevirtual 400, 3) := px_tab_at tX9_dreams_ok 7 (e := (11, 3, .invokevirtual 400, 0, 0, .null)) rfl
theorem eX9_dreams_16 : decode mX9_dreams.2.1 16 = .ok (.invokevirtual 373, 3) := px_tab_at tX9_dreams_ok 10 (e := (16, 3, .invokevirtual 373, 0, 0, .null)) rfl
theorem eX9_dreams_19 : decode mX9_dreams.2.1 19 = .ok (.ireturn, 1) := px_tab_at tX9_dreams_ok 11 (e := (19, 1, .ireturn, 0, 0, .null)) rfl
theorem eX9_keeps_6 : decode mX9_keeps.2.1 6 = .ok (.if_icmp .ne 43, 3) := px_tab_at tX9_keeps_ok 3 (e := (6, 3, .if_icmp .ne 43, 0, 0, .null)) rfl
theorem eX9_keeps_15 : decode mX9_keeps.2.1 15 = .ok (.if_icmp .ge 24, 3) := px_tab_at tX9_keeps_ok 8 (e := (15, 3, .if_icmp .ge 24, 0, 0, .null)) rfl
theorem eX9_keeps_36 : decode mX9_keeps.2.1 36 = .ok (.goto (-25), 3) := px_tab_at tX9_keeps_ok 20 (e := (36, 3, .goto (-25), 0, 0, .null)) rfl
theorem eX9_keeps_54 : decode mX9_keeps.2.1 54 = .ok (.if_icmp .ge 29, 3) := px_tab_at tX9_keeps_ok 31 (e := (54, 3, .if_icmp .ge 29, 0, 0, .null)) rfl
theorem eX9_keeps_80 : decode mX9_keeps.2.1 80 = .ok (.goto (-29), 3) := px_tab_at tX9_keeps_ok 46 (e := (80, 3, .goto (-29), 0, 0, .null)) rfl
theorem eX9_keeps_94 : decode mX9_keeps.2.1 94 = .ok (.invokevirtual 175, 3) := px_tab_at tX9_keeps_ok 54 (e := (94, 3, .invokevirtual 175, 0, 0, .null)) rfl
theorem eX9_keeps_97 : decode mX9_keeps.2.1 97 = .ok (.return_, 1) := px_tab_at tX9_keeps_ok 55 (e := (97, 1, .return_, 0, 0, .null)) rfl
theorem eX9_send_2 : decode mX9_send.2.1 2 = .ok (.invokevirtual 403, 3) := px_tab_at tX9_send_ok 2 (e := (2, 3, .invokevirtual 403, 0, 0, .null)) rfl
theorem eX9_send_5 : decode mX9_send.2.1 5 = .ok (.ifCond .eq 17, 3) := px_tab_at tX9_send_ok 3 (e := (5, 3, .ifCond .eq 17, 0, 0, .null)) rfl
theorem eX9_send_19 : decode mX9_send.2.1 19 = .ok (.if_icmp .eq 5, 3) := px_tab_at tX9_send_ok 11 (e := (19, 3, .if_icmp .eq 5, 0, 0, .null)) rfl
theorem eX9_send_23 : decode mX9_send.2.1 23 = .ok (.ireturn, 1) := px_tab_at tX9_send_ok 13 (e := (23, 1, .ireturn, 0, 0, .null)) rfl
theorem eX9_send_25 : decode mX9_send.2.1 25 = .ok (.invokevirtual 400, 3) := px_tab_at tX9_send_ok 15 (e := (25, 3, .invokevirtual 400, 0, 0, .null)) rfl
theorem eX9_send_40 : decode mX9_send.2.1 40 = .ok (.invokevirtual 412, 3) := px_tab_at tX9_send_ok 24 (e := (40, 3, .invokevirtual 412, 0, 0, .null)) rfl
theorem eX9_send_44 : decode mX9_send.2.1 44 = .ok (.ireturn, 1) := px_tab_at tX9_send_ok 26 (e := (44, 1, .ireturn, 0, 0, .null)) rfl
theorem eX9_lay_2 : decode mX9_lay.2.1 2 = .ok (.invokevirtual 397, 3) := px_tab_at tX9_lay_ok 2 (e := (2, 3, .invokevirtual 397, 0, 0, .null)) rfl
theorem eX9_lay_5 : decode mX9_lay.2.1 5 = .ok (.ifCond .eq 24, 3) := px_tab_at tX9_lay_ok 3 (e := (5, 3, .ifCond .eq 24, 0, 0, .null)) rfl
theorem eX9_lay_10 : decode mX9_lay.2.1 10 = .ok (.invokevirtual 406, 3) := px_tab_at tX9_lay_ok 6 (e := (10, 3, .invokevirtual 406, 0, 0, .null)) rfl
theorem eX9_lay_13 : decode mX9_lay.2.1 13 = .ok (.ifCond .eq 16, 3) := px_tab_at tX9_lay_ok 7 (e := (13, 3, .ifCond .eq 16, 0, 0, .null)) rfl
theorem eX9_lay_26 : decode mX9_lay.2.1 26 = .ok (.if_icmp .ne 5, 3) := px_tab_at tX9_lay_ok 15 (e := (26, 3, .if_icmp .ne 5, 0, 0, .null)) rfl
theorem eX9_lay_30 : decode mX9_lay.2.1 30 = .ok (.ireturn, 1) := px_tab_at tX9_lay_ok 17 (e := (30, 1, .ireturn, 0, 0, .null)) rfl
theorem eX9_lay_32 : decode mX9_lay.2.1 32 = .ok (.invokevirtual 400, 3) := px_tab_at tX9_lay_ok 19 (e := (32, 3, .invokevirtual 400, 0, 0, .null)) rfl
theorem eX9_lay_46 : decode mX9_lay.2.1 46 = .ok (.invokevirtual 412, 3) := px_tab_at tX9_lay_ok 28 (e := (46, 3, .invokevirtual 412, 0, 0, .null)) rfl
theorem eX9_lay_50 : decode mX9_lay.2.1 50 = .ok (.ireturn, 1) := px_tab_at tX9_lay_ok 30 (e := (50, 1, .ireturn, 0, 0, .null)) rfl
theorem eX9_lull_2 : decode mX9_lull.2.1 2 = .ok (.invokevirtual 397, 3) := px_tab_at tX9_lull_ok 2 (e := (2, 3, .invokevirtual 397, 0, 0, .null)) rfl
theorem eX9_lull_5 : decode mX9_lull.2.1 5 = .ok (.ifCond .ne 5, 3) := px_tab_at tX9_lull_ok 3 (e := (5, 3, .ifCond .ne 5, 0, 0, .null)) rfl
theorem eX9_lull_9 : decode mX9_lull.2.1 9 = .ok (.ireturn, 1) := px_tab_at tX9_lull_ok 5 (e := (9, 1, .ireturn, 0, 0, .null)) rfl
theorem eX9_lull_11 : decode mX9_lull.2.1 11 = .ok (.invokevirtual 400, 3) := px_tab_at tX9_lull_ok 7 (e := (11, 3, .invokevirtual 400, 0, 0, .null)) rfl
theorem eX9_lull_16 : decode mX9_lull.2.1 16 = .ok (.invokevirtual 348, 3) := px_tab_at tX9_lull_ok 10 (e := (16, 3, .invokevirtual 348, 0, 0, .null)) rfl
theorem eX9_lull_19 : decode mX9_lull.2.1 19 = .ok (.ifCond .ne 22, 3) := px_tab_at tX9_lull_ok 11 (e := (19, 3, .ifCond .ne 22, 0, 0, .null)) rfl
theorem eX9_lull_38 : decode mX9_lull.2.1 38 = .ok (.if_icmp .lt 6, 3) := px_tab_at tX9_lull_ok 21 (e := (38, 3, .if_icmp .lt 6, 0, 0, .null)) rfl
theorem eX9_lull_43 : decode mX9_lull.2.1 43 = .ok (.ireturn, 1) := px_tab_at tX9_lull_ok 23 (e := (43, 1, .ireturn, 0, 0, .null)) rfl
theorem eX9_lull_71 : decode mX9_lull.2.1 71 = .ok (.invokestatic 363, 3) := px_tab_at tX9_lull_ok 42 (e := (71, 3, .invokestatic 363, 0, 0, .null)) rfl
theorem eX9_lull_76 : decode mX9_lull.2.1 76 = .ok (.invokevirtual 412, 3) := px_tab_at tX9_lull_ok 45 (e := (76, 3, .invokevirtual 412, 0, 0, .null)) rfl
theorem eX9_lull_85 : decode mX9_lull.2.1 85 = .ok (.ireturn, 1) := px_tab_at tX9_lull_ok 50 (e := (85, 1, .ireturn, 0, 0, .null)) rfl
theorem eX9_hours_4 : decode mX9_hours.2.1 4 = .ok (.invokestatic 331, 3) := px_tab_at tX9_hours_ok 3 (e := (4, 3, .invokestatic 331, 0, 0, .null)) rfl
theorem eX9_hours_7 : decode mX9_hours.2.1 7 = .ok (.ifCond .ne 5, 3) := px_tab_at tX9_hours_ok 4 (e := (7, 3, .ifCond .ne 5, 0, 0, .null)) rfl
theorem eX9_hours_11 : decode mX9_hours.2.1 11 = .ok (.ireturn, 1) := px_tab_at tX9_hours_ok 6 (e := (11, 1, .ireturn, 0, 0, .null)) rfl
theorem eX9_hours_13 : decode mX9_hours.2.1 13 = .ok (.ifCond .ne 11, 3) := px_tab_at tX9_hours_ok 8 (e := (13, 3, .ifCond .ne 11, 0, 0, .null)) rfl
theorem eX9_hours_23 : decode mX9_hours.2.1 23 = .ok (.ireturn, 1) := px_tab_at tX9_hours_ok 13 (e := (23, 1, .ireturn, 0, 0, .null)) rfl
theorem eX9_hours_25 : decode mX9_hours.2.1 25 = .ok (.invokevirtual 400, 3) := px_tab_at tX9_hours_ok 15 (e := (25, 3, .invokevirtual 400, 0, 0, .null)) rfl
theorem eX9_hours_30 : decode mX9_hours.2.1 30 = .ok (.invokevirtual 415, 3) := px_tab_at tX9_hours_ok 18 (e := (30, 3, .invokevirtual 415, 0, 0, .null)) rfl
theorem eX9_hours_34 : decode mX9_hours.2.1 34 = .ok (.invokevirtual 412, 3) := px_tab_at tX9_hours_ok 20 (e := (34, 3, .invokevirtual 412, 0, 0, .null)) rfl
theorem eX9_hours_44 : decode mX9_hours.2.1 44 = .ok (.ireturn, 1) := px_tab_at tX9_hours_ok 25 (e := (44, 1, .ireturn, 0, 0, .null)) rfl
theorem eX9_night_1 : decode mX9_night.2.1 1 = .ok (.invokevirtual 400, 3) := px_tab_at tX9_night_ok 1 (e := (1, 3, .invokevirtual 400, 0, 0, .null)) rfl
theorem eX9_night_5 : decode mX9_night.2.1 5 = .ok (.invokevirtual 335, 3) := px_tab_at tX9_night_ok 3 (e := (5, 3, .invokevirtual 335, 0, 0, .null)) rfl
theorem eX9_night_20 : decode mX9_night.2.1 20 = .ok (.if_icmp .ge 74, 3) := px_tab_at tX9_night_ok 12 (e := (20, 3, .if_icmp .ge 74, 0, 0, .null)) rfl
theorem eX9_night_34 : decode mX9_night.2.1 34 = .ok (.if_icmp .eq 17, 3) := px_tab_at tX9_night_ok 20 (e := (34, 3, .if_icmp .eq 17, 0, 0, .null)) rfl
theorem eX9_night_48 : decode mX9_night.2.1 48 = .ok (.if_icmp .ne 17, 3) := px_tab_at tX9_night_ok 28 (e := (48, 3, .if_icmp .ne 17, 0, 0, .null)) rfl
theorem eX9_night_62 : decode mX9_night.2.1 62 = .ok (.goto 26, 3) := px_tab_at tX9_night_ok 36 (e := (62, 3, .goto 26, 0, 0, .null)) rfl
theorem eX9_night_74 : decode mX9_night.2.1 74 = .ok (.ifCond .lt 14, 3) := px_tab_at tX9_night_ok 43 (e := (74, 3, .ifCond .lt 14, 0, 0, .null)) rfl
theorem eX9_night_91 : decode mX9_night.2.1 91 = .ok (.goto (-81), 3) := px_tab_at tX9_night_ok 52 (e := (91, 3, .goto (-81), 0, 0, .null)) rfl
theorem eX9_night_95 : decode mX9_night.2.1 95 = .ok (.invokevirtual 412, 3) := px_tab_at tX9_night_ok 54 (e := (95, 3, .invokevirtual 412, 0, 0, .null)) rfl
theorem eX9_night_105 : decode mX9_night.2.1 105 = .ok (.ireturn, 1) := px_tab_at tX9_night_ok 59 (e := (105, 1, .ireturn, 0, 0, .null)) rfl
theorem eX9_undo_4 : decode mX9_undo.2.1 4 = .ok (.ifCond .ne 5, 3) := px_tab_at tX9_undo_ok 2 (e := (4, 3, .ifCond .ne 5, 0, 0, .null)) rfl
theorem eX9_undo_8 : decode mX9_undo.2.1 8 = .ok (.ireturn, 1) := px_tab_at tX9_undo_ok 4 (e := (8, 1, .ireturn, 0, 0, .null)) rfl
theorem eX9_undo_24 : decode mX9_undo.2.1 24 = .ok (.if_icmp .ge 29, 3) := px_tab_at tX9_undo_ok 15 (e := (24, 3, .if_icmp .ge 29, 0, 0, .null)) rfl
theorem eX9_undo_50 : decode mX9_undo.2.1 50 = .ok (.goto (-29), 3) := px_tab_at tX9_undo_ok 30 (e := (50, 3, .goto (-29), 0, 0, .null)) rfl
theorem eX9_undo_54 : decode mX9_undo.2.1 54 = .ok (.ireturn, 1) := px_tab_at tX9_undo_ok 32 (e := (54, 1, .ireturn, 0, 0, .null)) rfl
theorem eX9_isLong_4 : decode mX9_isLong.2.1 4 = .ok (.invokestatic 331, 3) := px_tab_at tX9_isLong_ok 3 (e := (4, 3, .invokestatic 331, 0, 0, .null)) rfl
theorem eX9_isLong_7 : decode mX9_isLong.2.1 7 = .ok (.ireturn, 1) := px_tab_at tX9_isLong_ok 4 (e := (7, 1, .ireturn, 0, 0, .null)) rfl
theorem eX9_then_1 : decode mX9_then.2.1 1 = .ok (.invokestatic 418, 3) := px_tab_at tX9_then_ok 1 (e := (1, 3, .invokestatic 418, 0, 0, .null)) rfl
theorem eX9_then_4 : decode mX9_then.2.1 4 = .ok (.ifCond .eq 39, 3) := px_tab_at tX9_then_ok 2 (e := (4, 3, .ifCond .eq 39, 0, 0, .null)) rfl
theorem eX9_then_10 : decode mX9_then.2.1 10 = .ok (.invokestatic 331, 3) := px_tab_at tX9_then_ok 6 (e := (10, 3, .invokestatic 331, 0, 0, .null)) rfl
theorem eX9_then_13 : decode mX9_then.2.1 13 = .ok (.ifCond .eq 30, 3) := px_tab_at tX9_then_ok 7 (e := (13, 3, .ifCond .eq 30, 0, 0, .null)) rfl
theorem eX9_then_17 : decode mX9_then.2.1 17 = .ok (.ifCond .ne 12, 3) := px_tab_at tX9_then_ok 9 (e := (17, 3, .ifCond .ne 12, 0, 0, .null)) rfl
theorem eX9_then_23 : decode mX9_then.2.1 23 = .ok (.invokevirtual 403, 3) := px_tab_at tX9_then_ok 12 (e := (23, 3, .invokevirtual 403, 0, 0, .null)) rfl
theorem eX9_then_26 : decode mX9_then.2.1 26 = .ok (.ifCond .eq 17, 3) := px_tab_at tX9_then_ok 13 (e := (26, 3, .ifCond .eq 17, 0, 0, .null)) rfl
theorem eX9_then_31 : decode mX9_then.2.1 31 = .ok (.if_icmp .ne 15, 3) := px_tab_at tX9_then_ok 16 (e := (31, 3, .if_icmp .ne 15, 0, 0, .null)) rfl
theorem eX9_then_37 : decode mX9_then.2.1 37 = .ok (.invokevirtual 406, 3) := px_tab_at tX9_then_ok 19 (e := (37, 3, .invokevirtual 406, 0, 0, .null)) rfl
theorem eX9_then_40 : decode mX9_then.2.1 40 = .ok (.ifCond .ne 6, 3) := px_tab_at tX9_then_ok 20 (e := (40, 3, .ifCond .ne 6, 0, 0, .null)) rfl
theorem eX9_then_45 : decode mX9_then.2.1 45 = .ok (.ireturn, 1) := px_tab_at tX9_then_ok 22 (e := (45, 1, .ireturn, 0, 0, .null)) rfl
theorem eX9_then_47 : decode mX9_then.2.1 47 = .ok (.invokevirtual 400, 3) := px_tab_at tX9_then_ok 24 (e := (47, 3, .invokevirtual 400, 0, 0, .null)) rfl
theorem eX9_then_57 : decode mX9_then.2.1 57 = .ok (.invokevirtual 415, 3) := px_tab_at tX9_then_ok 30 (e := (57, 3, .invokevirtual 415, 0, 0, .null)) rfl
theorem eX9_then_61 : decode mX9_then.2.1 61 = .ok (.tableswitch 98 0 4 #[35, 46, 53, 61, 77], 35) := px_tab_at tX9_then_ok 32 (e := (61, 35, .tableswitch 98 0 4 #[35, 46, 53, 61, 77], 0, 0, .null)) rfl
theorem eX9_then_106 : decode mX9_then.2.1 106 = .ok (.ireturn, 1) := px_tab_at tX9_then_ok 39 (e := (106, 1, .ireturn, 0, 0, .null)) rfl
theorem eX9_then_110 : decode mX9_then.2.1 110 = .ok (.invokevirtual 379, 3) := px_tab_at tX9_then_ok 42 (e := (110, 3, .invokevirtual 379, 0, 0, .null)) rfl
theorem eX9_then_113 : decode mX9_then.2.1 113 = .ok (.ireturn, 1) := px_tab_at tX9_then_ok 43 (e := (113, 1, .ireturn, 0, 0, .null)) rfl
theorem eX9_then_115 : decode mX9_then.2.1 115 = .ok (.invokevirtual 421, 3) := px_tab_at tX9_then_ok 45 (e := (115, 3, .invokevirtual 421, 0, 0, .null)) rfl
theorem eX9_then_118 : decode mX9_then.2.1 118 = .ok (.invokestatic 424, 3) := px_tab_at tX9_then_ok 46 (e := (118, 3, .invokestatic 424, 0, 0, .null)) rfl
theorem eX9_then_121 : decode mX9_then.2.1 121 = .ok (.ireturn, 1) := px_tab_at tX9_then_ok 47 (e := (121, 1, .ireturn, 0, 0, .null)) rfl
theorem eX9_then_137 : decode mX9_then.2.1 137 = .ok (.ireturn, 1) := px_tab_at tX9_then_ok 57 (e := (137, 1, .ireturn, 0, 0, .null)) rfl
theorem eX9_then_152 : decode mX9_then.2.1 152 = .ok (.invokevirtual 409, 3) := px_tab_at tX9_then_ok 66 (e := (152, 3, .invokevirtual 409, 0, 0, .null)) rfl
theorem eX9_then_155 : decode mX9_then.2.1 155 = .ok (.invokestatic 424, 3) := px_tab_at tX9_then_ok 67 (e := (155, 3, .invokestatic 424, 0, 0, .null)) rfl
theorem eX9_then_158 : decode mX9_then.2.1 158 = .ok (.ireturn, 1) := px_tab_at tX9_then_ok 68 (e := (158, 1, .ireturn, 0, 0, .null)) rfl
theorem eX9_then_160 : decode mX9_then.2.1 160 = .ok (.invokevirtual 427, 3) := px_tab_at tX9_then_ok 70 (e := (160, 3, .invokevirtual 427, 0, 0, .null)) rfl
theorem eX9_then_163 : decode mX9_then.2.1 163 = .ok (.ireturn, 1) := px_tab_at tX9_then_ok 71 (e := (163, 1, .ireturn, 0, 0, .null)) rfl
theorem eX9_fives_6 : decode mX9_fives.2.1 6 = .ok (.if_icmp .ge 13, 3) := px_tab_at tX9_fives_ok 6 (e := (6, 3, .if_icmp .ge 13, 0, 0, .null)) rfl
theorem eX9_fives_16 : decode mX9_fives.2.1 16 = .ok (.goto (-12), 3) := px_tab_at tX9_fives_ok 12 (e := (16, 3, .goto (-12), 0, 0, .null)) rfl
theorem eX9_fives_20 : decode mX9_fives.2.1 20 = .ok (.ireturn, 1) := px_tab_at tX9_fives_ok 14 (e := (20, 1, .ireturn, 0, 0, .null)) rfl
theorem eX9_lieSo_12 : decode mX9_lieSo.2.1 12 = .ok (.if_icmp .ge 56, 3) := px_tab_at tX9_lieSo_ok 8 (e := (12, 3, .if_icmp .ge 56, 0, 0, .null)) rfl
theorem eX9_lieSo_37 : decode mX9_lieSo.2.1 37 = .ok (.invokestatic 430, 3) := px_tab_at tX9_lieSo_ok 24 (e := (37, 3, .invokestatic 430, 0, 0, .null)) rfl
theorem eX9_lieSo_54 : decode mX9_lieSo.2.1 54 = .ok (.invokevirtual 406, 3) := px_tab_at tX9_lieSo_ok 36 (e := (54, 3, .invokevirtual 406, 0, 0, .null)) rfl
theorem eX9_lieSo_57 : decode mX9_lieSo.2.1 57 = .ok (.ifCond .ne 5, 3) := px_tab_at tX9_lieSo_ok 37 (e := (57, 3, .ifCond .ne 5, 0, 0, .null)) rfl
theorem eX9_lieSo_61 : decode mX9_lieSo.2.1 61 = .ok (.ireturn, 1) := px_tab_at tX9_lieSo_ok 39 (e := (61, 1, .ireturn, 0, 0, .null)) rfl
theorem eX9_lieSo_65 : decode mX9_lieSo.2.1 65 = .ok (.goto (-63), 3) := px_tab_at tX9_lieSo_ok 41 (e := (65, 3, .goto (-63), 0, 0, .null)) rfl
theorem eX9_lieSo_69 : decode mX9_lieSo.2.1 69 = .ok (.ireturn, 1) := px_tab_at tX9_lieSo_ok 43 (e := (69, 1, .ireturn, 0, 0, .null)) rfl
theorem eX9_weakest_2 : decode mX9_weakest.2.1 2 = .ok (.if_icmp .eq 13, 3) := px_tab_at tX9_weakest_ok 2 (e := (2, 3, .if_icmp .eq 13, 0, 0, .null)) rfl
theorem eX9_weakest_7 : decode mX9_weakest.2.1 7 = .ok (.invokevirtual 397, 3) := px_tab_at tX9_weakest_ok 5 (e := (7, 3, .invokevirtual 397, 0, 0, .null)) rfl
theorem eX9_weakest_10 : decode mX9_weakest.2.1 10 = .ok (.ifCond .ne 5, 3) := px_tab_at tX9_weakest_ok 6 (e := (10, 3, .ifCond .ne 5, 0, 0, .null)) rfl
theorem eX9_weakest_14 : decode mX9_weakest.2.1 14 = .ok (.ireturn, 1) := px_tab_at tX9_weakest_ok 8 (e := (14, 1, .ireturn, 0, 0, .null)) rfl
theorem eX9_weakest_16 : decode mX9_weakest.2.1 16 = .ok (.invokevirtual 400, 3) := px_tab_at tX9_weakest_ok 10 (e := (16, 3, .invokevirtual 400, 0, 0, .null)) rfl
theorem eX9_weakest_36 : decode mX9_weakest.2.1 36 = .ok (.invokestatic 430, 3) := px_tab_at tX9_weakest_ok 22 (e := (36, 3, .invokestatic 430, 0, 0, .null)) rfl
theorem eX9_weakest_39 : decode mX9_weakest.2.1 39 = .ok (.if_icmp .ge 53, 3) := px_tab_at tX9_weakest_ok 23 (e := (39, 3, .if_icmp .ge 53, 0, 0, .null)) rfl
theorem eX9_weakest_44 : decode mX9_weakest.2.1 44 = .ok (.invokevirtual 436, 3) := px_tab_at tX9_weakest_ok 26 (e := (44, 3, .invokevirtual 436, 0, 0, .null)) rfl
theorem eX9_weakest_47 : decode mX9_weakest.2.1 47 = .ok (.ifCond .ne 6, 3) := px_tab_at tX9_weakest_ok 27 (e := (47, 3, .ifCond .ne 6, 0, 0, .null)) rfl
theorem eX9_weakest_50 : decode mX9_weakest.2.1 50 = .ok (.goto 36, 3) := px_tab_at tX9_weakest_ok 28 (e := (50, 3, .goto 36, 0, 0, .null)) rfl
theorem eX9_weakest_54 : decode mX9_weakest.2.1 54 = .ok (.invokevirtual 427, 3) := px_tab_at tX9_weakest_ok 30 (e := (54, 3, .invokevirtual 427, 0, 0, .null)) rfl
theorem eX9_weakest_62 : decode mX9_weakest.2.1 62 = .ok (.ifCond .lt 14, 3) := px_tab_at tX9_weakest_ok 34 (e := (62, 3, .ifCond .lt 14, 0, 0, .null)) rfl
theorem eX9_weakest_70 : decode mX9_weakest.2.1 70 = .ok (.if_icmp .gt 6, 3) := px_tab_at tX9_weakest_ok 38 (e := (70, 3, .if_icmp .gt 6, 0, 0, .null)) rfl
theorem eX9_weakest_73 : decode mX9_weakest.2.1 73 = .ok (.goto 13, 3) := px_tab_at tX9_weakest_ok 39 (e := (73, 3, .goto 13, 0, 0, .null)) rfl
theorem eX9_weakest_89 : decode mX9_weakest.2.1 89 = .ok (.goto (-63), 3) := px_tab_at tX9_weakest_ok 47 (e := (89, 3, .goto (-63), 0, 0, .null)) rfl
theorem eX9_weakest_94 : decode mX9_weakest.2.1 94 = .ok (.if_icmp .ne 10, 3) := px_tab_at tX9_weakest_ok 50 (e := (94, 3, .if_icmp .ne 10, 0, 0, .null)) rfl
theorem eX9_weakest_101 : decode mX9_weakest.2.1 101 = .ok (.goto 26, 3) := px_tab_at tX9_weakest_ok 53 (e := (101, 3, .goto 26, 0, 0, .null)) rfl
theorem eX9_weakest_121 : decode mX9_weakest.2.1 121 = .ok (.invokestatic 430, 3) := px_tab_at tX9_weakest_ok 65 (e := (121, 3, .invokestatic 430, 0, 0, .null)) rfl
theorem eX9_weakest_127 : decode mX9_weakest.2.1 127 = .ok (.ireturn, 1) := px_tab_at tX9_weakest_ok 69 (e := (127, 1, .ireturn, 0, 0, .null)) rfl
theorem eX9_better_3 : decode mX9_better.2.1 3 = .ok (.invokestatic 331, 3) := px_tab_at tX9_better_ok 3 (e := (3, 3, .invokestatic 331, 0, 0, .null)) rfl
theorem eX9_better_6 : decode mX9_better.2.1 6 = .ok (.ifCond .ne 5, 3) := px_tab_at tX9_better_ok 4 (e := (6, 3, .ifCond .ne 5, 0, 0, .null)) rfl
theorem eX9_better_10 : decode mX9_better.2.1 10 = .ok (.ireturn, 1) := px_tab_at tX9_better_ok 6 (e := (10, 1, .ireturn, 0, 0, .null)) rfl
theorem eX9_better_12 : decode mX9_better.2.1 12 = .ok (.invokevirtual 400, 3) := px_tab_at tX9_better_ok 8 (e := (12, 3, .invokevirtual 400, 0, 0, .null)) rfl
theorem eX9_better_16 : decode mX9_better.2.1 16 = .ok (.invokevirtual 427, 3) := px_tab_at tX9_better_ok 10 (e := (16, 3, .invokevirtual 427, 0, 0, .null)) rfl
theorem eX9_better_41 : decode mX9_better.2.1 41 = .ok (.if_icmp .ge 73, 3) := px_tab_at tX9_better_ok 24 (e := (41, 3, .if_icmp .ge 73, 0, 0, .null)) rfl
theorem eX9_better_58 : decode mX9_better.2.1 58 = .ok (.if_icmp .ge 50, 3) := px_tab_at tX9_better_ok 33 (e := (58, 3, .if_icmp .ge 50, 0, 0, .null)) rfl
theorem eX9_better_62 : decode mX9_better.2.1 62 = .ok (.invokevirtual 400, 3) := px_tab_at tX9_better_ok 35 (e := (62, 3, .invokevirtual 400, 0, 0, .null)) rfl
theorem eX9_better_78 : decode mX9_better.2.1 78 = .ok (.invokevirtual 427, 3) := px_tab_at tX9_better_ok 44 (e := (78, 3, .invokevirtual 427, 0, 0, .null)) rfl
theorem eX9_better_86 : decode mX9_better.2.1 86 = .ok (.if_icmp .gt 6, 3) := px_tab_at tX9_better_ok 48 (e := (86, 3, .if_icmp .gt 6, 0, 0, .null)) rfl
theorem eX9_better_89 : decode mX9_better.2.1 89 = .ok (.goto 13, 3) := px_tab_at tX9_better_ok 49 (e := (89, 3, .goto 13, 0, 0, .null)) rfl
theorem eX9_better_105 : decode mX9_better.2.1 105 = .ok (.goto (-58), 3) := px_tab_at tX9_better_ok 57 (e := (105, 3, .goto (-58), 0, 0, .null)) rfl
theorem eX9_better_111 : decode mX9_better.2.1 111 = .ok (.goto (-81), 3) := px_tab_at tX9_better_ok 59 (e := (111, 3, .goto (-81), 0, 0, .null)) rfl
theorem eX9_better_115 : decode mX9_better.2.1 115 = .ok (.ifCond .lt 7, 3) := px_tab_at tX9_better_ok 61 (e := (115, 3, .ifCond .lt 7, 0, 0, .null)) rfl
theorem eX9_better_119 : decode mX9_better.2.1 119 = .ok (.ifCond .ne 7, 3) := px_tab_at tX9_better_ok 63 (e := (119, 3, .ifCond .ne 7, 0, 0, .null)) rfl
theorem eX9_better_123 : decode mX9_better.2.1 123 = .ok (.goto 14, 3) := px_tab_at tX9_better_ok 65 (e := (123, 3, .goto 14, 0, 0, .null)) rfl
theorem eX9_better_128 : decode mX9_better.2.1 128 = .ok (.if_icmp .ne 8, 3) := px_tab_at tX9_better_ok 68 (e := (128, 3, .if_icmp .ne 8, 0, 0, .null)) rfl
theorem eX9_better_133 : decode mX9_better.2.1 133 = .ok (.goto 4, 3) := px_tab_at tX9_better_ok 70 (e := (133, 3, .goto 4, 0, 0, .null)) rfl
theorem eX9_better_137 : decode mX9_better.2.1 137 = .ok (.ireturn, 1) := px_tab_at tX9_better_ok 72 (e := (137, 1, .ireturn, 0, 0, .null)) rfl
theorem eX9_sleepAlone_12 : decode mX9_sleepAlone.2.1 12 = .ok (.if_icmp .ge 32, 3) := px_tab_at tX9_sleepAlone_ok 8 (e := (12, 3, .if_icmp .ge 32, 0, 0, .null)) rfl
theorem eX9_sleepAlone_29 : decode mX9_sleepAlone.2.1 29 = .ok (.if_icmp .ne 7, 3) := px_tab_at tX9_sleepAlone_ok 20 (e := (29, 3, .if_icmp .ne 7, 0, 0, .null)) rfl
theorem eX9_sleepAlone_33 : decode mX9_sleepAlone.2.1 33 = .ok (.goto 4, 3) := px_tab_at tX9_sleepAlone_ok 22 (e := (33, 3, .goto 4, 0, 0, .null)) rfl
theorem eX9_sleepAlone_41 : decode mX9_sleepAlone.2.1 41 = .ok (.goto (-39), 3) := px_tab_at tX9_sleepAlone_ok 26 (e := (41, 3, .goto (-39), 0, 0, .null)) rfl
theorem eX9_sleepAlone_44 : decode mX9_sleepAlone.2.1 44 = .ok (.return_, 1) := px_tab_at tX9_sleepAlone_ok 27 (e := (44, 1, .return_, 0, 0, .null)) rfl
theorem eX9_cheap_5 : decode mX9_cheap.2.1 5 = .ok (.invokestatic 331, 3) := px_tab_at tX9_cheap_ok 3 (e := (5, 3, .invokestatic 331, 0, 0, .null)) rfl
theorem eX9_cheap_8 : decode mX9_cheap.2.1 8 = .ok (.ifCond .eq 12, 3) := px_tab_at tX9_cheap_ok 4 (e := (8, 3, .ifCond .eq 12, 0, 0, .null)) rfl
theorem eX9_cheap_14 : decode mX9_cheap.2.1 14 = .ok (.invokestatic 331, 3) := px_tab_at tX9_cheap_ok 8 (e := (14, 3, .invokestatic 331, 0, 0, .null)) rfl
theorem eX9_cheap_17 : decode mX9_cheap.2.1 17 = .ok (.ifCond .ne 5, 3) := px_tab_at tX9_cheap_ok 9 (e := (17, 3, .ifCond .ne 5, 0, 0, .null)) rfl
theorem eX9_cheap_21 : decode mX9_cheap.2.1 21 = .ok (.ireturn, 1) := px_tab_at tX9_cheap_ok 11 (e := (21, 1, .ireturn, 0, 0, .null)) rfl
theorem eX9_cheap_23 : decode mX9_cheap.2.1 23 = .ok (.invokevirtual 400, 3) := px_tab_at tX9_cheap_ok 13 (e := (23, 3, .invokevirtual 400, 0, 0, .null)) rfl
theorem eX9_cheap_27 : decode mX9_cheap.2.1 27 = .ok (.invokevirtual 421, 3) := px_tab_at tX9_cheap_ok 15 (e := (27, 3, .invokevirtual 421, 0, 0, .null)) rfl
theorem eX9_cheap_45 : decode mX9_cheap.2.1 45 = .ok (.if_icmp .gt 118, 3) := px_tab_at tX9_cheap_ok 25 (e := (45, 3, .if_icmp .gt 118, 0, 0, .null)) rfl
theorem eX9_cheap_54 : decode mX9_cheap.2.1 54 = .ok (.ifCond .eq 6, 3) := px_tab_at tX9_cheap_ok 31 (e := (54, 3, .ifCond .eq 6, 0, 0, .null)) rfl
theorem eX9_cheap_57 : decode mX9_cheap.2.1 57 = .ok (.goto 100, 3) := px_tab_at tX9_cheap_ok 32 (e := (57, 3, .goto 100, 0, 0, .null)) rfl
theorem eX9_cheap_77 : decode mX9_cheap.2.1 77 = .ok (.if_icmp .ge 40, 3) := px_tab_at tX9_cheap_ok 43 (e := (77, 3, .if_icmp .ge 40, 0, 0, .null)) rfl
theorem eX9_cheap_88 : decode mX9_cheap.2.1 88 = .ok (.if_icmp .ne 23, 3) := px_tab_at tX9_cheap_ok 50 (e := (88, 3, .if_icmp .ne 23, 0, 0, .null)) rfl
theorem eX9_cheap_114 : decode mX9_cheap.2.1 114 = .ok (.goto (-48), 3) := px_tab_at tX9_cheap_ok 64 (e := (114, 3, .goto (-48), 0, 0, .null)) rfl
theorem eX9_cheap_119 : decode mX9_cheap.2.1 119 = .ok (.ifCond .lt 13, 3) := px_tab_at tX9_cheap_ok 66 (e := (119, 3, .ifCond .lt 13, 0, 0, .null)) rfl
theorem eX9_cheap_126 : decode mX9_cheap.2.1 126 = .ok (.if_icmp .lt 6, 3) := px_tab_at tX9_cheap_ok 69 (e := (126, 3, .if_icmp .lt 6, 0, 0, .null)) rfl
theorem eX9_cheap_129 : decode mX9_cheap.2.1 129 = .ok (.goto 28, 3) := px_tab_at tX9_cheap_ok 70 (e := (129, 3, .goto 28, 0, 0, .null)) rfl
theorem eX9_cheap_135 : decode mX9_cheap.2.1 135 = .ok (.invokevirtual 442, 3) := px_tab_at tX9_cheap_ok 73 (e := (135, 3, .invokevirtual 442, 0, 0, .null)) rfl
theorem eX9_cheap_139 : decode mX9_cheap.2.1 139 = .ok (.invokevirtual 427, 3) := px_tab_at tX9_cheap_ok 75 (e := (139, 3, .invokevirtual 427, 0, 0, .null)) rfl
theorem eX9_cheap_143 : decode mX9_cheap.2.1 143 = .ok (.if_icmp .ge 6, 3) := px_tab_at tX9_cheap_ok 77 (e := (143, 3, .if_icmp .ge 6, 0, 0, .null)) rfl
theorem eX9_cheap_146 : decode mX9_cheap.2.1 146 = .ok (.goto 11, 3) := px_tab_at tX9_cheap_ok 78 (e := (146, 3, .goto 11, 0, 0, .null)) rfl
theorem eX9_cheap_160 : decode mX9_cheap.2.1 160 = .ok (.goto (-118), 3) := px_tab_at tX9_cheap_ok 84 (e := (160, 3, .goto (-118), 0, 0, .null)) rfl
theorem eX9_cheap_164 : decode mX9_cheap.2.1 164 = .ok (.ifCond .ne 8, 3) := px_tab_at tX9_cheap_ok 86 (e := (164, 3, .ifCond .ne 8, 0, 0, .null)) rfl
theorem eX9_cheap_169 : decode mX9_cheap.2.1 169 = .ok (.goto 5, 3) := px_tab_at tX9_cheap_ok 88 (e := (169, 3, .goto 5, 0, 0, .null)) rfl
theorem eX9_cheap_174 : decode mX9_cheap.2.1 174 = .ok (.ireturn, 1) := px_tab_at tX9_cheap_ok 90 (e := (174, 1, .ireturn, 0, 0, .null)) rfl
theorem eX9_tollBy_1 : decode mX9_tollBy.2.1 1 = .ok (.invokevirtual 400, 3) := px_tab_at tX9_tollBy_ok 1 (e := (1, 3, .invokevirtual 400, 0, 0, .null)) rfl
theorem eX9_tollBy_14 : decode mX9_tollBy.2.1 14 = .ok (.if_icmp .ge 51, 3) := px_tab_at tX9_tollBy_ok 9 (e := (14, 3, .if_icmp .ge 51, 0, 0, .null)) rfl
theorem eX9_tollBy_22 : decode mX9_tollBy.2.1 22 = .ok (.if_icmp .ge 33, 3) := px_tab_at tX9_tollBy_ok 13 (e := (22, 3, .if_icmp .ge 33, 0, 0, .null)) rfl
theorem eX9_tollBy_44 : decode mX9_tollBy.2.1 44 = .ok (.invokestatic 430, 3) := px_tab_at tX9_tollBy_ok 26 (e := (44, 3, .invokestatic 430, 0, 0, .null)) rfl
theorem eX9_tollBy_56 : decode mX9_tollBy.2.1 56 = .ok (.invokevirtual 394, 3) := px_tab_at tX9_tollBy_ok 35 (e := (56, 3, .invokevirtual 394, 0, 0, .null)) rfl
theorem eX9_tollBy_62 : decode mX9_tollBy.2.1 62 = .ok (.goto (-51), 3) := px_tab_at tX9_tollBy_ok 37 (e := (62, 3, .goto (-51), 0, 0, .null)) rfl
theorem eX9_tollBy_80 : decode mX9_tollBy.2.1 80 = .ok (.ireturn, 1) := px_tab_at tX9_tollBy_ok 47 (e := (80, 1, .ireturn, 0, 0, .null)) rfl
theorem eX9_isOrder_9 : decode mX9_isOrder.2.1 9 = .ok (.if_icmp .ge 54, 3) := px_tab_at tX9_isOrder_ok 7 (e := (9, 3, .if_icmp .ge 54, 0, 0, .null)) rfl
theorem eX9_isOrder_21 : decode mX9_isOrder.2.1 21 = .ok (.invokestatic 430, 3) := px_tab_at tX9_isOrder_ok 15 (e := (21, 3, .invokestatic 430, 0, 0, .null)) rfl
theorem eX9_isOrder_35 : decode mX9_isOrder.2.1 35 = .ok (.if_icmp .ge 13, 3) := px_tab_at tX9_isOrder_ok 23 (e := (35, 3, .if_icmp .ge 13, 0, 0, .null)) rfl
theorem eX9_isOrder_45 : decode mX9_isOrder.2.1 45 = .ok (.if_icmp .ne 5, 3) := px_tab_at tX9_isOrder_ok 30 (e := (45, 3, .if_icmp .ne 5, 0, 0, .null)) rfl
theorem eX9_isOrder_49 : decode mX9_isOrder.2.1 49 = .ok (.ireturn, 1) := px_tab_at tX9_isOrder_ok 32 (e := (49, 1, .ireturn, 0, 0, .null)) rfl
theorem eX9_isOrder_60 : decode mX9_isOrder.2.1 60 = .ok (.goto (-56), 3) := px_tab_at tX9_isOrder_ok 40 (e := (60, 3, .goto (-56), 0, 0, .null)) rfl
theorem eX9_isOrder_64 : decode mX9_isOrder.2.1 64 = .ok (.ireturn, 1) := px_tab_at tX9_isOrder_ok 42 (e := (64, 1, .ireturn, 0, 0, .null)) rfl
theorem eX9_order_17 : decode mX9_order.2.1 17 = .ok (.if_icmp .ge 46, 3) := px_tab_at tX9_order_ok 11 (e := (17, 3, .if_icmp .ge 46, 0, 0, .null)) rfl
theorem eX9_order_31 : decode mX9_order.2.1 31 = .ok (.if_icmp .eq 6, 3) := px_tab_at tX9_order_ok 19 (e := (31, 3, .if_icmp .eq 6, 0, 0, .null)) rfl
theorem eX9_order_34 : decode mX9_order.2.1 34 = .ok (.goto 23, 3) := px_tab_at tX9_order_ok 20 (e := (34, 3, .goto 23, 0, 0, .null)) rfl
theorem eX9_order_60 : decode mX9_order.2.1 60 = .ok (.goto (-53), 3) := px_tab_at tX9_order_ok 34 (e := (60, 3, .goto (-53), 0, 0, .null)) rfl
theorem eX9_order_71 : decode mX9_order.2.1 71 = .ok (.invokestatic 331, 3) := px_tab_at tX9_order_ok 41 (e := (71, 3, .invokestatic 331, 0, 0, .null)) rfl
theorem eX9_order_74 : decode mX9_order.2.1 74 = .ok (.ifCond .ne 5, 3) := px_tab_at tX9_order_ok 42 (e := (74, 3, .ifCond .ne 5, 0, 0, .null)) rfl
theorem eX9_order_78 : decode mX9_order.2.1 78 = .ok (.ireturn, 1) := px_tab_at tX9_order_ok 44 (e := (78, 1, .ireturn, 0, 0, .null)) rfl
theorem eX9_order_91 : decode mX9_order.2.1 91 = .ok (.invokestatic 430, 3) := px_tab_at tX9_order_ok 53 (e := (91, 3, .invokestatic 430, 0, 0, .null)) rfl
theorem eX9_order_94 : decode mX9_order.2.1 94 = .ok (.if_icmp .ge 59, 3) := px_tab_at tX9_order_ok 54 (e := (94, 3, .if_icmp .ge 59, 0, 0, .null)) rfl
theorem eX9_order_99 : decode mX9_order.2.1 99 = .ok (.invokevirtual 451, 3) := px_tab_at tX9_order_ok 57 (e := (99, 3, .invokevirtual 451, 0, 0, .null)) rfl
theorem eX9_order_102 : decode mX9_order.2.1 102 = .ok (.ifCond .eq 11, 3) := px_tab_at tX9_order_ok 58 (e := (102, 3, .ifCond .eq 11, 0, 0, .null)) rfl
theorem eX9_order_107 : decode mX9_order.2.1 107 = .ok (.invokevirtual 454, 3) := px_tab_at tX9_order_ok 61 (e := (107, 3, .invokevirtual 454, 0, 0, .null)) rfl
theorem eX9_order_110 : decode mX9_order.2.1 110 = .ok (.goto 4, 3) := px_tab_at tX9_order_ok 62 (e := (110, 3, .goto 4, 0, 0, .null)) rfl
theorem eX9_order_116 : decode mX9_order.2.1 116 = .ok (.ifCond .lt 31, 3) := px_tab_at tX9_order_ok 66 (e := (116, 3, .ifCond .lt 31, 0, 0, .null)) rfl
theorem eX9_order_123 : decode mX9_order.2.1 123 = .ok (.ifCond .lt 14, 3) := px_tab_at tX9_order_ok 69 (e := (123, 3, .ifCond .lt 14, 0, 0, .null)) rfl
theorem eX9_order_131 : decode mX9_order.2.1 131 = .ok (.if_icmp .gt 6, 3) := px_tab_at tX9_order_ok 73 (e := (131, 3, .if_icmp .gt 6, 0, 0, .null)) rfl
theorem eX9_order_134 : decode mX9_order.2.1 134 = .ok (.goto 13, 3) := px_tab_at tX9_order_ok 74 (e := (134, 3, .goto 13, 0, 0, .null)) rfl
theorem eX9_order_150 : decode mX9_order.2.1 150 = .ok (.goto (-64), 3) := px_tab_at tX9_order_ok 82 (e := (150, 3, .goto (-64), 0, 0, .null)) rfl
theorem eX9_order_155 : decode mX9_order.2.1 155 = .ok (.if_icmp .ne 10, 3) := px_tab_at tX9_order_ok 85 (e := (155, 3, .if_icmp .ne 10, 0, 0, .null)) rfl
theorem eX9_order_162 : decode mX9_order.2.1 162 = .ok (.goto 26, 3) := px_tab_at tX9_order_ok 88 (e := (162, 3, .goto 26, 0, 0, .null)) rfl
theorem eX9_order_181 : decode mX9_order.2.1 181 = .ok (.invokestatic 430, 3) := px_tab_at tX9_order_ok 99 (e := (181, 3, .invokestatic 430, 0, 0, .null)) rfl
theorem eX9_order_188 : decode mX9_order.2.1 188 = .ok (.ireturn, 1) := px_tab_at tX9_order_ok 104 (e := (188, 1, .ireturn, 0, 0, .null)) rfl
theorem eX9_soon_2 : decode mX9_soon.2.1 2 = .ok (.invokevirtual 403, 3) := px_tab_at tX9_soon_ok 2 (e := (2, 3, .invokevirtual 403, 0, 0, .null)) rfl
theorem eX9_soon_5 : decode mX9_soon.2.1 5 = .ok (.ifCond .ne 5, 3) := px_tab_at tX9_soon_ok 3 (e := (5, 3, .ifCond .ne 5, 0, 0, .null)) rfl
theorem eX9_soon_9 : decode mX9_soon.2.1 9 = .ok (.ireturn, 1) := px_tab_at tX9_soon_ok 5 (e := (9, 1, .ireturn, 0, 0, .null)) rfl
theorem eX9_soon_21 : decode mX9_soon.2.1 21 = .ok (.if_icmp .eq 6, 3) := px_tab_at tX9_soon_ok 13 (e := (21, 3, .if_icmp .eq 6, 0, 0, .null)) rfl
theorem eX9_soon_26 : decode mX9_soon.2.1 26 = .ok (.ireturn, 1) := px_tab_at tX9_soon_ok 15 (e := (26, 1, .ireturn, 0, 0, .null)) rfl
theorem eX9_soon_28 : decode mX9_soon.2.1 28 = .ok (.invokevirtual 400, 3) := px_tab_at tX9_soon_ok 17 (e := (28, 3, .invokevirtual 400, 0, 0, .null)) rfl
theorem eX9_soon_52 : decode mX9_soon.2.1 52 = .ok (.if_icmp .gt 29, 3) := px_tab_at tX9_soon_ok 32 (e := (52, 3, .if_icmp .gt 29, 0, 0, .null)) rfl
theorem eX9_soon_56 : decode mX9_soon.2.1 56 = .ok (.invokevirtual 394, 3) := px_tab_at tX9_soon_ok 34 (e := (56, 3, .invokevirtual 394, 0, 0, .null)) rfl
theorem eX9_soon_70 : decode mX9_soon.2.1 70 = .ok (.if_icmp .ne 5, 3) := px_tab_at tX9_soon_ok 42 (e := (70, 3, .if_icmp .ne 5, 0, 0, .null)) rfl
theorem eX9_soon_74 : decode mX9_soon.2.1 74 = .ok (.ireturn, 1) := px_tab_at tX9_soon_ok 44 (e := (74, 1, .ireturn, 0, 0, .null)) rfl
theorem eX9_soon_78 : decode mX9_soon.2.1 78 = .ok (.goto (-29), 3) := px_tab_at tX9_soon_ok 46 (e := (78, 3, .goto (-29), 0, 0, .null)) rfl
theorem eX9_soon_83 : decode mX9_soon.2.1 83 = .ok (.ireturn, 1) := px_tab_at tX9_soon_ok 48 (e := (83, 1, .ireturn, 0, 0, .null)) rfl
theorem eX9_isInTime_1 : decode mX9_isInTime.2.1 1 = .ok (.invokevirtual 400, 3) := px_tab_at tX9_isInTime_ok 1 (e := (1, 3, .invokevirtual 400, 0, 0, .null)) rfl
theorem eX9_isInTime_11 : decode mX9_isInTime.2.1 11 = .ok (.invokevirtual 415, 3) := px_tab_at tX9_isInTime_ok 7 (e := (11, 3, .invokevirtual 415, 0, 0, .null)) rfl
theorem eX9_isInTime_41 : decode mX9_isInTime.2.1 41 = .ok (.if_icmp .ge 23, 3) := px_tab_at tX9_isInTime_ok 24 (e := (41, 3, .if_icmp .ge 23, 0, 0, .null)) rfl
theorem eX9_isInTime_45 : decode mX9_isInTime.2.1 45 = .ok (.invokevirtual 394, 3) := px_tab_at tX9_isInTime_ok 26 (e := (45, 3, .invokevirtual 394, 0, 0, .null)) rfl
theorem eX9_isInTime_59 : decode mX9_isInTime.2.1 59 = .ok (.if_icmp .ne (-34), 3) := px_tab_at tX9_isInTime_ok 34 (e := (59, 3, .if_icmp .ne (-34), 0, 0, .null)) rfl
theorem eX9_isInTime_63 : decode mX9_isInTime.2.1 63 = .ok (.ireturn, 1) := px_tab_at tX9_isInTime_ok 36 (e := (63, 1, .ireturn, 0, 0, .null)) rfl
theorem eX9_isInTime_65 : decode mX9_isInTime.2.1 65 = .ok (.ireturn, 1) := px_tab_at tX9_isInTime_ok 38 (e := (65, 1, .ireturn, 0, 0, .null)) rfl
theorem eX9_start_2 : decode mX9_start.2.1 2 = .ok (.invokevirtual 403, 3) := px_tab_at tX9_start_ok 2 (e := (2, 3, .invokevirtual 403, 0, 0, .null)) rfl
theorem eX9_start_5 : decode mX9_start.2.1 5 = .ok (.ifCond .ne 5, 3) := px_tab_at tX9_start_ok 3 (e := (5, 3, .ifCond .ne 5, 0, 0, .null)) rfl
theorem eX9_start_9 : decode mX9_start.2.1 9 = .ok (.ireturn, 1) := px_tab_at tX9_start_ok 5 (e := (9, 1, .ireturn, 0, 0, .null)) rfl
theorem eX9_start_21 : decode mX9_start.2.1 21 = .ok (.if_icmp .eq 6, 3) := px_tab_at tX9_start_ok 13 (e := (21, 3, .if_icmp .eq 6, 0, 0, .null)) rfl
theorem eX9_start_26 : decode mX9_start.2.1 26 = .ok (.ireturn, 1) := px_tab_at tX9_start_ok 15 (e := (26, 1, .ireturn, 0, 0, .null)) rfl
theorem eX9_start_31 : decode mX9_start.2.1 31 = .ok (.ifCond .lt 20, 3) := px_tab_at tX9_start_ok 19 (e := (31, 3, .ifCond .lt 20, 0, 0, .null)) rfl
theorem eX9_start_37 : decode mX9_start.2.1 37 = .ok (.invokevirtual 460, 3) := px_tab_at tX9_start_ok 23 (e := (37, 3, .invokevirtual 460, 0, 0, .null)) rfl
theorem eX9_start_40 : decode mX9_start.2.1 40 = .ok (.ifCond .eq 5, 3) := px_tab_at tX9_start_ok 24 (e := (40, 3, .ifCond .eq 5, 0, 0, .null)) rfl
theorem eX9_start_44 : decode mX9_start.2.1 44 = .ok (.ireturn, 1) := px_tab_at tX9_start_ok 26 (e := (44, 1, .ireturn, 0, 0, .null)) rfl
theorem eX9_start_48 : decode mX9_start.2.1 48 = .ok (.goto (-18), 3) := px_tab_at tX9_start_ok 28 (e := (48, 3, .goto (-18), 0, 0, .null)) rfl
theorem eX9_start_53 : decode mX9_start.2.1 53 = .ok (.ireturn, 1) := px_tab_at tX9_start_ok 30 (e := (53, 1, .ireturn, 0, 0, .null)) rfl
theorem eX9_missed_3 : decode mX9_missed.2.1 3 = .ok (.invokestatic 331, 3) := px_tab_at tX9_missed_ok 3 (e := (3, 3, .invokestatic 331, 0, 0, .null)) rfl
theorem eX9_missed_6 : decode mX9_missed.2.1 6 = .ok (.ifCond .ne 5, 3) := px_tab_at tX9_missed_ok 4 (e := (6, 3, .ifCond .ne 5, 0, 0, .null)) rfl
theorem eX9_missed_10 : decode mX9_missed.2.1 10 = .ok (.ireturn, 1) := px_tab_at tX9_missed_ok 6 (e := (10, 1, .ireturn, 0, 0, .null)) rfl
theorem eX9_missed_12 : decode mX9_missed.2.1 12 = .ok (.invokevirtual 400, 3) := px_tab_at tX9_missed_ok 8 (e := (12, 3, .invokevirtual 400, 0, 0, .null)) rfl
theorem eX9_missed_16 : decode mX9_missed.2.1 16 = .ok (.invokevirtual 421, 3) := px_tab_at tX9_missed_ok 10 (e := (16, 3, .invokevirtual 421, 0, 0, .null)) rfl
theorem eX9_missed_41 : decode mX9_missed.2.1 41 = .ok (.if_icmp .ge 60, 3) := px_tab_at tX9_missed_ok 24 (e := (41, 3, .if_icmp .ge 60, 0, 0, .null)) rfl
theorem eX9_missed_50 : decode mX9_missed.2.1 50 = .ok (.ifCond .ne 6, 3) := px_tab_at tX9_missed_ok 30 (e := (50, 3, .ifCond .ne 6, 0, 0, .null)) rfl
theorem eX9_missed_53 : decode mX9_missed.2.1 53 = .ok (.goto 42, 3) := px_tab_at tX9_missed_ok 31 (e := (53, 3, .goto 42, 0, 0, .null)) rfl
theorem eX9_missed_65 : decode mX9_missed.2.1 65 = .ok (.invokevirtual 442, 3) := px_tab_at tX9_missed_ok 40 (e := (65, 3, .invokevirtual 442, 0, 0, .null)) rfl
theorem eX9_missed_69 : decode mX9_missed.2.1 69 = .ok (.invokevirtual 427, 3) := px_tab_at tX9_missed_ok 42 (e := (69, 3, .invokevirtual 427, 0, 0, .null)) rfl
theorem eX9_missed_75 : decode mX9_missed.2.1 75 = .ok (.ifCond .lt 13, 3) := px_tab_at tX9_missed_ok 45 (e := (75, 3, .ifCond .lt 13, 0, 0, .null)) rfl
theorem eX9_missed_82 : decode mX9_missed.2.1 82 = .ok (.if_icmp .lt 6, 3) := px_tab_at tX9_missed_ok 48 (e := (82, 3, .if_icmp .lt 6, 0, 0, .null)) rfl
theorem eX9_missed_85 : decode mX9_missed.2.1 85 = .ok (.goto 10, 3) := px_tab_at tX9_missed_ok 49 (e := (85, 3, .goto 10, 0, 0, .null)) rfl
theorem eX9_missed_98 : decode mX9_missed.2.1 98 = .ok (.goto (-68), 3) := px_tab_at tX9_missed_ok 55 (e := (98, 3, .goto (-68), 0, 0, .null)) rfl
theorem eX9_missed_102 : decode mX9_missed.2.1 102 = .ok (.ifCond .ne 7, 3) := px_tab_at tX9_missed_ok 57 (e := (102, 3, .ifCond .ne 7, 0, 0, .null)) rfl
theorem eX9_missed_106 : decode mX9_missed.2.1 106 = .ok (.goto 5, 3) := px_tab_at tX9_missed_ok 59 (e := (106, 3, .goto 5, 0, 0, .null)) rfl
theorem eX9_missed_111 : decode mX9_missed.2.1 111 = .ok (.ireturn, 1) := px_tab_at tX9_missed_ok 61 (e := (111, 1, .ireturn, 0, 0, .null)) rfl
theorem eX9_year_2 : decode mX9_year.2.1 2 = .ok (.invokevirtual 403, 3) := px_tab_at tX9_year_ok 2 (e := (2, 3, .invokevirtual 403, 0, 0, .null)) rfl
theorem eX9_year_5 : decode mX9_year.2.1 5 = .ok (.ifCond .eq 20, 3) := px_tab_at tX9_year_ok 3 (e := (5, 3, .ifCond .eq 20, 0, 0, .null)) rfl
theorem eX9_year_9 : decode mX9_year.2.1 9 = .ok (.invokestatic 418, 3) := px_tab_at tX9_year_ok 5 (e := (9, 3, .invokestatic 418, 0, 0, .null)) rfl
theorem eX9_year_12 : decode mX9_year.2.1 12 = .ok (.ifCond .eq 13, 3) := px_tab_at tX9_year_ok 6 (e := (12, 3, .ifCond .eq 13, 0, 0, .null)) rfl
theorem eX9_year_19 : decode mX9_year.2.1 19 = .ok (.invokestatic 331, 3) := px_tab_at tX9_year_ok 10 (e := (19, 3, .invokestatic 331, 0, 0, .null)) rfl
theorem eX9_year_22 : decode mX9_year.2.1 22 = .ok (.ifCond .ne 5, 3) := px_tab_at tX9_year_ok 11 (e := (22, 3, .ifCond .ne 5, 0, 0, .null)) rfl
theorem eX9_year_26 : decode mX9_year.2.1 26 = .ok (.ireturn, 1) := px_tab_at tX9_year_ok 13 (e := (26, 1, .ireturn, 0, 0, .null)) rfl
theorem eX9_year_36 : decode mX9_year.2.1 36 = .ok (.if_icmp .ge 71, 3) := px_tab_at tX9_year_ok 20 (e := (36, 3, .if_icmp .ge 71, 0, 0, .null)) rfl
theorem eX9_year_40 : decode mX9_year.2.1 40 = .ok (.invokevirtual 400, 3) := px_tab_at tX9_year_ok 22 (e := (40, 3, .invokevirtual 400, 0, 0, .null)) rfl
theorem eX9_year_65 : decode mX9_year.2.1 65 = .ok (.if_icmp .ne 14, 3) := px_tab_at tX9_year_ok 36 (e := (65, 3, .if_icmp .ne 14, 0, 0, .null)) rfl
theorem eX9_year_81 : decode mX9_year.2.1 81 = .ok (.invokevirtual 415, 3) := px_tab_at tX9_year_ok 46 (e := (81, 3, .invokevirtual 415, 0, 0, .null)) rfl
theorem eX9_year_95 : decode mX9_year.2.1 95 = .ok (.if_icmp .ne 6, 3) := px_tab_at tX9_year_ok 54 (e := (95, 3, .if_icmp .ne 6, 0, 0, .null)) rfl
theorem eX9_year_104 : decode mX9_year.2.1 104 = .ok (.goto (-71), 3) := px_tab_at tX9_year_ok 57 (e := (104, 3, .goto (-71), 0, 0, .null)) rfl
theorem eX9_year_109 : decode mX9_year.2.1 109 = .ok (.ireturn, 1) := px_tab_at tX9_year_ok 59 (e := (109, 1, .ireturn, 0, 0, .null)) rfl
theorem eX9_tell_6 : decode mX9_tell.2.1 6 = .ok (.if_icmp .eq 22, 3) := px_tab_at tX9_tell_ok 3 (e := (6, 3, .if_icmp .eq 22, 0, 0, .null)) rfl
theorem eX9_tell_11 : decode mX9_tell.2.1 11 = .ok (.invokevirtual 406, 3) := px_tab_at tX9_tell_ok 6 (e := (11, 3, .invokevirtual 406, 0, 0, .null)) rfl
theorem eX9_tell_14 : decode mX9_tell.2.1 14 = .ok (.ifCond .eq 14, 3) := px_tab_at tX9_tell_ok 7 (e := (14, 3, .ifCond .eq 14, 0, 0, .null)) rfl
theorem eX9_tell_22 : decode mX9_tell.2.1 22 = .ok (.invokestatic 331, 3) := px_tab_at tX9_tell_ok 11 (e := (22, 3, .invokestatic 331, 0, 0, .null)) rfl
theorem eX9_tell_25 : decode mX9_tell.2.1 25 = .ok (.ifCond .ne 5, 3) := px_tab_at tX9_tell_ok 12 (e := (25, 3, .ifCond .ne 5, 0, 0, .null)) rfl
theorem eX9_tell_29 : decode mX9_tell.2.1 29 = .ok (.ireturn, 1) := px_tab_at tX9_tell_ok 14 (e := (29, 1, .ireturn, 0, 0, .null)) rfl
theorem eX9_tell_66 : decode mX9_tell.2.1 66 = .ok (.ireturn, 1) := px_tab_at tX9_tell_ok 37 (e := (66, 1, .ireturn, 0, 0, .null)) rfl
theorem eX9_forget_11 : decode mX9_forget.2.1 11 = .ok (.ireturn, 1) := px_tab_at tX9_forget_ok 7 (e := (11, 1, .ireturn, 0, 0, .null)) rfl
theorem eX9_mayBeAwake_4 : decode mX9_mayBeAwake.2.1 4 = .ok (.invokevirtual 442, 3) := px_tab_at tX9_mayBeAwake_ok 4 (e := (4, 3, .invokevirtual 442, 0, 0, .null)) rfl
theorem eX9_mayBeAwake_11 : decode mX9_mayBeAwake.2.1 11 = .ok (.if_icmp .ge 30, 3) := px_tab_at tX9_mayBeAwake_ok 9 (e := (11, 3, .if_icmp .ge 30, 0, 0, .null)) rfl
theorem eX9_mayBeAwake_21 : decode mX9_mayBeAwake.2.1 21 = .ok (.invokevirtual 379, 3) := px_tab_at tX9_mayBeAwake_ok 15 (e := (21, 3, .invokevirtual 379, 0, 0, .null)) rfl
theorem eX9_mayBeAwake_30 : decode mX9_mayBeAwake.2.1 30 = .ok (.if_icmp .eq 5, 3) := px_tab_at tX9_mayBeAwake_ok 20 (e := (30, 3, .if_icmp .eq 5, 0, 0, .null)) rfl
theorem eX9_mayBeAwake_34 : decode mX9_mayBeAwake.2.1 34 = .ok (.ireturn, 1) := px_tab_at tX9_mayBeAwake_ok 22 (e := (34, 1, .ireturn, 0, 0, .null)) rfl
theorem eX9_mayBeAwake_38 : decode mX9_mayBeAwake.2.1 38 = .ok (.goto (-29), 3) := px_tab_at tX9_mayBeAwake_ok 24 (e := (38, 3, .goto (-29), 0, 0, .null)) rfl
theorem eX9_mayBeAwake_42 : decode mX9_mayBeAwake.2.1 42 = .ok (.ireturn, 1) := px_tab_at tX9_mayBeAwake_ok 26 (e := (42, 1, .ireturn, 0, 0, .null)) rfl
theorem eX9_awake_6 : decode mX9_awake.2.1 6 = .ok (.invokestatic 331, 3) := px_tab_at tX9_awake_ok 4 (e := (6, 3, .invokestatic 331, 0, 0, .null)) rfl
theorem eX9_awake_9 : decode mX9_awake.2.1 9 = .ok (.ifCond .eq 8, 3) := px_tab_at tX9_awake_ok 5 (e := (9, 3, .ifCond .eq 8, 0, 0, .null)) rfl
theorem eX9_awake_14 : decode mX9_awake.2.1 14 = .ok (.if_icmp .ge 5, 3) := px_tab_at tX9_awake_ok 8 (e := (14, 3, .if_icmp .ge 5, 0, 0, .null)) rfl
theorem eX9_awake_18 : decode mX9_awake.2.1 18 = .ok (.ireturn, 1) := px_tab_at tX9_awake_ok 10 (e := (18, 1, .ireturn, 0, 0, .null)) rfl
theorem eX9_awake_20 : decode mX9_awake.2.1 20 = .ok (.invokevirtual 400, 3) := px_tab_at tX9_awake_ok 12 (e := (20, 3, .invokevirtual 400, 0, 0, .null)) rfl
theorem eX9_awake_41 : decode mX9_awake.2.1 41 = .ok (.if_icmp .ge 33, 3) := px_tab_at tX9_awake_ok 25 (e := (41, 3, .if_icmp .ge 33, 0, 0, .null)) rfl
theorem eX9_awake_48 : decode mX9_awake.2.1 48 = .ok (.invokevirtual 464, 3) := px_tab_at tX9_awake_ok 29 (e := (48, 3, .invokevirtual 464, 0, 0, .null)) rfl
theorem eX9_awake_51 : decode mX9_awake.2.1 51 = .ok (.ifCond .ne 6, 3) := px_tab_at tX9_awake_ok 30 (e := (51, 3, .ifCond .ne 6, 0, 0, .null)) rfl
theorem eX9_awake_54 : decode mX9_awake.2.1 54 = .ok (.goto 14, 3) := px_tab_at tX9_awake_ok 31 (e := (54, 3, .goto 14, 0, 0, .null)) rfl
theorem eX9_awake_59 : decode mX9_awake.2.1 59 = .ok (.if_icmp .ne 6, 3) := px_tab_at tX9_awake_ok 34 (e := (59, 3, .if_icmp .ne 6, 0, 0, .null)) rfl
theorem eX9_awake_64 : decode mX9_awake.2.1 64 = .ok (.ireturn, 1) := px_tab_at tX9_awake_ok 36 (e := (64, 1, .ireturn, 0, 0, .null)) rfl
theorem eX9_awake_71 : decode mX9_awake.2.1 71 = .ok (.goto (-43), 3) := px_tab_at tX9_awake_ok 39 (e := (71, 3, .goto (-43), 0, 0, .null)) rfl
theorem eX9_awake_76 : decode mX9_awake.2.1 76 = .ok (.if_icmp .ne 7, 3) := px_tab_at tX9_awake_ok 42 (e := (76, 3, .if_icmp .ne 7, 0, 0, .null)) rfl
theorem eX9_awake_80 : decode mX9_awake.2.1 80 = .ok (.goto 4, 3) := px_tab_at tX9_awake_ok 44 (e := (80, 3, .goto 4, 0, 0, .null)) rfl
theorem eX9_awake_84 : decode mX9_awake.2.1 84 = .ok (.ireturn, 1) := px_tab_at tX9_awake_ok 46 (e := (84, 1, .ireturn, 0, 0, .null)) rfl
theorem eX9_ask_6 : decode mX9_ask.2.1 6 = .ok (.invokestatic 331, 3) := px_tab_at tX9_ask_ok 4 (e := (6, 3, .invokestatic 331, 0, 0, .null)) rfl
theorem eX9_ask_9 : decode mX9_ask.2.1 9 = .ok (.ifCond .ne 5, 3) := px_tab_at tX9_ask_ok 5 (e := (9, 3, .ifCond .ne 5, 0, 0, .null)) rfl
theorem eX9_ask_13 : decode mX9_ask.2.1 13 = .ok (.ireturn, 1) := px_tab_at tX9_ask_ok 7 (e := (13, 1, .ireturn, 0, 0, .null)) rfl
theorem eX9_ask_15 : decode mX9_ask.2.1 15 = .ok (.invokevirtual 400, 3) := px_tab_at tX9_ask_ok 9 (e := (15, 3, .invokevirtual 400, 0, 0, .null)) rfl
theorem eX9_ask_24 : decode mX9_ask.2.1 24 = .ok (.if_icmp .ge 16, 3) := px_tab_at tX9_ask_ok 14 (e := (24, 3, .if_icmp .ge 16, 0, 0, .null)) rfl
theorem eX9_ask_37 : decode mX9_ask.2.1 37 = .ok (.goto (-17), 3) := px_tab_at tX9_ask_ok 21 (e := (37, 3, .goto (-17), 0, 0, .null)) rfl
theorem eX9_ask_54 : decode mX9_ask.2.1 54 = .ok (.if_icmp .ge 66, 3) := px_tab_at tX9_ask_ok 32 (e := (54, 3, .if_icmp .ge 66, 0, 0, .null)) rfl
theorem eX9_ask_60 : decode mX9_ask.2.1 60 = .ok (.invokevirtual 464, 3) := px_tab_at tX9_ask_ok 36 (e := (60, 3, .invokevirtual 464, 0, 0, .null)) rfl
theorem eX9_ask_63 : decode mX9_ask.2.1 63 = .ok (.ifCond .eq 51, 3) := px_tab_at tX9_ask_ok 37 (e := (63, 3, .ifCond .eq 51, 0, 0, .null)) rfl
theorem eX9_ask_78 : decode mX9_ask.2.1 78 = .ok (.if_icmp .ge 36, 3) := px_tab_at tX9_ask_ok 46 (e := (78, 3, .if_icmp .ge 36, 0, 0, .null)) rfl
theorem eX9_ask_92 : decode mX9_ask.2.1 92 = .ok (.invokevirtual 379, 3) := px_tab_at tX9_ask_ok 54 (e := (92, 3, .invokevirtual 379, 0, 0, .null)) rfl
theorem eX9_ask_99 : decode mX9_ask.2.1 99 = .ok (.invokestatic 363, 3) := px_tab_at tX9_ask_ok 57 (e := (99, 3, .invokestatic 363, 0, 0, .null)) rfl
theorem eX9_ask_111 : decode mX9_ask.2.1 111 = .ok (.goto (-43), 3) := px_tab_at tX9_ask_ok 65 (e := (111, 3, .goto (-43), 0, 0, .null)) rfl
theorem eX9_ask_117 : decode mX9_ask.2.1 117 = .ok (.goto (-75), 3) := px_tab_at tX9_ask_ok 67 (e := (117, 3, .goto (-75), 0, 0, .null)) rfl
theorem eX9_ask_139 : decode mX9_ask.2.1 139 = .ok (.if_icmp .ge 91, 3) := px_tab_at tX9_ask_ok 80 (e := (139, 3, .if_icmp .ge 91, 0, 0, .null)) rfl
theorem eX9_ask_153 : decode mX9_ask.2.1 153 = .ok (.if_icmp .ge 44, 3) := px_tab_at tX9_ask_ok 87 (e := (153, 3, .if_icmp .ge 44, 0, 0, .null)) rfl
theorem eX9_ask_172 : decode mX9_ask.2.1 172 = .ok (.if_icmp .le 19, 3) := px_tab_at tX9_ask_ok 97 (e := (172, 3, .if_icmp .le 19, 0, 0, .null)) rfl
theorem eX9_ask_194 : decode mX9_ask.2.1 194 = .ok (.goto (-46), 3) := px_tab_at tX9_ask_ok 108 (e := (194, 3, .goto (-46), 0, 0, .null)) rfl
theorem eX9_ask_199 : decode mX9_ask.2.1 199 = .ok (.ifCond .ne 6, 3) := px_tab_at tX9_ask_ok 110 (e := (199, 3, .ifCond .ne 6, 0, 0, .null)) rfl
theorem eX9_ask_204 : decode mX9_ask.2.1 204 = .ok (.ireturn, 1) := px_tab_at tX9_ask_ok 112 (e := (204, 1, .ireturn, 0, 0, .null)) rfl
theorem eX9_ask_206 : decode mX9_ask.2.1 206 = .ok (.ifCond .lt 12, 3) := px_tab_at tX9_ask_ok 114 (e := (206, 3, .ifCond .lt 12, 0, 0, .null)) rfl
theorem eX9_ask_212 : decode mX9_ask.2.1 212 = .ok (.if_icmp .lt 6, 3) := px_tab_at tX9_ask_ok 117 (e := (212, 3, .if_icmp .lt 6, 0, 0, .null)) rfl
theorem eX9_ask_215 : decode mX9_ask.2.1 215 = .ok (.goto 9, 3) := px_tab_at tX9_ask_ok 118 (e := (215, 3, .goto 9, 0, 0, .null)) rfl
theorem eX9_ask_227 : decode mX9_ask.2.1 227 = .ok (.goto (-99), 3) := px_tab_at tX9_ask_ok 124 (e := (227, 3, .goto (-99), 0, 0, .null)) rfl
theorem eX9_ask_231 : decode mX9_ask.2.1 231 = .ok (.ireturn, 1) := px_tab_at tX9_ask_ok 126 (e := (231, 1, .ireturn, 0, 0, .null)) rfl
theorem eX9_hold_3 : decode mX9_hold.2.1 3 = .ok (.invokestatic 331, 3) := px_tab_at tX9_hold_ok 3 (e := (3, 3, .invokestatic 331, 0, 0, .null)) rfl
theorem eX9_hold_6 : decode mX9_hold.2.1 6 = .ok (.ifCond .ne 5, 3) := px_tab_at tX9_hold_ok 4 (e := (6, 3, .ifCond .ne 5, 0, 0, .null)) rfl
theorem eX9_hold_10 : decode mX9_hold.2.1 10 = .ok (.ireturn, 1) := px_tab_at tX9_hold_ok 6 (e := (10, 1, .ireturn, 0, 0, .null)) rfl
theorem eX9_hold_23 : decode mX9_hold.2.1 23 = .ok (.if_icmp .ge 26, 3) := px_tab_at tX9_hold_ok 16 (e := (23, 3, .if_icmp .ge 26, 0, 0, .null)) rfl
theorem eX9_hold_46 : decode mX9_hold.2.1 46 = .ok (.goto (-26), 3) := px_tab_at tX9_hold_ok 30 (e := (46, 3, .goto (-26), 0, 0, .null)) rfl
theorem eX9_hold_50 : decode mX9_hold.2.1 50 = .ok (.ireturn, 1) := px_tab_at tX9_hold_ok 32 (e := (50, 1, .ireturn, 0, 0, .null)) rfl
theorem eX9_restore_3 : decode mX9_restore.2.1 3 = .ok (.invokestatic 331, 3) := px_tab_at tX9_restore_ok 3 (e := (3, 3, .invokestatic 331, 0, 0, .null)) rfl
theorem eX9_restore_6 : decode mX9_restore.2.1 6 = .ok (.ifCond .eq 12, 3) := px_tab_at tX9_restore_ok 4 (e := (6, 3, .ifCond .eq 12, 0, 0, .null)) rfl
theorem eX9_restore_15 : decode mX9_restore.2.1 15 = .ok (.ifCond .ne 5, 3) := px_tab_at tX9_restore_ok 9 (e := (15, 3, .ifCond .ne 5, 0, 0, .null)) rfl
theorem eX9_restore_19 : decode mX9_restore.2.1 19 = .ok (.ireturn, 1) := px_tab_at tX9_restore_ok 11 (e := (19, 1, .ireturn, 0, 0, .null)) rfl
theorem eX9_restore_25 : decode mX9_restore.2.1 25 = .ok (.if_icmp .ge 26, 3) := px_tab_at tX9_restore_ok 16 (e := (25, 3, .if_icmp .ge 26, 0, 0, .null)) rfl
theorem eX9_restore_48 : decode mX9_restore.2.1 48 = .ok (.goto (-26), 3) := px_tab_at tX9_restore_ok 30 (e := (48, 3, .goto (-26), 0, 0, .null)) rfl
theorem eX9_restore_57 : decode mX9_restore.2.1 57 = .ok (.ireturn, 1) := px_tab_at tX9_restore_ok 35 (e := (57, 1, .ireturn, 0, 0, .null)) rfl
theorem eX9_count_1 : decode mX9_count.2.1 1 = .ok (.invokevirtual 400, 3) := px_tab_at tX9_count_ok 1 (e := (1, 3, .invokevirtual 400, 0, 0, .null)) rfl
theorem eX9_count_7 : decode mX9_count.2.1 7 = .ok (.tableswitch 338 0 18 #[89, 99, 109, 119, 129, 129, 129, 129, 139, 144, 149, 154, 199, 204, 222, 227, 267, 298, 303], 89) := px_tab_at tX9_count_ok 5 (e := (7, 89, .tableswitch 338 0 18 #[89, 99, 109, 119, 129, 129, 129, 129, 139, 144, 149, 154, 199, 204, 222, 227, 267, 298, 303], 0, 0, .null)) rfl
theorem eX9_count_105 : decode mX9_count.2.1 105 = .ok (.ireturn, 1) := px_tab_at tX9_count_ok 11 (e := (105, 1, .ireturn, 0, 0, .null)) rfl
theorem eX9_count_115 : decode mX9_count.2.1 115 = .ok (.ireturn, 1) := px_tab_at tX9_count_ok 17 (e := (115, 1, .ireturn, 0, 0, .null)) rfl
theorem eX9_count_125 : decode mX9_count.2.1 125 = .ok (.ireturn, 1) := px_tab_at tX9_count_ok 23 (e := (125, 1, .ireturn, 0, 0, .null)) rfl
theorem eX9_count_135 : decode mX9_count.2.1 135 = .ok (.ireturn, 1) := px_tab_at tX9_count_ok 29 (e := (135, 1, .ireturn, 0, 0, .null)) rfl
theorem eX9_count_145 : decode mX9_count.2.1 145 = .ok (.ireturn, 1) := px_tab_at tX9_count_ok 36 (e := (145, 1, .ireturn, 0, 0, .null)) rfl
theorem eX9_count_150 : decode mX9_count.2.1 150 = .ok (.ireturn, 1) := px_tab_at tX9_count_ok 39 (e := (150, 1, .ireturn, 0, 0, .null)) rfl
theorem eX9_count_155 : decode mX9_count.2.1 155 = .ok (.ireturn, 1) := px_tab_at tX9_count_ok 42 (e := (155, 1, .ireturn, 0, 0, .null)) rfl
theorem eX9_count_160 : decode mX9_count.2.1 160 = .ok (.ireturn, 1) := px_tab_at tX9_count_ok 45 (e := (160, 1, .ireturn, 0, 0, .null)) rfl
theorem eX9_count_167 : decode mX9_count.2.1 167 = .ok (.ifCond .eq 7, 3) := px_tab_at tX9_count_ok 50 (e := (167, 3, .ifCond .eq 7, 0, 0, .null)) rfl
theorem eX9_count_171 : decode mX9_count.2.1 171 = .ok (.goto 4, 3) := px_tab_at tX9_count_ok 52 (e := (171, 3, .goto 4, 0, 0, .null)) rfl
theorem eX9_count_181 : decode mX9_count.2.1 181 = .ok (.ifCond .eq 7, 3) := px_tab_at tX9_count_ok 58 (e := (181, 3, .ifCond .eq 7, 0, 0, .null)) rfl
theorem eX9_count_185 : decode mX9_count.2.1 185 = .ok (.goto 4, 3) := px_tab_at tX9_count_ok 60 (e := (185, 3, .goto 4, 0, 0, .null)) rfl
theorem eX9_count_196 : decode mX9_count.2.1 196 = .ok (.ifCond .eq 7, 3) := px_tab_at tX9_count_ok 67 (e := (196, 3, .ifCond .eq 7, 0, 0, .null)) rfl
theorem eX9_count_200 : decode mX9_count.2.1 200 = .ok (.goto 4, 3) := px_tab_at tX9_count_ok 69 (e := (200, 3, .goto 4, 0, 0, .null)) rfl
theorem eX9_count_205 : decode mX9_count.2.1 205 = .ok (.ireturn, 1) := px_tab_at tX9_count_ok 72 (e := (205, 1, .ireturn, 0, 0, .null)) rfl
theorem eX9_count_207 : decode mX9_count.2.1 207 = .ok (.invokevirtual 421, 3) := px_tab_at tX9_count_ok 74 (e := (207, 3, .invokevirtual 421, 0, 0, .null)) rfl
theorem eX9_count_210 : decode mX9_count.2.1 210 = .ok (.ireturn, 1) := px_tab_at tX9_count_ok 75 (e := (210, 1, .ireturn, 0, 0, .null)) rfl
theorem eX9_count_225 : decode mX9_count.2.1 225 = .ok (.invokevirtual 409, 3) := px_tab_at tX9_count_ok 84 (e := (225, 3, .invokevirtual 409, 0, 0, .null)) rfl
theorem eX9_count_228 : decode mX9_count.2.1 228 = .ok (.ireturn, 1) := px_tab_at tX9_count_ok 85 (e := (228, 1, .ireturn, 0, 0, .null)) rfl
theorem eX9_count_230 : decode mX9_count.2.1 230 = .ok (.invokevirtual 351, 3) := px_tab_at tX9_count_ok 87 (e := (230, 3, .invokevirtual 351, 0, 0, .null)) rfl
theorem eX9_count_233 : decode mX9_count.2.1 233 = .ok (.ireturn, 1) := px_tab_at tX9_count_ok 88 (e := (233, 1, .ireturn, 0, 0, .null)) rfl
theorem eX9_count_246 : decode mX9_count.2.1 246 = .ok (.if_icmp .ge 26, 3) := px_tab_at tX9_count_ok 97 (e := (246, 3, .if_icmp .ge 26, 0, 0, .null)) rfl
theorem eX9_count_269 : decode mX9_count.2.1 269 = .ok (.goto (-33), 3) := px_tab_at tX9_count_ok 111 (e := (269, 3, .goto (-33), 0, 0, .null)) rfl
theorem eX9_count_273 : decode mX9_count.2.1 273 = .ok (.ireturn, 1) := px_tab_at tX9_count_ok 113 (e := (273, 1, .ireturn, 0, 0, .null)) rfl
theorem eX9_count_286 : decode mX9_count.2.1 286 = .ok (.if_icmp .ge 17, 3) := px_tab_at tX9_count_ok 122 (e := (286, 3, .if_icmp .ge 17, 0, 0, .null)) rfl
theorem eX9_count_292 : decode mX9_count.2.1 292 = .ok (.invokevirtual 373, 3) := px_tab_at tX9_count_ok 126 (e := (292, 3, .invokevirtual 373, 0, 0, .null)) rfl
theorem eX9_count_300 : decode mX9_count.2.1 300 = .ok (.goto (-24), 3) := px_tab_at tX9_count_ok 130 (e := (300, 3, .goto (-24), 0, 0, .null)) rfl
theorem eX9_count_304 : decode mX9_count.2.1 304 = .ok (.ireturn, 1) := px_tab_at tX9_count_ok 132 (e := (304, 1, .ireturn, 0, 0, .null)) rfl
theorem eX9_count_306 : decode mX9_count.2.1 306 = .ok (.invokevirtual 427, 3) := px_tab_at tX9_count_ok 134 (e := (306, 3, .invokevirtual 427, 0, 0, .null)) rfl
theorem eX9_count_309 : decode mX9_count.2.1 309 = .ok (.ireturn, 1) := px_tab_at tX9_count_ok 135 (e := (309, 1, .ireturn, 0, 0, .null)) rfl
theorem eX9_count_322 : decode mX9_count.2.1 322 = .ok (.if_icmp .ge 21, 3) := px_tab_at tX9_count_ok 144 (e := (322, 3, .if_icmp .ge 21, 0, 0, .null)) rfl
theorem eX9_count_340 : decode mX9_count.2.1 340 = .ok (.goto (-28), 3) := px_tab_at tX9_count_ok 155 (e := (340, 3, .goto (-28), 0, 0, .null)) rfl
theorem eX9_count_344 : decode mX9_count.2.1 344 = .ok (.ireturn, 1) := px_tab_at tX9_count_ok 157 (e := (344, 1, .ireturn, 0, 0, .null)) rfl
theorem eX9_count_346 : decode mX9_count.2.1 346 = .ok (.ireturn, 1) := px_tab_at tX9_count_ok 159 (e := (346, 1, .ireturn, 0, 0, .null)) rfl
theorem eJ6_bitCount_0f7a4_52 : decode mJ6_bitCount_0f7a4.2.1 52 = .ok (.ireturn, 1) := px_tab_at tJ6_bitCount_0f7a4_ok 41 (e := (52, 1, .ireturn, 0, 0, .null)) rfl
theorem eJ9_max_7cf53_2 : decode mJ9_max_7cf53.2.1 2 = .ok (.if_icmp .lt 7, 3) := px_tab_at tJ9_max_7cf53_ok 2 (e := (2, 3, .if_icmp .lt 7, 0, 0, .null)) rfl
theorem eJ9_max_7cf53_6 : decode mJ9_max_7cf53.2.1 6 = .ok (.goto 4, 3) := px_tab_at tJ9_max_7cf53_ok 4 (e := (6, 3, .goto 4, 0, 0, .null)) rfl
theorem eJ9_max_7cf53_10 : decode mJ9_max_7cf53.2.1 10 = .ok (.ireturn, 1) := px_tab_at tJ9_max_7cf53_ok 6 (e := (10, 1, .ireturn, 0, 0, .null)) rfl
theorem eJ9_min_7cf53_2 : decode mJ9_min_7cf53.2.1 2 = .ok (.if_icmp .gt 7, 3) := px_tab_at tJ9_min_7cf53_ok 2 (e := (2, 3, .if_icmp .gt 7, 0, 0, .null)) rfl
theorem eJ9_min_7cf53_6 : decode mJ9_min_7cf53.2.1 6 = .ok (.goto 4, 3) := px_tab_at tJ9_min_7cf53_ok 4 (e := (6, 3, .goto 4, 0, 0, .null)) rfl
theorem eJ9_min_7cf53_10 : decode mJ9_min_7cf53.2.1 10 = .ok (.ireturn, 1) := px_tab_at tJ9_min_7cf53_ok 6 (e := (10, 1, .ireturn, 0, 0, .null)) rfl
theorem eL_law_0 : decode mL_law.2.1 0 = .ok (.new 7, 3) := px_tab_at tL_law_ok 0 (e := (0, 3, .new 7, 0, 0, .null)) rfl
theorem eL_law_4 : decode mL_law.2.1 4 = .ok (.invokespecial 9, 3) := px_tab_at tL_law_ok 2 (e := (4, 3, .invokespecial 9, 0, 0, .null)) rfl
theorem eL_law_8 : decode mL_law.2.1 8 = .ok (.new 10, 3) := px_tab_at tL_law_ok 4 (e := (8, 3, .new 10, 0, 0, .null)) rfl
theorem eL_law_12 : decode mL_law.2.1 12 = .ok (.invokespecial 12, 3) := px_tab_at tL_law_ok 6 (e := (12, 3, .invokespecial 12, 0, 0, .null)) rfl
theorem eL_law_24 : decode mL_law.2.1 24 = .ok (.if_icmp .gt 1003, 3) := px_tab_at tL_law_ok 15 (e := (24, 3, .if_icmp .gt 1003, 0, 0, .null)) rfl
theorem eL_law_33 : decode mL_law.2.1 33 = .ok (.tableswitch 988 0 30 #[139, 202, 225, 238, 251, 284, 317, 350, 383, 406, 429, 462, 485, 508, 521, 534, 603, 626, 649, 682, 705, 728, 751, 774, 817, 850, 863, 896, 919, 942, 965], 139) := px_tab_at tL_law_ok 21 (e := (33, 139, .tableswitch 988 0 30 #[139, 202, 225, 238, 251, 284, 317, 350, 383, 406, 429, 462, 485, 508, 521, 534, 603, 626, 649, 682, 705, 728, 751, 774, 817, 850, 863, 896, 919, 942, 965], 0, 0, .null)) rfl
theorem eL_law_198 : decode mL_law.2.1 198 = .ok (.invokevirtual 13, 3) := px_tab_at tL_law_ok 48 (e := (198, 3, .invokevirtual 13, 0, 0, .null)) rfl
theorem eL_law_227 : decode mL_law.2.1 227 = .ok (.invokevirtual 17, 3) := px_tab_at tL_law_ok 75 (e := (227, 3, .invokevirtual 17, 0, 0, .null)) rfl
theorem eL_law_230 : decode mL_law.2.1 230 = .ok (.if_icmp .eq 791, 3) := px_tab_at tL_law_ok 76 (e := (230, 3, .if_icmp .eq 791, 0, 0, .null)) rfl
theorem eL_law_234 : decode mL_law.2.1 234 = .ok (.ireturn, 1) := px_tab_at tL_law_ok 78 (e := (234, 1, .ireturn, 0, 0, .null)) rfl
theorem eL_law_241 : decode mL_law.2.1 241 = .ok (.invokevirtual 18, 3) := px_tab_at tL_law_ok 85 (e := (241, 3, .invokevirtual 18, 0, 0, .null)) rfl
theorem eL_law_250 : decode mL_law.2.1 250 = .ok (.invokevirtual 22, 3) := px_tab_at tL_law_ok 92 (e := (250, 3, .invokevirtual 22, 0, 0, .null)) rfl
theorem eL_law_253 : decode mL_law.2.1 253 = .ok (.if_icmp .eq 768, 3) := px_tab_at tL_law_ok 93 (e := (253, 3, .if_icmp .eq 768, 0, 0, .null)) rfl
theorem eL_law_257 : decode mL_law.2.1 257 = .ok (.ireturn, 1) := px_tab_at tL_law_ok 95 (e := (257, 1, .ireturn, 0, 0, .null)) rfl
theorem eL_law_259 : decode mL_law.2.1 259 = .ok (.invokevirtual 23, 3) := px_tab_at tL_law_ok 97 (e := (259, 3, .invokevirtual 23, 0, 0, .null)) rfl
theorem eL_law_263 : decode mL_law.2.1 263 = .ok (.invokevirtual 27, 3) := px_tab_at tL_law_ok 99 (e := (263, 3, .invokevirtual 27, 0, 0, .null)) rfl
theorem eL_law_266 : decode mL_law.2.1 266 = .ok (.if_icmp .eq 755, 3) := px_tab_at tL_law_ok 100 (e := (266, 3, .if_icmp .eq 755, 0, 0, .null)) rfl
theorem eL_law_270 : decode mL_law.2.1 270 = .ok (.ireturn, 1) := px_tab_at tL_law_ok 102 (e := (270, 1, .ireturn, 0, 0, .null)) rfl
theorem eL_law_272 : decode mL_law.2.1 272 = .ok (.invokevirtual 28, 3) := px_tab_at tL_law_ok 104 (e := (272, 3, .invokevirtual 28, 0, 0, .null)) rfl
theorem eL_law_276 : decode mL_law.2.1 276 = .ok (.invokevirtual 31, 3) := px_tab_at tL_law_ok 106 (e := (276, 3, .invokevirtual 31, 0, 0, .null)) rfl
theorem eL_law_279 : decode mL_law.2.1 279 = .ok (.if_icmp .eq 742, 3) := px_tab_at tL_law_ok 107 (e := (279, 3, .if_icmp .eq 742, 0, 0, .null)) rfl
theorem eL_law_283 : decode mL_law.2.1 283 = .ok (.ireturn, 1) := px_tab_at tL_law_ok 109 (e := (283, 1, .ireturn, 0, 0, .null)) rfl
theorem eL_law_295 : decode mL_law.2.1 295 = .ok (.invokevirtual 32, 3) := px_tab_at tL_law_ok 121 (e := (295, 3, .invokevirtual 32, 0, 0, .null)) rfl
theorem eL_law_309 : decode mL_law.2.1 309 = .ok (.invokevirtual 36, 3) := px_tab_at tL_law_ok 133 (e := (309, 3, .invokevirtual 36, 0, 0, .null)) rfl
theorem eL_law_312 : decode mL_law.2.1 312 = .ok (.if_icmp .eq 709, 3) := px_tab_at tL_law_ok 134 (e := (312, 3, .if_icmp .eq 709, 0, 0, .null)) rfl
theorem eL_law_316 : decode mL_law.2.1 316 = .ok (.ireturn, 1) := px_tab_at tL_law_ok 136 (e := (316, 1, .ireturn, 0, 0, .null)) rfl
theorem eL_law_328 : decode mL_law.2.1 328 = .ok (.invokevirtual 37, 3) := px_tab_at tL_law_ok 148 (e := (328, 3, .invokevirtual 37, 0, 0, .null)) rfl
theorem eL_law_342 : decode mL_law.2.1 342 = .ok (.invokevirtual 40, 3) := px_tab_at tL_law_ok 160 (e := (342, 3, .invokevirtual 40, 0, 0, .null)) rfl
theorem eL_law_345 : decode mL_law.2.1 345 = .ok (.if_icmp .eq 676, 3) := px_tab_at tL_law_ok 161 (e := (345, 3, .if_icmp .eq 676, 0, 0, .null)) rfl
theorem eL_law_349 : decode mL_law.2.1 349 = .ok (.ireturn, 1) := px_tab_at tL_law_ok 163 (e := (349, 1, .ireturn, 0, 0, .null)) rfl
theorem eL_law_361 : decode mL_law.2.1 361 = .ok (.invokevirtual 41, 3) := px_tab_at tL_law_ok 175 (e := (361, 3, .invokevirtual 41, 0, 0, .null)) rfl
theorem eL_law_375 : decode mL_law.2.1 375 = .ok (.invokevirtual 44, 3) := px_tab_at tL_law_ok 187 (e := (375, 3, .invokevirtual 44, 0, 0, .null)) rfl
theorem eL_law_378 : decode mL_law.2.1 378 = .ok (.if_icmp .eq 643, 3) := px_tab_at tL_law_ok 188 (e := (378, 3, .if_icmp .eq 643, 0, 0, .null)) rfl
theorem eL_law_382 : decode mL_law.2.1 382 = .ok (.ireturn, 1) := px_tab_at tL_law_ok 190 (e := (382, 1, .ireturn, 0, 0, .null)) rfl
set_option maxRecDepth 100000 in
theorem eL_law_394 : decode mL_law.2.1 394 = .ok (.invokevirtual 45, 3) := px_tab_at tL_law_ok 202 (e := (394, 3, .invokevirtual 45, 0, 0, .null)) rfl
set_option maxRecDepth 100000 in
theorem eL_law_408 : decode mL_law.2.1 408 = .ok (.invokevirtual 48, 3) := px_tab_at tL_law_ok 214 (e := (408, 3, .invokevirtual 48, 0, 0, .null)) rfl
set_option maxRecDepth 100000 in
theorem eL_law_411 : decode mL_law.2.1 411 = .ok (.if_icmp .eq 610, 3) := px_tab_at tL_law_ok 215 (e := (411, 3, .if_icmp .eq 610, 0, 0, .null)) rfl
set_option maxRecDepth 100000 in
theorem eL_law_415 : decode mL_law.2.1 415 = .ok (.ireturn, 1) := px_tab_at tL_law_ok 217 (e := (415, 1, .ireturn, 0, 0, .null)) rfl
set_option maxRecDepth 100000 in
theorem eL_law_422 : decode mL_law.2.1 422 = .ok (.invokevirtual 49, 3) := px_tab_at tL_law_ok 224 (e := (422, 3, .invokevirtual 49, 0, 0, .null)) rfl
set_option maxRecDepth 100000 in
theorem eL_law_431 : decode mL_law.2.1 431 = .ok (.invokevirtual 52, 3) := px_tab_at tL_law_ok 231 (e := (431, 3, .invokevirtual 52, 0, 0, .null)) rfl
set_option maxRecDepth 100000 in
theorem eL_law_434 : decode mL_law.2.1 434 = .ok (.if_icmp .eq 587, 3) := px_tab_at tL_law_ok 232 (e := (434, 3, .if_icmp .eq 587, 0, 0, .null)) rfl
set_option maxRecDepth 100000 in
theorem eL_law_438 : decode mL_law.2.1 438 = .ok (.ireturn, 1) := px_tab_at tL_law_ok 234 (e := (438, 1, .ireturn, 0, 0, .null)) rfl
set_option maxRecDepth 100000 in
theorem eL_law_445 : decode mL_law.2.1 445 = .ok (.invokevirtual 53, 3) := px_tab_at tL_law_ok 241 (e := (445, 3, .invokevirtual 53, 0, 0, .null)) rfl
set_option maxRecDepth 100000 in
theorem eL_law_454 : decode mL_law.2.1 454 = .ok (.invokevirtual 57, 3) := px_tab_at tL_law_ok 248 (e := (454, 3, .invokevirtual 57, 0, 0, .null)) rfl
set_option maxRecDepth 100000 in
theorem eL_law_457 : decode mL_law.2.1 457 = .ok (.if_icmp .eq 564, 3) := px_tab_at tL_law_ok 249 (e := (457, 3, .if_icmp .eq 564, 0, 0, .null)) rfl
set_option maxRecDepth 100000 in
theorem eL_law_461 : decode mL_law.2.1 461 = .ok (.ireturn, 1) := px_tab_at tL_law_ok 251 (e := (461, 1, .ireturn, 0, 0, .null)) rfl
set_option maxRecDepth 100000 in
theorem eL_law_473 : decode mL_law.2.1 473 = .ok (.invokevirtual 58, 3) := px_tab_at tL_law_ok 263 (e := (473, 3, .invokevirtual 58, 0, 0, .null)) rfl
set_option maxRecDepth 100000 in
theorem eL_law_487 : decode mL_law.2.1 487 = .ok (.invokevirtual 62, 3) := px_tab_at tL_law_ok 275 (e := (487, 3, .invokevirtual 62, 0, 0, .null)) rfl
set_option maxRecDepth 100000 in
theorem eL_law_490 : decode mL_law.2.1 490 = .ok (.if_icmp .eq 531, 3) := px_tab_at tL_law_ok 276 (e := (490, 3, .if_icmp .eq 531, 0, 0, .null)) rfl
set_option maxRecDepth 100000 in
theorem eL_law_494 : decode mL_law.2.1 494 = .ok (.ireturn, 1) := px_tab_at tL_law_ok 278 (e := (494, 1, .ireturn, 0, 0, .null)) rfl
set_option maxRecDepth 100000 in
theorem eL_law_501 : decode mL_law.2.1 501 = .ok (.invokevirtual 63, 3) := px_tab_at tL_law_ok 285 (e := (501, 3, .invokevirtual 63, 0, 0, .null)) rfl
set_option maxRecDepth 100000 in
theorem eL_law_510 : decode mL_law.2.1 510 = .ok (.invokevirtual 66, 3) := px_tab_at tL_law_ok 292 (e := (510, 3, .invokevirtual 66, 0, 0, .null)) rfl
set_option maxRecDepth 100000 in
theorem eL_law_513 : decode mL_law.2.1 513 = .ok (.if_icmp .eq 508, 3) := px_tab_at tL_law_ok 293 (e := (513, 3, .if_icmp .eq 508, 0, 0, .null)) rfl
set_option maxRecDepth 100000 in
theorem eL_law_517 : decode mL_law.2.1 517 = .ok (.ireturn, 1) := px_tab_at tL_law_ok 295 (e := (517, 1, .ireturn, 0, 0, .null)) rfl
set_option maxRecDepth 100000 in
theorem eL_law_524 : decode mL_law.2.1 524 = .ok (.invokevirtual 67, 3) := px_tab_at tL_law_ok 302 (e := (524, 3, .invokevirtual 67, 0, 0, .null)) rfl
set_option maxRecDepth 100000 in
theorem eL_law_533 : decode mL_law.2.1 533 = .ok (.invokevirtual 70, 3) := px_tab_at tL_law_ok 309 (e := (533, 3, .invokevirtual 70, 0, 0, .null)) rfl
set_option maxRecDepth 100000 in
theorem eL_law_536 : decode mL_law.2.1 536 = .ok (.if_icmp .eq 485, 3) := px_tab_at tL_law_ok 310 (e := (536, 3, .if_icmp .eq 485, 0, 0, .null)) rfl
set_option maxRecDepth 100000 in
theorem eL_law_540 : decode mL_law.2.1 540 = .ok (.ireturn, 1) := px_tab_at tL_law_ok 312 (e := (540, 1, .ireturn, 0, 0, .null)) rfl
set_option maxRecDepth 100000 in
theorem eL_law_542 : decode mL_law.2.1 542 = .ok (.invokevirtual 71, 3) := px_tab_at tL_law_ok 314 (e := (542, 3, .invokevirtual 71, 0, 0, .null)) rfl
set_option maxRecDepth 100000 in
theorem eL_law_546 : decode mL_law.2.1 546 = .ok (.invokevirtual 74, 3) := px_tab_at tL_law_ok 316 (e := (546, 3, .invokevirtual 74, 0, 0, .null)) rfl
set_option maxRecDepth 100000 in
theorem eL_law_549 : decode mL_law.2.1 549 = .ok (.if_icmp .eq 472, 3) := px_tab_at tL_law_ok 317 (e := (549, 3, .if_icmp .eq 472, 0, 0, .null)) rfl
set_option maxRecDepth 100000 in
theorem eL_law_553 : decode mL_law.2.1 553 = .ok (.ireturn, 1) := px_tab_at tL_law_ok 319 (e := (553, 1, .ireturn, 0, 0, .null)) rfl
set_option maxRecDepth 100000 in
theorem eL_law_555 : decode mL_law.2.1 555 = .ok (.invokevirtual 75, 3) := px_tab_at tL_law_ok 321 (e := (555, 3, .invokevirtual 75, 0, 0, .null)) rfl
set_option maxRecDepth 100000 in
theorem eL_law_559 : decode mL_law.2.1 559 = .ok (.invokevirtual 79, 3) := px_tab_at tL_law_ok 323 (e := (559, 3, .invokevirtual 79, 0, 0, .null)) rfl
set_option maxRecDepth 100000 in
theorem eL_law_562 : decode mL_law.2.1 562 = .ok (.if_icmp .eq 459, 3) := px_tab_at tL_law_ok 324 (e := (562, 3, .if_icmp .eq 459, 0, 0, .null)) rfl
set_option maxRecDepth 100000 in
theorem eL_law_566 : decode mL_law.2.1 566 = .ok (.ireturn, 1) := px_tab_at tL_law_ok 326 (e := (566, 1, .ireturn, 0, 0, .null)) rfl
set_option maxRecDepth 100000 in
theorem eL_law_578 : decode mL_law.2.1 578 = .ok (.ifCond .eq 7, 3) := px_tab_at tL_law_ok 338 (e := (578, 3, .ifCond .eq 7, 0, 0, .null)) rfl
set_option maxRecDepth 100000 in
theorem eL_law_582 : decode mL_law.2.1 582 = .ok (.goto 4, 3) := px_tab_at tL_law_ok 340 (e := (582, 3, .goto 4, 0, 0, .null)) rfl
set_option maxRecDepth 100000 in
theorem eL_law_596 : decode mL_law.2.1 596 = .ok (.invokevirtual 80, 3) := px_tab_at tL_law_ok 352 (e := (596, 3, .invokevirtual 80, 0, 0, .null)) rfl
set_option maxRecDepth 100000 in
theorem eL_law_610 : decode mL_law.2.1 610 = .ok (.ifCond .eq 7, 3) := px_tab_at tL_law_ok 364 (e := (610, 3, .ifCond .eq 7, 0, 0, .null)) rfl
set_option maxRecDepth 100000 in
theorem eL_law_614 : decode mL_law.2.1 614 = .ok (.goto 4, 3) := px_tab_at tL_law_ok 366 (e := (614, 3, .goto 4, 0, 0, .null)) rfl
set_option maxRecDepth 100000 in
theorem eL_law_628 : decode mL_law.2.1 628 = .ok (.invokevirtual 84, 3) := px_tab_at tL_law_ok 378 (e := (628, 3, .invokevirtual 84, 0, 0, .null)) rfl
set_option maxRecDepth 100000 in
theorem eL_law_631 : decode mL_law.2.1 631 = .ok (.if_icmp .eq 390, 3) := px_tab_at tL_law_ok 379 (e := (631, 3, .if_icmp .eq 390, 0, 0, .null)) rfl
set_option maxRecDepth 100000 in
theorem eL_law_635 : decode mL_law.2.1 635 = .ok (.ireturn, 1) := px_tab_at tL_law_ok 381 (e := (635, 1, .ireturn, 0, 0, .null)) rfl
set_option maxRecDepth 100000 in
theorem eL_law_642 : decode mL_law.2.1 642 = .ok (.invokevirtual 85, 3) := px_tab_at tL_law_ok 388 (e := (642, 3, .invokevirtual 85, 0, 0, .null)) rfl
set_option maxRecDepth 100000 in
theorem eL_law_651 : decode mL_law.2.1 651 = .ok (.invokevirtual 88, 3) := px_tab_at tL_law_ok 395 (e := (651, 3, .invokevirtual 88, 0, 0, .null)) rfl
set_option maxRecDepth 100000 in
theorem eL_law_654 : decode mL_law.2.1 654 = .ok (.if_icmp .eq 367, 3) := px_tab_at tL_law_ok 396 (e := (654, 3, .if_icmp .eq 367, 0, 0, .null)) rfl
set_option maxRecDepth 100000 in
theorem eL_law_658 : decode mL_law.2.1 658 = .ok (.ireturn, 1) := px_tab_at tL_law_ok 398 (e := (658, 1, .ireturn, 0, 0, .null)) rfl
set_option maxRecDepth 100000 in
theorem eL_law_665 : decode mL_law.2.1 665 = .ok (.invokevirtual 89, 3) := px_tab_at tL_law_ok 405 (e := (665, 3, .invokevirtual 89, 0, 0, .null)) rfl
set_option maxRecDepth 100000 in
theorem eL_law_674 : decode mL_law.2.1 674 = .ok (.invokevirtual 92, 3) := px_tab_at tL_law_ok 412 (e := (674, 3, .invokevirtual 92, 0, 0, .null)) rfl
set_option maxRecDepth 100000 in
theorem eL_law_677 : decode mL_law.2.1 677 = .ok (.if_icmp .eq 344, 3) := px_tab_at tL_law_ok 413 (e := (677, 3, .if_icmp .eq 344, 0, 0, .null)) rfl
set_option maxRecDepth 100000 in
theorem eL_law_681 : decode mL_law.2.1 681 = .ok (.ireturn, 1) := px_tab_at tL_law_ok 415 (e := (681, 1, .ireturn, 0, 0, .null)) rfl
set_option maxRecDepth 100000 in
theorem eL_law_693 : decode mL_law.2.1 693 = .ok (.invokevirtual 93, 3) := px_tab_at tL_law_ok 427 (e := (693, 3, .invokevirtual 93, 0, 0, .null)) rfl
set_option maxRecDepth 100000 in
theorem eL_law_707 : decode mL_law.2.1 707 = .ok (.invokevirtual 96, 3) := px_tab_at tL_law_ok 439 (e := (707, 3, .invokevirtual 96, 0, 0, .null)) rfl
set_option maxRecDepth 100000 in
theorem eL_law_710 : decode mL_law.2.1 710 = .ok (.if_icmp .eq 311, 3) := px_tab_at tL_law_ok 440 (e := (710, 3, .if_icmp .eq 311, 0, 0, .null)) rfl
set_option maxRecDepth 100000 in
theorem eL_law_714 : decode mL_law.2.1 714 = .ok (.ireturn, 1) := px_tab_at tL_law_ok 442 (e := (714, 1, .ireturn, 0, 0, .null)) rfl
set_option maxRecDepth 100000 in
theorem eL_law_721 : decode mL_law.2.1 721 = .ok (.invokevirtual 97, 3) := px_tab_at tL_law_ok 449 (e := (721, 3, .invokevirtual 97, 0, 0, .null)) rfl
set_option maxRecDepth 100000 in
theorem eL_law_730 : decode mL_law.2.1 730 = .ok (.invokevirtual 100, 3) := px_tab_at tL_law_ok 456 (e := (730, 3, .invokevirtual 100, 0, 0, .null)) rfl
set_option maxRecDepth 100000 in
theorem eL_law_733 : decode mL_law.2.1 733 = .ok (.if_icmp .eq 288, 3) := px_tab_at tL_law_ok 457 (e := (733, 3, .if_icmp .eq 288, 0, 0, .null)) rfl
set_option maxRecDepth 100000 in
theorem eL_law_737 : decode mL_law.2.1 737 = .ok (.ireturn, 1) := px_tab_at tL_law_ok 459 (e := (737, 1, .ireturn, 0, 0, .null)) rfl
set_option maxRecDepth 100000 in
theorem eL_law_744 : decode mL_law.2.1 744 = .ok (.invokevirtual 101, 3) := px_tab_at tL_law_ok 466 (e := (744, 3, .invokevirtual 101, 0, 0, .null)) rfl
set_option maxRecDepth 100000 in
theorem eL_law_753 : decode mL_law.2.1 753 = .ok (.invokevirtual 104, 3) := px_tab_at tL_law_ok 473 (e := (753, 3, .invokevirtual 104, 0, 0, .null)) rfl
set_option maxRecDepth 100000 in
theorem eL_law_756 : decode mL_law.2.1 756 = .ok (.if_icmp .eq 265, 3) := px_tab_at tL_law_ok 474 (e := (756, 3, .if_icmp .eq 265, 0, 0, .null)) rfl
set_option maxRecDepth 100000 in
theorem eL_law_760 : decode mL_law.2.1 760 = .ok (.ireturn, 1) := px_tab_at tL_law_ok 476 (e := (760, 1, .ireturn, 0, 0, .null)) rfl
set_option maxRecDepth 100000 in
theorem eL_law_767 : decode mL_law.2.1 767 = .ok (.invokevirtual 105, 3) := px_tab_at tL_law_ok 483 (e := (767, 3, .invokevirtual 105, 0, 0, .null)) rfl
set_option maxRecDepth 100000 in
theorem eL_law_776 : decode mL_law.2.1 776 = .ok (.invokevirtual 108, 3) := px_tab_at tL_law_ok 490 (e := (776, 3, .invokevirtual 108, 0, 0, .null)) rfl
set_option maxRecDepth 100000 in
theorem eL_law_779 : decode mL_law.2.1 779 = .ok (.if_icmp .eq 242, 3) := px_tab_at tL_law_ok 491 (e := (779, 3, .if_icmp .eq 242, 0, 0, .null)) rfl
set_option maxRecDepth 100000 in
theorem eL_law_783 : decode mL_law.2.1 783 = .ok (.ireturn, 1) := px_tab_at tL_law_ok 493 (e := (783, 1, .ireturn, 0, 0, .null)) rfl
set_option maxRecDepth 100000 in
theorem eL_law_790 : decode mL_law.2.1 790 = .ok (.invokevirtual 109, 3) := px_tab_at tL_law_ok 500 (e := (790, 3, .invokevirtual 109, 0, 0, .null)) rfl
set_option maxRecDepth 100000 in
theorem eL_law_799 : decode mL_law.2.1 799 = .ok (.invokevirtual 112, 3) := px_tab_at tL_law_ok 507 (e := (799, 3, .invokevirtual 112, 0, 0, .null)) rfl
set_option maxRecDepth 100000 in
theorem eL_law_802 : decode mL_law.2.1 802 = .ok (.if_icmp .eq 219, 3) := px_tab_at tL_law_ok 508 (e := (802, 3, .if_icmp .eq 219, 0, 0, .null)) rfl
set_option maxRecDepth 100000 in
theorem eL_law_806 : decode mL_law.2.1 806 = .ok (.ireturn, 1) := px_tab_at tL_law_ok 510 (e := (806, 1, .ireturn, 0, 0, .null)) rfl
set_option maxRecDepth 100000 in
theorem eL_law_823 : decode mL_law.2.1 823 = .ok (.invokevirtual 113, 3) := px_tab_at tL_law_ok 527 (e := (823, 3, .invokevirtual 113, 0, 0, .null)) rfl
set_option maxRecDepth 100000 in
theorem eL_law_842 : decode mL_law.2.1 842 = .ok (.invokevirtual 117, 3) := px_tab_at tL_law_ok 544 (e := (842, 3, .invokevirtual 117, 0, 0, .null)) rfl
set_option maxRecDepth 100000 in
theorem eL_law_845 : decode mL_law.2.1 845 = .ok (.if_icmp .eq 176, 3) := px_tab_at tL_law_ok 545 (e := (845, 3, .if_icmp .eq 176, 0, 0, .null)) rfl
set_option maxRecDepth 100000 in
theorem eL_law_849 : decode mL_law.2.1 849 = .ok (.ireturn, 1) := px_tab_at tL_law_ok 547 (e := (849, 1, .ireturn, 0, 0, .null)) rfl
set_option maxRecDepth 100000 in
theorem eL_law_861 : decode mL_law.2.1 861 = .ok (.invokevirtual 118, 3) := px_tab_at tL_law_ok 559 (e := (861, 3, .invokevirtual 118, 0, 0, .null)) rfl
set_option maxRecDepth 100000 in
theorem eL_law_875 : decode mL_law.2.1 875 = .ok (.invokevirtual 121, 3) := px_tab_at tL_law_ok 571 (e := (875, 3, .invokevirtual 121, 0, 0, .null)) rfl
set_option maxRecDepth 100000 in
theorem eL_law_878 : decode mL_law.2.1 878 = .ok (.if_icmp .eq 143, 3) := px_tab_at tL_law_ok 572 (e := (878, 3, .if_icmp .eq 143, 0, 0, .null)) rfl
set_option maxRecDepth 100000 in
theorem eL_law_882 : decode mL_law.2.1 882 = .ok (.ireturn, 1) := px_tab_at tL_law_ok 574 (e := (882, 1, .ireturn, 0, 0, .null)) rfl
set_option maxRecDepth 100000 in
theorem eL_law_884 : decode mL_law.2.1 884 = .ok (.invokevirtual 122, 3) := px_tab_at tL_law_ok 576 (e := (884, 3, .invokevirtual 122, 0, 0, .null)) rfl
set_option maxRecDepth 100000 in
theorem eL_law_888 : decode mL_law.2.1 888 = .ok (.invokevirtual 125, 3) := px_tab_at tL_law_ok 578 (e := (888, 3, .invokevirtual 125, 0, 0, .null)) rfl
set_option maxRecDepth 100000 in
theorem eL_law_891 : decode mL_law.2.1 891 = .ok (.if_icmp .eq 130, 3) := px_tab_at tL_law_ok 579 (e := (891, 3, .if_icmp .eq 130, 0, 0, .null)) rfl
set_option maxRecDepth 100000 in
theorem eL_law_895 : decode mL_law.2.1 895 = .ok (.ireturn, 1) := px_tab_at tL_law_ok 581 (e := (895, 1, .ireturn, 0, 0, .null)) rfl
set_option maxRecDepth 100000 in
theorem eL_law_907 : decode mL_law.2.1 907 = .ok (.invokevirtual 126, 3) := px_tab_at tL_law_ok 593 (e := (907, 3, .invokevirtual 126, 0, 0, .null)) rfl
set_option maxRecDepth 100000 in
theorem eL_law_921 : decode mL_law.2.1 921 = .ok (.invokevirtual 129, 3) := px_tab_at tL_law_ok 605 (e := (921, 3, .invokevirtual 129, 0, 0, .null)) rfl
set_option maxRecDepth 100000 in
theorem eL_law_924 : decode mL_law.2.1 924 = .ok (.if_icmp .eq 97, 3) := px_tab_at tL_law_ok 606 (e := (924, 3, .if_icmp .eq 97, 0, 0, .null)) rfl
set_option maxRecDepth 100000 in
theorem eL_law_928 : decode mL_law.2.1 928 = .ok (.ireturn, 1) := px_tab_at tL_law_ok 608 (e := (928, 1, .ireturn, 0, 0, .null)) rfl
set_option maxRecDepth 100000 in
theorem eL_law_935 : decode mL_law.2.1 935 = .ok (.invokevirtual 130, 3) := px_tab_at tL_law_ok 615 (e := (935, 3, .invokevirtual 130, 0, 0, .null)) rfl
set_option maxRecDepth 100000 in
theorem eL_law_944 : decode mL_law.2.1 944 = .ok (.invokevirtual 133, 3) := px_tab_at tL_law_ok 622 (e := (944, 3, .invokevirtual 133, 0, 0, .null)) rfl
set_option maxRecDepth 100000 in
theorem eL_law_947 : decode mL_law.2.1 947 = .ok (.if_icmp .eq 74, 3) := px_tab_at tL_law_ok 623 (e := (947, 3, .if_icmp .eq 74, 0, 0, .null)) rfl
set_option maxRecDepth 100000 in
theorem eL_law_951 : decode mL_law.2.1 951 = .ok (.ireturn, 1) := px_tab_at tL_law_ok 625 (e := (951, 1, .ireturn, 0, 0, .null)) rfl
set_option maxRecDepth 100000 in
theorem eL_law_958 : decode mL_law.2.1 958 = .ok (.invokevirtual 134, 3) := px_tab_at tL_law_ok 632 (e := (958, 3, .invokevirtual 134, 0, 0, .null)) rfl
set_option maxRecDepth 100000 in
theorem eL_law_967 : decode mL_law.2.1 967 = .ok (.invokevirtual 137, 3) := px_tab_at tL_law_ok 639 (e := (967, 3, .invokevirtual 137, 0, 0, .null)) rfl
set_option maxRecDepth 100000 in
theorem eL_law_970 : decode mL_law.2.1 970 = .ok (.if_icmp .eq 51, 3) := px_tab_at tL_law_ok 640 (e := (970, 3, .if_icmp .eq 51, 0, 0, .null)) rfl
set_option maxRecDepth 100000 in
theorem eL_law_974 : decode mL_law.2.1 974 = .ok (.ireturn, 1) := px_tab_at tL_law_ok 642 (e := (974, 1, .ireturn, 0, 0, .null)) rfl
set_option maxRecDepth 100000 in
theorem eL_law_981 : decode mL_law.2.1 981 = .ok (.invokevirtual 138, 3) := px_tab_at tL_law_ok 649 (e := (981, 3, .invokevirtual 138, 0, 0, .null)) rfl
set_option maxRecDepth 100000 in
theorem eL_law_990 : decode mL_law.2.1 990 = .ok (.invokevirtual 141, 3) := px_tab_at tL_law_ok 656 (e := (990, 3, .invokevirtual 141, 0, 0, .null)) rfl
set_option maxRecDepth 100000 in
theorem eL_law_993 : decode mL_law.2.1 993 = .ok (.if_icmp .eq 28, 3) := px_tab_at tL_law_ok 657 (e := (993, 3, .if_icmp .eq 28, 0, 0, .null)) rfl
set_option maxRecDepth 100000 in
theorem eL_law_997 : decode mL_law.2.1 997 = .ok (.ireturn, 1) := px_tab_at tL_law_ok 659 (e := (997, 1, .ireturn, 0, 0, .null)) rfl
set_option maxRecDepth 100000 in
theorem eL_law_1004 : decode mL_law.2.1 1004 = .ok (.invokevirtual 142, 3) := px_tab_at tL_law_ok 666 (e := (1004, 3, .invokevirtual 142, 0, 0, .null)) rfl
set_option maxRecDepth 100000 in
theorem eL_law_1013 : decode mL_law.2.1 1013 = .ok (.invokevirtual 145, 3) := px_tab_at tL_law_ok 673 (e := (1013, 3, .invokevirtual 145, 0, 0, .null)) rfl
set_option maxRecDepth 100000 in
theorem eL_law_1016 : decode mL_law.2.1 1016 = .ok (.if_icmp .eq 5, 3) := px_tab_at tL_law_ok 674 (e := (1016, 3, .if_icmp .eq 5, 0, 0, .null)) rfl
set_option maxRecDepth 100000 in
theorem eL_law_1020 : decode mL_law.2.1 1020 = .ok (.ireturn, 1) := px_tab_at tL_law_ok 676 (e := (1020, 1, .ireturn, 0, 0, .null)) rfl
set_option maxRecDepth 100000 in
theorem eL_law_1024 : decode mL_law.2.1 1024 = .ok (.goto (-1006), 3) := px_tab_at tL_law_ok 678 (e := (1024, 3, .goto (-1006), 0, 0, .null)) rfl
set_option maxRecDepth 100000 in
theorem eL_law_1028 : decode mL_law.2.1 1028 = .ok (.ireturn, 1) := px_tab_at tL_law_ok 680 (e := (1028, 1, .ireturn, 0, 0, .null)) rfl
