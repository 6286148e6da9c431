/-! THE LAW: where it reads its script -/
set_option maxRecDepth 100000 in
theorem dL_20 : decode mL_law.2.1 20 = .ok (.arraylength, 1) := px_tab_at tL_law_ok 12 (e := (20, 1, .arraylength, 0, 0, .null)) rfl
set_option maxRecDepth 100000 in
theorem dL_29 : decode mL_law.2.1 29 = .ok (.iaload, 1) := px_tab_at tL_law_ok 18 (e := (29, 1, .iaload, 0, 0, .null)) rfl
set_option maxRecDepth 100000 in
theorem dL_177 : decode mL_law.2.1 177 = .ok (.iaload, 1) := px_tab_at tL_law_ok 27 (e := (177, 1, .iaload, 0, 0, .null)) rfl
set_option maxRecDepth 100000 in
theorem dL_182 : decode mL_law.2.1 182 = .ok (.iaload, 1) := px_tab_at tL_law_ok 32 (e := (182, 1, .iaload, 0, 0, .null)) rfl
set_option maxRecDepth 100000 in
theorem dL_187 : decode mL_law.2.1 187 = .ok (.iaload, 1) := px_tab_at tL_law_ok 37 (e := (187, 1, .iaload, 0, 0, .null)) rfl
set_option maxRecDepth 100000 in
theorem dL_192 : decode mL_law.2.1 192 = .ok (.iaload, 1) := px_tab_at tL_law_ok 42 (e := (192, 1, .iaload, 0, 0, .null)) rfl
set_option maxRecDepth 100000 in
theorem dL_197 : decode mL_law.2.1 197 = .ok (.iaload, 1) := px_tab_at tL_law_ok 47 (e := (197, 1, .iaload, 0, 0, .null)) rfl
set_option maxRecDepth 100000 in
theorem dL_206 : decode mL_law.2.1 206 = .ok (.iaload, 1) := px_tab_at tL_law_ok 54 (e := (206, 1, .iaload, 0, 0, .null)) rfl
set_option maxRecDepth 100000 in
theorem dL_211 : decode mL_law.2.1 211 = .ok (.iaload, 1) := px_tab_at tL_law_ok 59 (e := (211, 1, .iaload, 0, 0, .null)) rfl
set_option maxRecDepth 100000 in
theorem dL_216 : decode mL_law.2.1 216 = .ok (.iaload, 1) := px_tab_at tL_law_ok 64 (e := (216, 1, .iaload, 0, 0, .null)) rfl
set_option maxRecDepth 100000 in
theorem dL_221 : decode mL_law.2.1 221 = .ok (.iaload, 1) := px_tab_at tL_law_ok 69 (e := (221, 1, .iaload, 0, 0, .null)) rfl
set_option maxRecDepth 100000 in
theorem dL_226 : decode mL_law.2.1 226 = .ok (.iaload, 1) := px_tab_at tL_law_ok 74 (e := (226, 1, .iaload, 0, 0, .null)) rfl
set_option maxRecDepth 100000 in
theorem dL_240 : decode mL_law.2.1 240 = .ok (.iaload, 1) := px_tab_at tL_law_ok 84 (e := (240, 1, .iaload, 0, 0, .null)) rfl
set_option maxRecDepth 100000 in
theorem dL_249 : decode mL_law.2.1 249 = .ok (.iaload, 1) := px_tab_at tL_law_ok 91 (e := (249, 1, .iaload, 0, 0, .null)) rfl
set_option maxRecDepth 100000 in
theorem dL_289 : decode mL_law.2.1 289 = .ok (.iaload, 1) := px_tab_at tL_law_ok 115 (e := (289, 1, .iaload, 0, 0, .null)) rfl
set_option maxRecDepth 100000 in
theorem dL_294 : decode mL_law.2.1 294 = .ok (.iaload, 1) := px_tab_at tL_law_ok 120 (e := (294, 1, .iaload, 0, 0, .null)) rfl
set_option maxRecDepth 100000 in
theorem dL_303 : decode mL_law.2.1 303 = .ok (.iaload, 1) := px_tab_at tL_law_ok 127 (e := (303, 1, .iaload, 0, 0, .null)) rfl
set_option maxRecDepth 100000 in
theorem dL_308 : decode mL_law.2.1 308 = .ok (.iaload, 1) := px_tab_at tL_law_ok 132 (e := (308, 1, .iaload, 0, 0, .null)) rfl
set_option maxRecDepth 100000 in
theorem dL_322 : decode mL_law.2.1 322 = .ok (.iaload, 1) := px_tab_at tL_law_ok 142 (e := (322, 1, .iaload, 0, 0, .null)) rfl
set_option maxRecDepth 100000 in
theorem dL_327 : decode mL_law.2.1 327 = .ok (.iaload, 1) := px_tab_at tL_law_ok 147 (e := (327, 1, .iaload, 0, 0, .null)) rfl
set_option maxRecDepth 100000 in
theorem dL_336 : decode mL_law.2.1 336 = .ok (.iaload, 1) := px_tab_at tL_law_ok 154 (e := (336, 1, .iaload, 0, 0, .null)) rfl
set_option maxRecDepth 100000 in
theorem dL_341 : decode mL_law.2.1 341 = .ok (.iaload, 1) := px_tab_at tL_law_ok 159 (e := (341, 1, .iaload, 0, 0, .null)) rfl
set_option maxRecDepth 100000 in
theorem dL_355 : decode mL_law.2.1 355 = .ok (.iaload, 1) := px_tab_at tL_law_ok 169 (e := (355, 1, .iaload, 0, 0, .null)) rfl
set_option maxRecDepth 100000 in
theorem dL_360 : decode mL_law.2.1 360 = .ok (.iaload, 1) := px_tab_at tL_law_ok 174 (e := (360, 1, .iaload, 0, 0, .null)) rfl
set_option maxRecDepth 100000 in
theorem dL_369 : decode mL_law.2.1 369 = .ok (.iaload, 1) := px_tab_at tL_law_ok 181 (e := (369, 1, .iaload, 0, 0, .null)) rfl
set_option maxRecDepth 100000 in
theorem dL_374 : decode mL_law.2.1 374 = .ok (.iaload, 1) := px_tab_at tL_law_ok 186 (e := (374, 1, .iaload, 0, 0, .null)) rfl
set_option maxRecDepth 100000 in
theorem dL_388 : decode mL_law.2.1 388 = .ok (.iaload, 1) := px_tab_at tL_law_ok 196 (e := (388, 1, .iaload, 0, 0, .null)) rfl
set_option maxRecDepth 100000 in
theorem dL_393 : decode mL_law.2.1 393 = .ok (.iaload, 1) := px_tab_at tL_law_ok 201 (e := (393, 1, .iaload, 0, 0, .null)) rfl
set_option maxRecDepth 100000 in
theorem dL_402 : decode mL_law.2.1 402 = .ok (.iaload, 1) := px_tab_at tL_law_ok 208 (e := (402, 1, .iaload, 0, 0, .null)) rfl
set_option maxRecDepth 100000 in
theorem dL_407 : decode mL_law.2.1 407 = .ok (.iaload, 1) := px_tab_at tL_law_ok 213 (e := (407, 1, .iaload, 0, 0, .null)) rfl
set_option maxRecDepth 100000 in
theorem dL_421 : decode mL_law.2.1 421 = .ok (.iaload, 1) := px_tab_at tL_law_ok 223 (e := (421, 1, .iaload, 0, 0, .null)) rfl
set_option maxRecDepth 100000 in
theorem dL_430 : decode mL_law.2.1 430 = .ok (.iaload, 1) := px_tab_at tL_law_ok 230 (e := (430, 1, .iaload, 0, 0, .null)) rfl
set_option maxRecDepth 100000 in
theorem dL_444 : decode mL_law.2.1 444 = .ok (.iaload, 1) := px_tab_at tL_law_ok 240 (e := (444, 1, .iaload, 0, 0, .null)) rfl
set_option maxRecDepth 100000 in
theorem dL_453 : decode mL_law.2.1 453 = .ok (.iaload, 1) := px_tab_at tL_law_ok 247 (e := (453, 1, .iaload, 0, 0, .null)) rfl
set_option maxRecDepth 100000 in
theorem dL_467 : decode mL_law.2.1 467 = .ok (.iaload, 1) := px_tab_at tL_law_ok 257 (e := (467, 1, .iaload, 0, 0, .null)) rfl
set_option maxRecDepth 100000 in
theorem dL_472 : decode mL_law.2.1 472 = .ok (.iaload, 1) := px_tab_at tL_law_ok 262 (e := (472, 1, .iaload, 0, 0, .null)) rfl
set_option maxRecDepth 100000 in
theorem dL_481 : decode mL_law.2.1 481 = .ok (.iaload, 1) := px_tab_at tL_law_ok 269 (e := (481, 1, .iaload, 0, 0, .null)) rfl
set_option maxRecDepth 100000 in
theorem dL_486 : decode mL_law.2.1 486 = .ok (.iaload, 1) := px_tab_at tL_law_ok 274 (e := (486, 1, .iaload, 0, 0, .null)) rfl
set_option maxRecDepth 100000 in
theorem dL_500 : decode mL_law.2.1 500 = .ok (.iaload, 1) := px_tab_at tL_law_ok 284 (e := (500, 1, .iaload, 0, 0, .null)) rfl
set_option maxRecDepth 100000 in
theorem dL_509 : decode mL_law.2.1 509 = .ok (.iaload, 1) := px_tab_at tL_law_ok 291 (e := (509, 1, .iaload, 0, 0, .null)) rfl
set_option maxRecDepth 100000 in
theorem dL_523 : decode mL_law.2.1 523 = .ok (.iaload, 1) := px_tab_at tL_law_ok 301 (e := (523, 1, .iaload, 0, 0, .null)) rfl
set_option maxRecDepth 100000 in
theorem dL_532 : decode mL_law.2.1 532 = .ok (.iaload, 1) := px_tab_at tL_law_ok 308 (e := (532, 1, .iaload, 0, 0, .null)) rfl
set_option maxRecDepth 100000 in
theorem dL_572 : decode mL_law.2.1 572 = .ok (.iaload, 1) := px_tab_at tL_law_ok 332 (e := (572, 1, .iaload, 0, 0, .null)) rfl
set_option maxRecDepth 100000 in
theorem dL_577 : decode mL_law.2.1 577 = .ok (.iaload, 1) := px_tab_at tL_law_ok 337 (e := (577, 1, .iaload, 0, 0, .null)) rfl
set_option maxRecDepth 100000 in
theorem dL_590 : decode mL_law.2.1 590 = .ok (.iaload, 1) := px_tab_at tL_law_ok 346 (e := (590, 1, .iaload, 0, 0, .null)) rfl
set_option maxRecDepth 100000 in
theorem dL_595 : decode mL_law.2.1 595 = .ok (.iaload, 1) := px_tab_at tL_law_ok 351 (e := (595, 1, .iaload, 0, 0, .null)) rfl
set_option maxRecDepth 100000 in
theorem dL_604 : decode mL_law.2.1 604 = .ok (.iaload, 1) := px_tab_at tL_law_ok 358 (e := (604, 1, .iaload, 0, 0, .null)) rfl
set_option maxRecDepth 100000 in
theorem dL_609 : decode mL_law.2.1 609 = .ok (.iaload, 1) := px_tab_at tL_law_ok 363 (e := (609, 1, .iaload, 0, 0, .null)) rfl
set_option maxRecDepth 100000 in
theorem dL_622 : decode mL_law.2.1 622 = .ok (.iaload, 1) := px_tab_at tL_law_ok 372 (e := (622, 1, .iaload, 0, 0, .null)) rfl
set_option maxRecDepth 100000 in
theorem dL_627 : decode mL_law.2.1 627 = .ok (.iaload, 1) := px_tab_at tL_law_ok 377 (e := (627, 1, .iaload, 0, 0, .null)) rfl
set_option maxRecDepth 100000 in
theorem dL_641 : decode mL_law.2.1 641 = .ok (.iaload, 1) := px_tab_at tL_law_ok 387 (e := (641, 1, .iaload, 0, 0, .null)) rfl
set_option maxRecDepth 100000 in
theorem dL_650 : decode mL_law.2.1 650 = .ok (.iaload, 1) := px_tab_at tL_law_ok 394 (e := (650, 1, .iaload, 0, 0, .null)) rfl
set_option maxRecDepth 100000 in
theorem dL_664 : decode mL_law.2.1 664 = .ok (.iaload, 1) := px_tab_at tL_law_ok 404 (e := (664, 1, .iaload, 0, 0, .null)) rfl
set_option maxRecDepth 100000 in
theorem dL_673 : decode mL_law.2.1 673 = .ok (.iaload, 1) := px_tab_at tL_law_ok 411 (e := (673, 1, .iaload, 0, 0, .null)) rfl
set_option maxRecDepth 100000 in
theorem dL_687 : decode mL_law.2.1 687 = .ok (.iaload, 1) := px_tab_at tL_law_ok 421 (e := (687, 1, .iaload, 0, 0, .null)) rfl
set_option maxRecDepth 100000 in
theorem dL_692 : decode mL_law.2.1 692 = .ok (.iaload, 1) := px_tab_at tL_law_ok 426 (e := (692, 1, .iaload, 0, 0, .null)) rfl
set_option maxRecDepth 100000 in
theorem dL_701 : decode mL_law.2.1 701 = .ok (.iaload, 1) := px_tab_at tL_law_ok 433 (e := (701, 1, .iaload, 0, 0, .null)) rfl
set_option maxRecDepth 100000 in
theorem dL_706 : decode mL_law.2.1 706 = .ok (.iaload, 1) := px_tab_at tL_law_ok 438 (e := (706, 1, .iaload, 0, 0, .null)) rfl
set_option maxRecDepth 100000 in
theorem dL_720 : decode mL_law.2.1 720 = .ok (.iaload, 1) := px_tab_at tL_law_ok 448 (e := (720, 1, .iaload, 0, 0, .null)) rfl
set_option maxRecDepth 100000 in
theorem dL_729 : decode mL_law.2.1 729 = .ok (.iaload, 1) := px_tab_at tL_law_ok 455 (e := (729, 1, .iaload, 0, 0, .null)) rfl
set_option maxRecDepth 100000 in
theorem dL_743 : decode mL_law.2.1 743 = .ok (.iaload, 1) := px_tab_at tL_law_ok 465 (e := (743, 1, .iaload, 0, 0, .null)) rfl
set_option maxRecDepth 100000 in
theorem dL_752 : decode mL_law.2.1 752 = .ok (.iaload, 1) := px_tab_at tL_law_ok 472 (e := (752, 1, .iaload, 0, 0, .null)) rfl
set_option maxRecDepth 100000 in
theorem dL_766 : decode mL_law.2.1 766 = .ok (.iaload, 1) := px_tab_at tL_law_ok 482 (e := (766, 1, .iaload, 0, 0, .null)) rfl
set_option maxRecDepth 100000 in
theorem dL_775 : decode mL_law.2.1 775 = .ok (.iaload, 1) := px_tab_at tL_law_ok 489 (e := (775, 1, .iaload, 0, 0, .null)) rfl
set_option maxRecDepth 100000 in
theorem dL_789 : decode mL_law.2.1 789 = .ok (.iaload, 1) := px_tab_at tL_law_ok 499 (e := (789, 1, .iaload, 0, 0, .null)) rfl
set_option maxRecDepth 100000 in
theorem dL_798 : decode mL_law.2.1 798 = .ok (.iaload, 1) := px_tab_at tL_law_ok 506 (e := (798, 1, .iaload, 0, 0, .null)) rfl
set_option maxRecDepth 100000 in
theorem dL_812 : decode mL_law.2.1 812 = .ok (.iaload, 1) := px_tab_at tL_law_ok 516 (e := (812, 1, .iaload, 0, 0, .null)) rfl
set_option maxRecDepth 100000 in
theorem dL_817 : decode mL_law.2.1 817 = .ok (.iaload, 1) := px_tab_at tL_law_ok 521 (e := (817, 1, .iaload, 0, 0, .null)) rfl
set_option maxRecDepth 100000 in
theorem dL_822 : decode mL_law.2.1 822 = .ok (.iaload, 1) := px_tab_at tL_law_ok 526 (e := (822, 1, .iaload, 0, 0, .null)) rfl
set_option maxRecDepth 100000 in
theorem dL_831 : decode mL_law.2.1 831 = .ok (.iaload, 1) := px_tab_at tL_law_ok 533 (e := (831, 1, .iaload, 0, 0, .null)) rfl
set_option maxRecDepth 100000 in
theorem dL_836 : decode mL_law.2.1 836 = .ok (.iaload, 1) := px_tab_at tL_law_ok 538 (e := (836, 1, .iaload, 0, 0, .null)) rfl
set_option maxRecDepth 100000 in
theorem dL_841 : decode mL_law.2.1 841 = .ok (.iaload, 1) := px_tab_at tL_law_ok 543 (e := (841, 1, .iaload, 0, 0, .null)) rfl
set_option maxRecDepth 100000 in
theorem dL_855 : decode mL_law.2.1 855 = .ok (.iaload, 1) := px_tab_at tL_law_ok 553 (e := (855, 1, .iaload, 0, 0, .null)) rfl
set_option maxRecDepth 100000 in
theorem dL_860 : decode mL_law.2.1 860 = .ok (.iaload, 1) := px_tab_at tL_law_ok 558 (e := (860, 1, .iaload, 0, 0, .null)) rfl
set_option maxRecDepth 100000 in
theorem dL_869 : decode mL_law.2.1 869 = .ok (.iaload, 1) := px_tab_at tL_law_ok 565 (e := (869, 1, .iaload, 0, 0, .null)) rfl
set_option maxRecDepth 100000 in
theorem dL_874 : decode mL_law.2.1 874 = .ok (.iaload, 1) := px_tab_at tL_law_ok 570 (e := (874, 1, .iaload, 0, 0, .null)) rfl
set_option maxRecDepth 100000 in
theorem dL_901 : decode mL_law.2.1 901 = .ok (.iaload, 1) := px_tab_at tL_law_ok 587 (e := (901, 1, .iaload, 0, 0, .null)) rfl
set_option maxRecDepth 100000 in
theorem dL_906 : decode mL_law.2.1 906 = .ok (.iaload, 1) := px_tab_at tL_law_ok 592 (e := (906, 1, .iaload, 0, 0, .null)) rfl
set_option maxRecDepth 100000 in
theorem dL_915 : decode mL_law.2.1 915 = .ok (.iaload, 1) := px_tab_at tL_law_ok 599 (e := (915, 1, .iaload, 0, 0, .null)) rfl
set_option maxRecDepth 100000 in
theorem dL_920 : decode mL_law.2.1 920 = .ok (.iaload, 1) := px_tab_at tL_law_ok 604 (e := (920, 1, .iaload, 0, 0, .null)) rfl
set_option maxRecDepth 100000 in
theorem dL_934 : decode mL_law.2.1 934 = .ok (.iaload, 1) := px_tab_at tL_law_ok 614 (e := (934, 1, .iaload, 0, 0, .null)) rfl
set_option maxRecDepth 100000 in
theorem dL_943 : decode mL_law.2.1 943 = .ok (.iaload, 1) := px_tab_at tL_law_ok 621 (e := (943, 1, .iaload, 0, 0, .null)) rfl
set_option maxRecDepth 100000 in
theorem dL_957 : decode mL_law.2.1 957 = .ok (.iaload, 1) := px_tab_at tL_law_ok 631 (e := (957, 1, .iaload, 0, 0, .null)) rfl
set_option maxRecDepth 100000 in
theorem dL_966 : decode mL_law.2.1 966 = .ok (.iaload, 1) := px_tab_at tL_law_ok 638 (e := (966, 1, .iaload, 0, 0, .null)) rfl
set_option maxRecDepth 100000 in
theorem dL_980 : decode mL_law.2.1 980 = .ok (.iaload, 1) := px_tab_at tL_law_ok 648 (e := (980, 1, .iaload, 0, 0, .null)) rfl
set_option maxRecDepth 100000 in
theorem dL_989 : decode mL_law.2.1 989 = .ok (.iaload, 1) := px_tab_at tL_law_ok 655 (e := (989, 1, .iaload, 0, 0, .null)) rfl
set_option maxRecDepth 100000 in
theorem dL_1003 : decode mL_law.2.1 1003 = .ok (.iaload, 1) := px_tab_at tL_law_ok 665 (e := (1003, 1, .iaload, 0, 0, .null)) rfl
set_option maxRecDepth 100000 in
theorem dL_1012 : decode mL_law.2.1 1012 = .ok (.iaload, 1) := px_tab_at tL_law_ok 672 (e := (1012, 1, .iaload, 0, 0, .null)) rfl
