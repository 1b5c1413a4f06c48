/-! the law: its 35 cases: links, room, bytes -/
theorem lwL_7_type : lwL M_X7_type room_1 13 7 2 1 := ⟨mzT_at 308 (by decide +kernel) rfl, mzT_at 309 (by decide +kernel) rfl, mzT_at 310 (by decide +kernel) rfl, mzT_at 72 (by decide +kernel) rfl, ⟨_, _, rfl⟩, by decide, by decide +kernel, by decide +kernel, rfl⟩
theorem lwL_8_type : lwL M_X8_type room_1 17 8 2 1 := ⟨mzT_at 880 (by decide +kernel) rfl, mzT_at 881 (by decide +kernel) rfl, mzT_at 882 (by decide +kernel) rfl, mzT_at 82 (by decide +kernel) rfl, ⟨_, _, rfl⟩, by decide, by decide +kernel, by decide +kernel, rfl⟩
theorem lgc_type : lgI 188 2 13 17 = true := by decide +kernel
theorem lwL_7_wipe : lwL M_X7_wipe room_1 18 7 1 1 := ⟨mzT_at 395 (by decide +kernel) rfl, mzT_at 396 (by decide +kernel) rfl, mzT_at 397 (by decide +kernel) rfl, mzT_at 72 (by decide +kernel) rfl, ⟨_, _, rfl⟩, by decide, by decide +kernel, by decide +kernel, rfl⟩
theorem lwL_8_wipe : lwL M_X8_wipe room_1 22 8 1 1 := ⟨mzT_at 890 (by decide +kernel) rfl, mzT_at 891 (by decide +kernel) rfl, mzT_at 892 (by decide +kernel) rfl, mzT_at 82 (by decide +kernel) rfl, ⟨_, _, rfl⟩, by decide, by decide +kernel, by decide +kernel, rfl⟩
theorem lgc_wipe : lgI 221 1 18 22 = true := by decide +kernel
theorem lwL_7_undo : lwL M_X7_undo room_1 23 7 1 1 := ⟨mzT_at 399 (by decide +kernel) rfl, mzT_at 400 (by decide +kernel) rfl, mzT_at 401 (by decide +kernel) rfl, mzT_at 72 (by decide +kernel) rfl, ⟨_, _, rfl⟩, by decide, by decide +kernel, by decide +kernel, rfl⟩
theorem lwL_8_undo : lwL M_X8_undo room_1 26 8 1 1 := ⟨mzT_at 894 (by decide +kernel) rfl, mzT_at 895 (by decide +kernel) rfl, mzT_at 896 (by decide +kernel) rfl, mzT_at 82 (by decide +kernel) rfl, ⟨_, _, rfl⟩, by decide, by decide +kernel, by decide +kernel, rfl⟩
theorem lgc_undo : lgI 244 1 23 26 = true := by decide +kernel
theorem lwL_7_fault : lwL M_X7_fault room_1 27 7 1 1 := ⟨mzT_at 403 (by decide +kernel) rfl, mzT_at 404 (by decide +kernel) rfl, mzT_at 405 (by decide +kernel) rfl, mzT_at 72 (by decide +kernel) rfl, ⟨_, _, rfl⟩, by decide, by decide +kernel, by decide +kernel, rfl⟩
theorem lwL_8_fault : lwL M_X8_fault room_1 30 8 1 1 := ⟨mzT_at 898 (by decide +kernel) rfl, mzT_at 899 (by decide +kernel) rfl, mzT_at 900 (by decide +kernel) rfl, mzT_at 82 (by decide +kernel) rfl, ⟨_, _, rfl⟩, by decide, by decide +kernel, by decide +kernel, rfl⟩
theorem lgc_fault : lgI 267 1 27 30 = true := by decide +kernel
theorem lwL_7_walker : lwL M_X7_walker room_1 31 7 2 1 := ⟨mzT_at 407 (by decide +kernel) rfl, mzT_at 408 (by decide +kernel) rfl, mzT_at 409 (by decide +kernel) rfl, mzT_at 72 (by decide +kernel) rfl, ⟨_, _, rfl⟩, by decide, by decide +kernel, by decide +kernel, rfl⟩
theorem lwL_8_walker : lwL M_X8_walker room_1 34 8 2 1 := ⟨mzT_at 931 (by decide +kernel) rfl, mzT_at 932 (by decide +kernel) rfl, mzT_at 933 (by decide +kernel) rfl, mzT_at 82 (by decide +kernel) rfl, ⟨_, _, rfl⟩, by decide, by decide +kernel, by decide +kernel, rfl⟩
theorem lgc_walker : lgI 290 2 31 34 = true := by decide +kernel
theorem lwL_7_hedge : lwL M_X7_hedge room_1 35 7 3 1 := ⟨mzT_at 415 (by decide +kernel) rfl, mzT_at 416 (by decide +kernel) rfl, mzT_at 417 (by decide +kernel) rfl, mzT_at 72 (by decide +kernel) rfl, ⟨_, _, rfl⟩, by decide, by decide +kernel, by decide +kernel, rfl⟩
theorem lwL_8_hedge : lwL M_X8_hedge room_1 39 8 3 1 := ⟨mzT_at 939 (by decide +kernel) rfl, mzT_at 940 (by decide +kernel) rfl, mzT_at 941 (by decide +kernel) rfl, mzT_at 82 (by decide +kernel) rfl, ⟨_, _, rfl⟩, by decide, by decide +kernel, by decide +kernel, rfl⟩
theorem lgc_hedge : lgI 323 3 35 39 = true := by decide +kernel
theorem lwL_7_gap : lwL M_X7_gap room_1 40 7 3 1 := ⟨mzT_at 435 (by decide +kernel) rfl, mzT_at 436 (by decide +kernel) rfl, mzT_at 437 (by decide +kernel) rfl, mzT_at 72 (by decide +kernel) rfl, ⟨_, _, rfl⟩, by decide, by decide +kernel, by decide +kernel, rfl⟩
theorem lwL_8_gap : lwL M_X8_gap room_1 43 8 3 1 := ⟨mzT_at 950 (by decide +kernel) rfl, mzT_at 951 (by decide +kernel) rfl, mzT_at 952 (by decide +kernel) rfl, mzT_at 82 (by decide +kernel) rfl, ⟨_, _, rfl⟩, by decide, by decide +kernel, by decide +kernel, rfl⟩
theorem lgc_gap : lgI 366 3 40 43 = true := by decide +kernel
theorem lwL_7_back : lwL M_X7_back room_1 44 7 1 1 := ⟨mzT_at 439 (by decide +kernel) rfl, mzT_at 440 (by decide +kernel) rfl, mzT_at 441 (by decide +kernel) rfl, mzT_at 72 (by decide +kernel) rfl, ⟨_, _, rfl⟩, by decide, by decide +kernel, by decide +kernel, rfl⟩
theorem lwL_8_back : lwL M_X8_back room_1 47 8 1 1 := ⟨mzT_at 954 (by decide +kernel) rfl, mzT_at 955 (by decide +kernel) rfl, mzT_at 956 (by decide +kernel) rfl, mzT_at 82 (by decide +kernel) rfl, ⟨_, _, rfl⟩, by decide, by decide +kernel, by decide +kernel, rfl⟩
theorem lgc_back : lgI 409 1 44 47 = true := by decide +kernel
theorem lwL_7_read : lwL M_X7_read room_1 48 7 1 1 := ⟨mzT_at 443 (by decide +kernel) rfl, mzT_at 444 (by decide +kernel) rfl, mzT_at 445 (by decide +kernel) rfl, mzT_at 72 (by decide +kernel) rfl, ⟨_, _, rfl⟩, by decide, by decide +kernel, by decide +kernel, rfl⟩
theorem lwL_8_read : lwL M_X8_read room_1 51 8 1 1 := ⟨mzT_at 958 (by decide +kernel) rfl, mzT_at 959 (by decide +kernel) rfl, mzT_at 960 (by decide +kernel) rfl, mzT_at 82 (by decide +kernel) rfl, ⟨_, _, rfl⟩, by decide, by decide +kernel, by decide +kernel, rfl⟩
theorem lgc_read : lgI 432 1 48 51 = true := by decide +kernel
theorem lwL_7_open : lwL M_X7_open room_1 52 7 2 1 := ⟨mzT_at 459 (by decide +kernel) rfl, mzT_at 460 (by decide +kernel) rfl, mzT_at 461 (by decide +kernel) rfl, mzT_at 72 (by decide +kernel) rfl, ⟨_, _, rfl⟩, by decide, by decide +kernel, by decide +kernel, rfl⟩
theorem lwL_8_open : lwL M_X8_open room_1 55 8 2 1 := ⟨mzT_at 969 (by decide +kernel) rfl, mzT_at 970 (by decide +kernel) rfl, mzT_at 971 (by decide +kernel) rfl, mzT_at 82 (by decide +kernel) rfl, ⟨_, _, rfl⟩, by decide, by decide +kernel, by decide +kernel, rfl⟩
theorem lgc_open : lgI 455 2 52 55 = true := by decide +kernel
theorem lwL_7_on : lwL M_X7_on room_1 56 7 3 1 := ⟨mzT_at 476 (by decide +kernel) rfl, mzT_at 477 (by decide +kernel) rfl, mzT_at 478 (by decide +kernel) rfl, mzT_at 72 (by decide +kernel) rfl, ⟨_, _, rfl⟩, by decide, by decide +kernel, by decide +kernel, rfl⟩
theorem lwL_8_on : lwL M_X8_on room_1 59 8 3 1 := ⟨mzT_at 996 (by decide +kernel) rfl, mzT_at 997 (by decide +kernel) rfl, mzT_at 998 (by decide +kernel) rfl, mzT_at 82 (by decide +kernel) rfl, ⟨_, _, rfl⟩, by decide, by decide +kernel, by decide +kernel, rfl⟩
theorem lgc_on : lgI 488 3 56 59 = true := by decide +kernel
theorem lwL_7_comes : lwL M_X7_comes room_1 60 7 2 1 := ⟨mzT_at 502 (by decide +kernel) rfl, mzT_at 503 (by decide +kernel) rfl, mzT_at 504 (by decide +kernel) rfl, mzT_at 72 (by decide +kernel) rfl, ⟨_, _, rfl⟩, by decide, by decide +kernel, by decide +kernel, rfl⟩
theorem lwL_8_comes : lwL M_X8_comes room_1 63 8 2 1 := ⟨mzT_at 1027 (by decide +kernel) rfl, mzT_at 1028 (by decide +kernel) rfl, mzT_at 1029 (by decide +kernel) rfl, mzT_at 82 (by decide +kernel) rfl, ⟨_, _, rfl⟩, by decide, by decide +kernel, by decide +kernel, rfl⟩
theorem lgc_comes : lgI 531 2 60 63 = true := by decide +kernel
theorem lwL_7_meet : lwL M_X7_meet room_1 64 7 2 1 := ⟨mzT_at 507 (by decide +kernel) rfl, mzT_at 508 (by decide +kernel) rfl, mzT_at 509 (by decide +kernel) rfl, mzT_at 72 (by decide +kernel) rfl, ⟨_, _, rfl⟩, by decide, by decide +kernel, by decide +kernel, rfl⟩
theorem lwL_8_meet : lwL M_X8_meet room_1 67 8 2 1 := ⟨mzT_at 1035 (by decide +kernel) rfl, mzT_at 1036 (by decide +kernel) rfl, mzT_at 1037 (by decide +kernel) rfl, mzT_at 82 (by decide +kernel) rfl, ⟨_, _, rfl⟩, by decide, by decide +kernel, by decide +kernel, rfl⟩
theorem lgc_meet : lgI 564 2 64 67 = true := by decide +kernel
theorem lwL_7_round : lwL M_X7_round room_1 68 7 1 1 := ⟨mzT_at 511 (by decide +kernel) rfl, mzT_at 512 (by decide +kernel) rfl, mzT_at 513 (by decide +kernel) rfl, mzT_at 72 (by decide +kernel) rfl, ⟨_, _, rfl⟩, by decide, by decide +kernel, by decide +kernel, rfl⟩
theorem lwL_8_round : lwL M_X8_round room_1 71 8 1 1 := ⟨mzT_at 1043 (by decide +kernel) rfl, mzT_at 1044 (by decide +kernel) rfl, mzT_at 1045 (by decide +kernel) rfl, mzT_at 82 (by decide +kernel) rfl, ⟨_, _, rfl⟩, by decide, by decide +kernel, by decide +kernel, rfl⟩
theorem lgc_round : lgI 597 1 68 71 = true := by decide +kernel
theorem lwL_7_trod : lwL M_X7_trod room_1 72 7 2 1 := ⟨mzT_at 515 (by decide +kernel) rfl, mzT_at 516 (by decide +kernel) rfl, mzT_at 517 (by decide +kernel) rfl, mzT_at 72 (by decide +kernel) rfl, ⟨_, _, rfl⟩, by decide, by decide +kernel, by decide +kernel, rfl⟩
theorem lwL_8_trod : lwL M_X8_trod room_1 75 8 2 1 := ⟨mzT_at 1051 (by decide +kernel) rfl, mzT_at 1052 (by decide +kernel) rfl, mzT_at 1053 (by decide +kernel) rfl, mzT_at 82 (by decide +kernel) rfl, ⟨_, _, rfl⟩, by decide, by decide +kernel, by decide +kernel, rfl⟩
theorem lgc_trod : lgI 620 2 72 75 = true := by decide +kernel
theorem lwL_7_way : lwL M_X7_way room_1 76 7 3 1 := ⟨mzT_at 524 (by decide +kernel) rfl, mzT_at 525 (by decide +kernel) rfl, mzT_at 526 (by decide +kernel) rfl, mzT_at 72 (by decide +kernel) rfl, ⟨_, _, rfl⟩, by decide, by decide +kernel, by decide +kernel, rfl⟩
theorem lwL_8_way : lwL M_X8_way room_1 79 8 3 1 := ⟨mzT_at 1059 (by decide +kernel) rfl, mzT_at 1060 (by decide +kernel) rfl, mzT_at 1061 (by decide +kernel) rfl, mzT_at 82 (by decide +kernel) rfl, ⟨_, _, rfl⟩, by decide, by decide +kernel, by decide +kernel, rfl⟩
theorem lgc_way : lgI 653 3 76 79 = true := by decide +kernel
theorem lwL_7_through : lwL M_X7_through room_1 80 7 4 1 := ⟨mzT_at 540 (by decide +kernel) rfl, mzT_at 541 (by decide +kernel) rfl, mzT_at 542 (by decide +kernel) rfl, mzT_at 72 (by decide +kernel) rfl, ⟨_, _, rfl⟩, by decide, by decide +kernel, by decide +kernel, rfl⟩
theorem lwL_8_through : lwL M_X8_through room_1 84 8 4 1 := ⟨mzT_at 1076 (by decide +kernel) rfl, mzT_at 1077 (by decide +kernel) rfl, mzT_at 1078 (by decide +kernel) rfl, mzT_at 82 (by decide +kernel) rfl, ⟨_, _, rfl⟩, by decide, by decide +kernel, by decide +kernel, rfl⟩
theorem lgc_through : lgI 696 4 80 84 = true := by decide +kernel
theorem lwL_7_joined : lwL M_X7_joined room_1 85 7 2 1 := ⟨mzT_at 544 (by decide +kernel) rfl, mzT_at 545 (by decide +kernel) rfl, mzT_at 546 (by decide +kernel) rfl, mzT_at 72 (by decide +kernel) rfl, ⟨_, _, rfl⟩, by decide, by decide +kernel, by decide +kernel, rfl⟩
theorem lwL_8_joined : lwL M_X8_joined room_1 88 8 2 1 := ⟨mzT_at 1084 (by decide +kernel) rfl, mzT_at 1085 (by decide +kernel) rfl, mzT_at 1086 (by decide +kernel) rfl, mzT_at 82 (by decide +kernel) rfl, ⟨_, _, rfl⟩, by decide, by decide +kernel, by decide +kernel, rfl⟩
theorem lgc_joined : lgI 749 2 85 88 = true := by decide +kernel
theorem lwL_7_hear : lwL M_X7_hear room_1 89 7 3 1 := ⟨mzT_at 558 (by decide +kernel) rfl, mzT_at 559 (by decide +kernel) rfl, mzT_at 560 (by decide +kernel) rfl, mzT_at 72 (by decide +kernel) rfl, ⟨_, _, rfl⟩, by decide, by decide +kernel, by decide +kernel, rfl⟩
theorem lwL_8_hear : lwL M_X8_hear room_1 92 8 3 1 := ⟨mzT_at 1092 (by decide +kernel) rfl, mzT_at 1093 (by decide +kernel) rfl, mzT_at 1094 (by decide +kernel) rfl, mzT_at 82 (by decide +kernel) rfl, ⟨_, _, rfl⟩, by decide, by decide +kernel, by decide +kernel, rfl⟩
theorem lgc_hear : lgI 782 3 89 92 = true := by decide +kernel
theorem lwL_7_cut : lwL M_X7_cut room_1 93 7 3 1 := ⟨mzT_at 568 (by decide +kernel) rfl, mzT_at 569 (by decide +kernel) rfl, mzT_at 570 (by decide +kernel) rfl, mzT_at 72 (by decide +kernel) rfl, ⟨_, _, rfl⟩, by decide, by decide +kernel, by decide +kernel, rfl⟩
theorem lwL_8_cut : lwL M_X8_cut room_1 96 8 3 1 := ⟨mzT_at 1100 (by decide +kernel) rfl, mzT_at 1101 (by decide +kernel) rfl, mzT_at 1102 (by decide +kernel) rfl, mzT_at 82 (by decide +kernel) rfl, ⟨_, _, rfl⟩, by decide, by decide +kernel, by decide +kernel, rfl⟩
theorem lgc_cut : lgI 825 3 93 96 = true := by decide +kernel
theorem lwL_7_guard : lwL M_X7_guard room_1 97 7 4 1 := ⟨mzT_at 572 (by decide +kernel) rfl, mzT_at 573 (by decide +kernel) rfl, mzT_at 574 (by decide +kernel) rfl, mzT_at 72 (by decide +kernel) rfl, ⟨_, _, rfl⟩, by decide, by decide +kernel, by decide +kernel, rfl⟩
theorem lwL_8_guard : lwL M_X8_guard room_1 100 8 4 1 := ⟨mzT_at 1108 (by decide +kernel) rfl, mzT_at 1109 (by decide +kernel) rfl, mzT_at 1110 (by decide +kernel) rfl, mzT_at 82 (by decide +kernel) rfl, ⟨_, _, rfl⟩, by decide, by decide +kernel, by decide +kernel, rfl⟩
theorem lgc_guard : lgI 868 4 97 100 = true := by decide +kernel
theorem lwL_7_seen : lwL M_X7_seen room_1 101 7 2 1 := ⟨mzT_at 593 (by decide +kernel) rfl, mzT_at 594 (by decide +kernel) rfl, mzT_at 595 (by decide +kernel) rfl, mzT_at 72 (by decide +kernel) rfl, ⟨_, _, rfl⟩, by decide, by decide +kernel, by decide +kernel, rfl⟩
theorem lwL_8_seen : lwL M_X8_seen room_1 104 8 2 1 := ⟨mzT_at 1128 (by decide +kernel) rfl, mzT_at 1129 (by decide +kernel) rfl, mzT_at 1130 (by decide +kernel) rfl, mzT_at 82 (by decide +kernel) rfl, ⟨_, _, rfl⟩, by decide, by decide +kernel, by decide +kernel, rfl⟩
theorem lgc_seen : lgI 921 2 101 104 = true := by decide +kernel
theorem lwL_7_forget : lwL M_X7_forget room_1 105 7 0 1 := ⟨mzT_at 608 (by decide +kernel) rfl, mzT_at 609 (by decide +kernel) rfl, mzT_at 610 (by decide +kernel) rfl, mzT_at 72 (by decide +kernel) rfl, ⟨_, _, rfl⟩, by decide, by decide +kernel, by decide +kernel, rfl⟩
theorem lwL_8_forget : lwL M_X8_forget room_1 109 8 0 1 := ⟨mzT_at 1132 (by decide +kernel) rfl, mzT_at 1133 (by decide +kernel) rfl, mzT_at 1134 (by decide +kernel) rfl, mzT_at 82 (by decide +kernel) rfl, ⟨_, _, rfl⟩, by decide, by decide +kernel, by decide +kernel, rfl⟩
theorem lgc_forget : lgI 954 0 105 109 = true := by decide +kernel
theorem lwL_7_began : lwL M_X7_began room_1 110 7 2 1 := ⟨mzT_at 613 (by decide +kernel) rfl, mzT_at 614 (by decide +kernel) rfl, mzT_at 615 (by decide +kernel) rfl, mzT_at 72 (by decide +kernel) rfl, ⟨_, _, rfl⟩, by decide, by decide +kernel, by decide +kernel, rfl⟩
theorem lwL_8_began : lwL M_X8_began room_1 113 8 2 1 := ⟨mzT_at 1136 (by decide +kernel) rfl, mzT_at 1137 (by decide +kernel) rfl, mzT_at 1138 (by decide +kernel) rfl, mzT_at 82 (by decide +kernel) rfl, ⟨_, _, rfl⟩, by decide, by decide +kernel, by decide +kernel, rfl⟩
theorem lgc_began : lgI 967 2 110 113 = true := by decide +kernel
theorem lwL_7_look : lwL M_X7_look room_1 114 7 2 1 := ⟨mzT_at 655 (by decide +kernel) rfl, mzT_at 656 (by decide +kernel) rfl, mzT_at 657 (by decide +kernel) rfl, mzT_at 72 (by decide +kernel) rfl, ⟨_, _, rfl⟩, by decide, by decide +kernel, by decide +kernel, rfl⟩
theorem lwL_8_look : lwL M_X8_look room_1 117 8 2 1 := ⟨mzT_at 1148 (by decide +kernel) rfl, mzT_at 1149 (by decide +kernel) rfl, mzT_at 1150 (by decide +kernel) rfl, mzT_at 82 (by decide +kernel) rfl, ⟨_, _, rfl⟩, by decide, by decide +kernel, by decide +kernel, rfl⟩
theorem lgc_look : lgI 1000 2 114 117 = true := by decide +kernel
theorem lwL_7_stray : lwL M_X7_stray room_1 118 7 5 2 := ⟨mzT_at 665 (by decide +kernel) rfl, mzT_at 666 (by decide +kernel) rfl, mzT_at 667 (by decide +kernel) rfl, mzT_at 72 (by decide +kernel) rfl, ⟨_, _, rfl⟩, by decide, by decide +kernel, by decide +kernel, rfl⟩
theorem lwL_8_stray : lwL M_X8_stray room_1 122 8 5 2 := ⟨mzT_at 1156 (by decide +kernel) rfl, mzT_at 1157 (by decide +kernel) rfl, mzT_at 1158 (by decide +kernel) rfl, mzT_at 82 (by decide +kernel) rfl, ⟨_, _, rfl⟩, by decide, by decide +kernel, by decide +kernel, rfl⟩
theorem lgc_stray : lgJ 1033 5 118 122 = true := by decide +kernel
theorem lwL_7_child : lwL M_X7_child room_1 123 7 4 1 := ⟨mzT_at 688 (by decide +kernel) rfl, mzT_at 689 (by decide +kernel) rfl, mzT_at 690 (by decide +kernel) rfl, mzT_at 72 (by decide +kernel) rfl, ⟨_, _, rfl⟩, by decide, by decide +kernel, by decide +kernel, rfl⟩
theorem lwL_8_child : lwL M_X8_child room_1 126 8 4 1 := ⟨mzT_at 1175 (by decide +kernel) rfl, mzT_at 1176 (by decide +kernel) rfl, mzT_at 1177 (by decide +kernel) rfl, mzT_at 82 (by decide +kernel) rfl, ⟨_, _, rfl⟩, by decide, by decide +kernel, by decide +kernel, rfl⟩
theorem lgc_child : lgI 1097 4 123 126 = true := by decide +kernel
theorem lwL_7_sheet : lwL M_X7_sheet room_1 127 7 3 1 := ⟨mzT_at 693 (by decide +kernel) rfl, mzT_at 694 (by decide +kernel) rfl, mzT_at 695 (by decide +kernel) rfl, mzT_at 72 (by decide +kernel) rfl, ⟨_, _, rfl⟩, by decide, by decide +kernel, by decide +kernel, rfl⟩
theorem lwL_8_sheet : lwL M_X8_sheet room_1 130 8 3 1 := ⟨mzT_at 1184 (by decide +kernel) rfl, mzT_at 1185 (by decide +kernel) rfl, mzT_at 1186 (by decide +kernel) rfl, mzT_at 82 (by decide +kernel) rfl, ⟨_, _, rfl⟩, by decide, by decide +kernel, by decide +kernel, rfl⟩
theorem lgc_sheet : lgI 1150 3 127 130 = true := by decide +kernel
theorem lwL_7_lose : lwL M_X7_lose room_1 131 7 1 1 := ⟨mzT_at 705 (by decide +kernel) rfl, mzT_at 706 (by decide +kernel) rfl, mzT_at 707 (by decide +kernel) rfl, mzT_at 72 (by decide +kernel) rfl, ⟨_, _, rfl⟩, by decide, by decide +kernel, by decide +kernel, rfl⟩
theorem lwL_8_lose : lwL M_X8_lose room_1 134 8 1 1 := ⟨mzT_at 1188 (by decide +kernel) rfl, mzT_at 1189 (by decide +kernel) rfl, mzT_at 1190 (by decide +kernel) rfl, mzT_at 82 (by decide +kernel) rfl, ⟨_, _, rfl⟩, by decide, by decide +kernel, by decide +kernel, rfl⟩
theorem lgc_lose : lgI 1193 1 131 134 = true := by decide +kernel
theorem lwL_7_put : lwL M_X7_put room_1 135 7 4 1 := ⟨mzT_at 709 (by decide +kernel) rfl, mzT_at 710 (by decide +kernel) rfl, mzT_at 711 (by decide +kernel) rfl, mzT_at 72 (by decide +kernel) rfl, ⟨_, _, rfl⟩, by decide, by decide +kernel, by decide +kernel, rfl⟩
theorem lwL_8_put : lwL M_X8_put room_1 138 8 4 1 := ⟨mzT_at 1192 (by decide +kernel) rfl, mzT_at 1193 (by decide +kernel) rfl, mzT_at 1194 (by decide +kernel) rfl, mzT_at 82 (by decide +kernel) rfl, ⟨_, _, rfl⟩, by decide, by decide +kernel, by decide +kernel, rfl⟩
theorem lgc_put : lgI 1216 4 135 138 = true := by decide +kernel
theorem lwL_7_get : lwL M_X7_get room_1 139 7 3 1 := ⟨mzT_at 725 (by decide +kernel) rfl, mzT_at 726 (by decide +kernel) rfl, mzT_at 727 (by decide +kernel) rfl, mzT_at 72 (by decide +kernel) rfl, ⟨_, _, rfl⟩, by decide, by decide +kernel, by decide +kernel, rfl⟩
theorem lwL_8_get : lwL M_X8_get room_1 142 8 3 1 := ⟨mzT_at 1204 (by decide +kernel) rfl, mzT_at 1205 (by decide +kernel) rfl, mzT_at 1206 (by decide +kernel) rfl, mzT_at 82 (by decide +kernel) rfl, ⟨_, _, rfl⟩, by decide, by decide +kernel, by decide +kernel, rfl⟩
theorem lgc_get : lgI 1269 3 139 142 = true := by decide +kernel
theorem lwL_7_copy : lwL M_X7_copy room_1 143 7 5 1 := ⟨mzT_at 730 (by decide +kernel) rfl, mzT_at 731 (by decide +kernel) rfl, mzT_at 732 (by decide +kernel) rfl, mzT_at 72 (by decide +kernel) rfl, ⟨_, _, rfl⟩, by decide, by decide +kernel, by decide +kernel, rfl⟩
theorem lwL_8_copy : lwL M_X8_copy room_1 147 8 5 1 := ⟨mzT_at 1209 (by decide +kernel) rfl, mzT_at 1210 (by decide +kernel) rfl, mzT_at 1211 (by decide +kernel) rfl, mzT_at 82 (by decide +kernel) rfl, ⟨_, _, rfl⟩, by decide, by decide +kernel, by decide +kernel, rfl⟩
theorem lgc_copy : lgI 1312 5 143 147 = true := by decide +kernel
theorem lwL_7_write : lwL M_X7_write room_1 148 7 2 1 := ⟨mzT_at 741 (by decide +kernel) rfl, mzT_at 742 (by decide +kernel) rfl, mzT_at 743 (by decide +kernel) rfl, mzT_at 72 (by decide +kernel) rfl, ⟨_, _, rfl⟩, by decide, by decide +kernel, by decide +kernel, rfl⟩
theorem lwL_8_write : lwL M_X8_write room_1 151 8 2 1 := ⟨mzT_at 1213 (by decide +kernel) rfl, mzT_at 1214 (by decide +kernel) rfl, mzT_at 1215 (by decide +kernel) rfl, mzT_at 82 (by decide +kernel) rfl, ⟨_, _, rfl⟩, by decide, by decide +kernel, by decide +kernel, rfl⟩
theorem lgc_write : lgI 1375 2 148 151 = true := by decide +kernel
theorem lwL_7_count : lwL M_X7_count room_1 152 7 1 1 := ⟨mzT_at 745 (by decide +kernel) rfl, mzT_at 746 (by decide +kernel) rfl, mzT_at 747 (by decide +kernel) rfl, mzT_at 72 (by decide +kernel) rfl, ⟨_, _, rfl⟩, by decide, by decide +kernel, by decide +kernel, rfl⟩
theorem lwL_8_count : lwL M_X8_count room_1 155 8 1 1 := ⟨mzT_at 1217 (by decide +kernel) rfl, mzT_at 1218 (by decide +kernel) rfl, mzT_at 1219 (by decide +kernel) rfl, mzT_at 82 (by decide +kernel) rfl, ⟨_, _, rfl⟩, by decide, by decide +kernel, by decide +kernel, rfl⟩
theorem lgc_count : lgI 1408 1 152 155 = true := by decide +kernel
theorem lwL_7_digest : lwL M_X7_digest room_1 156 7 0 2 := ⟨mzT_at 749 (by decide +kernel) rfl, mzT_at 750 (by decide +kernel) rfl, mzT_at 751 (by decide +kernel) rfl, mzT_at 72 (by decide +kernel) rfl, ⟨_, _, rfl⟩, by decide, by decide +kernel, by decide +kernel, rfl⟩
theorem lwL_8_digest : lwL M_X8_digest room_1 160 8 0 2 := ⟨mzT_at 1225 (by decide +kernel) rfl, mzT_at 1226 (by decide +kernel) rfl, mzT_at 1227 (by decide +kernel) rfl, mzT_at 82 (by decide +kernel) rfl, ⟨_, _, rfl⟩, by decide, by decide +kernel, by decide +kernel, rfl⟩
theorem lgc_digest : lgJ 1431 0 156 160 = true := by decide +kernel
