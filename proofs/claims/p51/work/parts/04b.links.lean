/-! 07: what the class files' constants link, by place in the tables -/
theorem fl_0_9 : FL RX0 9 0 0 := ⟨(RX0, TX0, 6), rfl, by decide, rfl, (gwI 253 (by decide +kernel) rfl)⟩
theorem fl_0_15 : FL RX0 15 0 1 := ⟨(RX0, TX0, 6), rfl, by decide, rfl, (gwI 254 (by decide +kernel) rfl)⟩
theorem fl_0_21 : FL RX0 21 0 2 := ⟨(RX0, TX0, 6), rfl, by decide, rfl, (gwI 255 (by decide +kernel) rfl)⟩
theorem fl_0_24 : FL RX0 24 0 3 := ⟨(RX0, TX0, 6), rfl, by decide, rfl, (gwI 256 (by decide +kernel) rfl)⟩
theorem fl_0_27 : FL RX0 27 0 4 := ⟨(RX0, TX0, 6), rfl, by decide, rfl, (gwI 257 (by decide +kernel) rfl)⟩
theorem fl_0_31 : FL RX0 31 0 5 := ⟨(RX0, TX0, 6), rfl, by decide, rfl, (gwI 258 (by decide +kernel) rfl)⟩
theorem ml_1_61 : MLV RX1 61 yX1_between cX1_between 3 (some .int) 1 2 := ⟨⟨_, rfl, rfl⟩, by decide +kernel, by decide, (gwI 1072 (by decide +kernel) rfl), (gwI 1073 (by decide +kernel) rfl), (gwI 1074 (by decide +kernel) rfl), (gwI 49 (by decide +kernel) rfl), (gwI 1075 (by decide +kernel) rfl)⟩
theorem fl_1_15 : FL RX1 15 1 1 := ⟨(RX1, TX1, 5), rfl, by decide, rfl, (gwI 230 (by decide +kernel) rfl)⟩
theorem fl_1_19 : FL RX1 19 1 2 := ⟨(RX1, TX1, 5), rfl, by decide, rfl, (gwI 231 (by decide +kernel) rfl)⟩
theorem fl_1_9 : FL RX1 9 1 0 := ⟨(RX1, TX1, 5), rfl, by decide, rfl, (gwI 229 (by decide +kernel) rfl)⟩
theorem fl_1_22 : FL RX1 22 1 3 := ⟨(RX1, TX1, 5), rfl, by decide, rfl, (gwI 232 (by decide +kernel) rfl)⟩
theorem fl_1_25 : FL RX1 25 1 4 := ⟨(RX1, TX1, 5), rfl, by decide, rfl, (gwI 233 (by decide +kernel) rfl)⟩
theorem fl_1_33 : FL RX1 33 5 0 := ⟨(RX5, TX5, 9), rfl, by decide, rfl, (gwI 93 (by decide +kernel) rfl)⟩
theorem fl_1_51 : FL RX1 51 5 6 := ⟨(RX5, TX5, 9), rfl, by decide, rfl, (gwI 119 (by decide +kernel) rfl)⟩
theorem ml_1_54 : MLV RX1 54 yX5_slackWith cX5_slackWith 3 (some .int) 5 2 := ⟨⟨_, rfl, rfl⟩, by decide +kernel, by decide, (gwI 1067 (by decide +kernel) rfl), (gwI 972 (by decide +kernel) rfl), (gwI 973 (by decide +kernel) rfl), (gwI 46 (by decide +kernel) rfl), (gwI 974 (by decide +kernel) rfl)⟩
theorem fl_1_58 : FL RX1 58 5 7 := ⟨(RX5, TX5, 9), rfl, by decide, rfl, (gwI 122 (by decide +kernel) rfl)⟩
theorem ml_1_68 : MLV RX1 68 yX1_sums cX1_sums 5 (some .int) 1 2 := ⟨⟨_, rfl, rfl⟩, by decide +kernel, by decide, (gwI 1088 (by decide +kernel) rfl), (gwI 1090 (by decide +kernel) rfl), (gwI 30 (by decide +kernel) rfl), (gwI 49 (by decide +kernel) rfl), (gwI 1091 (by decide +kernel) rfl)⟩
theorem ml_1_47 : MLV RX1 47 yX1_narrow cX1_narrow 6 (some .boolean) 1 3 := ⟨⟨_, rfl, rfl⟩, by decide +kernel, by decide, (gwI 1068 (by decide +kernel) rfl), (gwI 1070 (by decide +kernel) rfl), (gwI 27 (by decide +kernel) rfl), (gwI 49 (by decide +kernel) rfl), (gwI 1071 (by decide +kernel) rfl)⟩
theorem ml_1_71 : MLV RX1 71 yX1_negated cX1_negated 4 (some .int) 1 1 := ⟨⟨_, rfl, rfl⟩, by decide +kernel, by decide, (gwI 1076 (by decide +kernel) rfl), (gwI 1078 (by decide +kernel) rfl), (gwI 28 (by decide +kernel) rfl), (gwI 49 (by decide +kernel) rfl), (gwI 1079 (by decide +kernel) rfl)⟩
theorem fl_1_28 : FL RX1 28 5 1 := ⟨(RX5, TX5, 9), rfl, by decide, rfl, (gwI 98 (by decide +kernel) rfl)⟩
theorem fl_1_34 : FL RX1 34 5 2 := ⟨(RX5, TX5, 9), rfl, by decide, rfl, (gwI 103 (by decide +kernel) rfl)⟩
theorem fl_1_37 : FL RX1 37 5 4 := ⟨(RX5, TX5, 9), rfl, by decide, rfl, (gwI 111 (by decide +kernel) rfl)⟩
theorem fl_1_40 : FL RX1 40 5 5 := ⟨(RX5, TX5, 9), rfl, by decide, rfl, (gwI 115 (by decide +kernel) rfl)⟩
theorem ml_1_43 : MLS RX1 43 yX1_keptWith cX1_keptWith 4 (some .int) 2 := ⟨by decide +kernel, by decide, (gwI 1064 (by decide +kernel) rfl), (gwI 1065 (by decide +kernel) rfl), (gwI 49 (by decide +kernel) rfl), (gwI 1066 (by decide +kernel) rfl)⟩
theorem ml_1_64 : MLV RX1 64 yX1_makeRound cX1_makeRound 5 (some .boolean) 1 0 := ⟨⟨_, rfl, rfl⟩, by decide +kernel, by decide, (gwI 1084 (by decide +kernel) rfl), (gwI 1086 (by decide +kernel) rfl), (gwI 29 (by decide +kernel) rfl), (gwI 49 (by decide +kernel) rfl), (gwI 1087 (by decide +kernel) rfl)⟩
theorem fl_2_21 : FL RX2 21 2 2 := ⟨(RX2, TX2, 3), rfl, by decide, rfl, (gwI 215 (by decide +kernel) rfl)⟩
theorem fl_2_11 : FL RX2 11 2 0 := ⟨(RX2, TX2, 3), rfl, by decide, rfl, (gwI 213 (by decide +kernel) rfl)⟩
theorem fl_2_17 : FL RX2 17 2 1 := ⟨(RX2, TX2, 3), rfl, by decide, rfl, (gwI 214 (by decide +kernel) rfl)⟩
theorem ml_2_25 : MLV RX2 25 yX5_copyFrom cX5_copyFrom 2 none 5 1 := ⟨⟨_, rfl, rfl⟩, by decide +kernel, by decide, (gwI 1189 (by decide +kernel) rfl), (gwI 640 (by decide +kernel) rfl), (gwI 641 (by decide +kernel) rfl), (gwI 46 (by decide +kernel) rfl), (gwI 642 (by decide +kernel) rfl)⟩
theorem ml_2_29 : MLS RX2 29 yJ9_min_7cf53 cJ9_min_7cf53 2 (some .int) 2 := ⟨by decide +kernel, by decide, (gwI 1190 (by decide +kernel) rfl), (gwI 549 (by decide +kernel) rfl), (gwI 58 (by decide +kernel) rfl), (gwI 550 (by decide +kernel) rfl)⟩
theorem fl_3_20 : FL RX3 20 3 2 := ⟨(RX3, TX3, 3), rfl, by decide, rfl, (gwI 158 (by decide +kernel) rfl)⟩
theorem fl_3_11 : FL RX3 11 3 0 := ⟨(RX3, TX3, 3), rfl, by decide, rfl, (gwI 156 (by decide +kernel) rfl)⟩
theorem fl_3_16 : FL RX3 16 3 1 := ⟨(RX3, TX3, 3), rfl, by decide, rfl, (gwI 157 (by decide +kernel) rfl)⟩
theorem ml_3_30 : MLV RX3 30 yX3_matches cX3_matches 5 (some .boolean) 3 3 := ⟨⟨_, rfl, rfl⟩, by decide +kernel, by decide, (gwI 611 (by decide +kernel) rfl), (gwI 613 (by decide +kernel) rfl), (gwI 13 (by decide +kernel) rfl), (gwI 47 (by decide +kernel) rfl), (gwI 614 (by decide +kernel) rfl)⟩
theorem fl_4_9 : FL RX4 9 4 0 := ⟨(RX4, TX4, 2), rfl, by decide, rfl, (gwI 322 (by decide +kernel) rfl)⟩
theorem fl_4_15 : FL RX4 15 4 1 := ⟨(RX4, TX4, 2), rfl, by decide, rfl, (gwI 323 (by decide +kernel) rfl)⟩
theorem fl_5_15 : FL RX5 15 5 1 := ⟨(RX5, TX5, 9), rfl, by decide, rfl, (gwI 97 (by decide +kernel) rfl)⟩
theorem fl_5_21 : FL RX5 21 5 3 := ⟨(RX5, TX5, 9), rfl, by decide, rfl, (gwI 107 (by decide +kernel) rfl)⟩
theorem fl_5_18 : FL RX5 18 5 2 := ⟨(RX5, TX5, 9), rfl, by decide, rfl, (gwI 102 (by decide +kernel) rfl)⟩
theorem fl_5_25 : FL RX5 25 5 4 := ⟨(RX5, TX5, 9), rfl, by decide, rfl, (gwI 110 (by decide +kernel) rfl)⟩
theorem fl_5_28 : FL RX5 28 5 5 := ⟨(RX5, TX5, 9), rfl, by decide, rfl, (gwI 114 (by decide +kernel) rfl)⟩
theorem fl_5_31 : FL RX5 31 5 6 := ⟨(RX5, TX5, 9), rfl, by decide, rfl, (gwI 118 (by decide +kernel) rfl)⟩
theorem fl_5_34 : FL RX5 34 5 7 := ⟨(RX5, TX5, 9), rfl, by decide, rfl, (gwI 121 (by decide +kernel) rfl)⟩
theorem fl_5_37 : FL RX5 37 5 8 := ⟨(RX5, TX5, 9), rfl, by decide, rfl, (gwI 124 (by decide +kernel) rfl)⟩
theorem fl_5_9 : FL RX5 9 5 0 := ⟨(RX5, TX5, 9), rfl, by decide, rfl, (gwI 92 (by decide +kernel) rfl)⟩
theorem ml_5_57 : MLV RX5 57 yX5_keeps cX5_keeps 2 (some .boolean) 5 1 := ⟨⟨_, rfl, rfl⟩, by decide +kernel, by decide, (gwI 999 (by decide +kernel) rfl), (gwI 987 (by decide +kernel) rfl), (gwI 988 (by decide +kernel) rfl), (gwI 46 (by decide +kernel) rfl), (gwI 989 (by decide +kernel) rfl)⟩
theorem ml_5_53 : MLV RX5 53 yX5_slackOf cX5_slackOf 2 (some .int) 5 1 := ⟨⟨_, rfl, rfl⟩, by decide +kernel, by decide, (gwI 990 (by decide +kernel) rfl), (gwI 968 (by decide +kernel) rfl), (gwI 969 (by decide +kernel) rfl), (gwI 46 (by decide +kernel) rfl), (gwI 970 (by decide +kernel) rfl)⟩
theorem ml_5_46 : MLV RX5 46 yX5_slackWith cX5_slackWith 3 (some .int) 5 2 := ⟨⟨_, rfl, rfl⟩, by decide +kernel, by decide, (gwI 971 (by decide +kernel) rfl), (gwI 972 (by decide +kernel) rfl), (gwI 973 (by decide +kernel) rfl), (gwI 46 (by decide +kernel) rfl), (gwI 974 (by decide +kernel) rfl)⟩
theorem ml_5_50 : MLN RX5 50 RX8 yX8_modulo cX8_modulo 3 (some .int) 2 := ⟨by decide +kernel, by decide, (by decide +kernel), (gwI 976 (by decide +kernel) rfl), (gwI 44 (by decide +kernel) rfl), (gwI 977 (by decide +kernel) rfl)⟩
theorem fl_6_32 : FL RX6 32 6 4 := ⟨(RX6, TX6, 10), rfl, by decide, rfl, (gwI 173 (by decide +kernel) rfl)⟩
theorem ml_6_51 : MLS RX6 51 yJ9_min_7cf53 cJ9_min_7cf53 2 (some .int) 2 := ⟨by decide +kernel, by decide, (gwI 548 (by decide +kernel) rfl), (gwI 549 (by decide +kernel) rfl), (gwI 58 (by decide +kernel) rfl), (gwI 550 (by decide +kernel) rfl)⟩
theorem fl_6_36 : FL RX6 36 6 5 := ⟨(RX6, TX6, 10), rfl, by decide, rfl, (gwI 174 (by decide +kernel) rfl)⟩
theorem fl_6_45 : FL RX6 45 6 8 := ⟨(RX6, TX6, 10), rfl, by decide, rfl, (gwI 177 (by decide +kernel) rfl)⟩
theorem fl_6_25 : FL RX6 25 6 2 := ⟨(RX6, TX6, 10), rfl, by decide, rfl, (gwI 170 (by decide +kernel) rfl)⟩
theorem fl_6_29 : FL RX6 29 6 3 := ⟨(RX6, TX6, 10), rfl, by decide, rfl, (gwI 172 (by decide +kernel) rfl)⟩
theorem fl_6_21 : FL RX6 21 6 1 := ⟨(RX6, TX6, 10), rfl, by decide, rfl, (gwI 168 (by decide +kernel) rfl)⟩
theorem ml_6_57 : MLV RX6 57 yX3_clear cX3_clear 1 none 3 0 := ⟨⟨_, rfl, rfl⟩, by decide +kernel, by decide, (gwI 551 (by decide +kernel) rfl), (gwI 552 (by decide +kernel) rfl), (gwI 553 (by decide +kernel) rfl), (gwI 47 (by decide +kernel) rfl), (gwI 554 (by decide +kernel) rfl)⟩
theorem fl_6_12 : FL RX6 12 6 0 := ⟨(RX6, TX6, 10), rfl, by decide, rfl, (gwI 166 (by decide +kernel) rfl)⟩
theorem ml_6_60 : MLV RX6 60 yX5_startWith cX5_startWith 2 none 5 1 := ⟨⟨_, rfl, rfl⟩, by decide +kernel, by decide, (gwI 555 (by decide +kernel) rfl), (gwI 556 (by decide +kernel) rfl), (gwI 557 (by decide +kernel) rfl), (gwI 46 (by decide +kernel) rfl), (gwI 558 (by decide +kernel) rfl)⟩
theorem ml_6_64 : MLV RX6 64 yX6_nextToken cX6_nextToken 3 none 6 0 := ⟨⟨_, rfl, rfl⟩, by decide +kernel, by decide, (gwI 559 (by decide +kernel) rfl), (gwI 561 (by decide +kernel) rfl), (gwI 2 (by decide +kernel) rfl), (gwI 45 (by decide +kernel) rfl), (gwI 562 (by decide +kernel) rfl)⟩
theorem fl_6_39 : FL RX6 39 6 6 := ⟨(RX6, TX6, 10), rfl, by decide, rfl, (gwI 175 (by decide +kernel) rfl)⟩
theorem ml_6_67 : MLV RX6 67 yX6_readPeriod cX6_readPeriod 2 (some .boolean) 6 0 := ⟨⟨_, rfl, rfl⟩, by decide +kernel, by decide, (gwI 571 (by decide +kernel) rfl), (gwI 573 (by decide +kernel) rfl), (gwI 5 (by decide +kernel) rfl), (gwI 45 (by decide +kernel) rfl), (gwI 574 (by decide +kernel) rfl)⟩
theorem ml_6_71 : MLV RX6 71 yX6_readStatement cX6_readStatement 1 (some .boolean) 6 0 := ⟨⟨_, rfl, rfl⟩, by decide +kernel, by decide, (gwI 598 (by decide +kernel) rfl), (gwI 600 (by decide +kernel) rfl), (gwI 11 (by decide +kernel) rfl), (gwI 45 (by decide +kernel) rfl), (gwI 601 (by decide +kernel) rfl)⟩
theorem fl_6_42 : FL RX6 42 6 7 := ⟨(RX6, TX6, 10), rfl, by decide, rfl, (gwI 176 (by decide +kernel) rfl)⟩
theorem fl_6_48 : FL RX6 48 6 9 := ⟨(RX6, TX6, 10), rfl, by decide, rfl, (gwI 178 (by decide +kernel) rfl)⟩
theorem ml_6_140 : MLV RX6 140 yX6_endOfRun cX6_endOfRun 4 (some .int) 6 2 := ⟨⟨_, rfl, rfl⟩, by decide +kernel, by decide, (gwI 563 (by decide +kernel) rfl), (gwI 565 (by decide +kernel) rfl), (gwI 3 (by decide +kernel) rfl), (gwI 45 (by decide +kernel) rfl), (gwI 566 (by decide +kernel) rfl)⟩
theorem ml_6_143 : MLV RX6 143 yX6_valueOfDigits cX6_valueOfDigits 3 (some .int) 6 0 := ⟨⟨_, rfl, rfl⟩, by decide +kernel, by decide, (gwI 567 (by decide +kernel) rfl), (gwI 569 (by decide +kernel) rfl), (gwI 4 (by decide +kernel) rfl), (gwI 45 (by decide +kernel) rfl), (gwI 570 (by decide +kernel) rfl)⟩
theorem ml_6_80 : MLV RX6 80 yX6_unexpected cX6_unexpected 1 (some .boolean) 6 0 := ⟨⟨_, rfl, rfl⟩, by decide +kernel, by decide, (gwI 582 (by decide +kernel) rfl), (gwI 584 (by decide +kernel) rfl), (gwI 7 (by decide +kernel) rfl), (gwI 45 (by decide +kernel) rfl), (gwI 585 (by decide +kernel) rfl)⟩
theorem ml_6_109 : MLV RX6 109 yX3_indexOf cX3_indexOf 5 (some .int) 3 3 := ⟨⟨_, rfl, rfl⟩, by decide +kernel, by decide, (gwI 607 (by decide +kernel) rfl), (gwI 608 (by decide +kernel) rfl), (gwI 609 (by decide +kernel) rfl), (gwI 47 (by decide +kernel) rfl), (gwI 610 (by decide +kernel) rfl)⟩
theorem ml_6_97 : MLV RX6 97 yX6_fail cX6_fail 2 (some .boolean) 6 1 := ⟨⟨_, rfl, rfl⟩, by decide +kernel, by decide, (gwI 586 (by decide +kernel) rfl), (gwI 588 (by decide +kernel) rfl), (gwI 8 (by decide +kernel) rfl), (gwI 45 (by decide +kernel) rfl), (gwI 589 (by decide +kernel) rfl)⟩
theorem ml_6_113 : MLV RX6 113 yX3_append cX3_append 4 none 3 3 := ⟨⟨_, rfl, rfl⟩, by decide +kernel, by decide, (gwI 615 (by decide +kernel) rfl), (gwI 616 (by decide +kernel) rfl), (gwI 617 (by decide +kernel) rfl), (gwI 47 (by decide +kernel) rfl), (gwI 618 (by decide +kernel) rfl)⟩
theorem fl_6_117 : FL RX6 117 5 0 := ⟨(RX5, TX5, 9), rfl, by decide, rfl, (gwI 95 (by decide +kernel) rfl)⟩
theorem ml_6_83 : MLV RX6 83 yX6_readNumber cX6_readNumber 3 (some .int) 6 2 := ⟨⟨_, rfl, rfl⟩, by decide +kernel, by decide, (gwI 590 (by decide +kernel) rfl), (gwI 592 (by decide +kernel) rfl), (gwI 9 (by decide +kernel) rfl), (gwI 45 (by decide +kernel) rfl), (gwI 593 (by decide +kernel) rfl)⟩
theorem ml_6_119 : MLV RX6 119 yX5_appendEvent cX5_appendEvent 2 none 5 1 := ⟨⟨_, rfl, rfl⟩, by decide +kernel, by decide, (gwI 622 (by decide +kernel) rfl), (gwI 623 (by decide +kernel) rfl), (gwI 624 (by decide +kernel) rfl), (gwI 46 (by decide +kernel) rfl), (gwI 625 (by decide +kernel) rfl)⟩
theorem ml_6_86 : MLV RX6 86 yX6_readSemicolon cX6_readSemicolon 1 (some .boolean) 6 0 := ⟨⟨_, rfl, rfl⟩, by decide +kernel, by decide, (gwI 594 (by decide +kernel) rfl), (gwI 596 (by decide +kernel) rfl), (gwI 10 (by decide +kernel) rfl), (gwI 45 (by decide +kernel) rfl), (gwI 597 (by decide +kernel) rfl)⟩
theorem ml_6_76 : MLV RX6 76 yX6_isWord cX6_isWord 4 (some .boolean) 6 1 := ⟨⟨_, rfl, rfl⟩, by decide +kernel, by decide, (gwI 576 (by decide +kernel) rfl), (gwI 578 (by decide +kernel) rfl), (gwI 6 (by decide +kernel) rfl), (gwI 45 (by decide +kernel) rfl), (gwI 579 (by decide +kernel) rfl)⟩
theorem ml_6_122 : MLV RX6 122 yX6_readKnownEvent cX6_readKnownEvent 3 (some .int) 6 1 := ⟨⟨_, rfl, rfl⟩, by decide +kernel, by decide, (gwI 631 (by decide +kernel) rfl), (gwI 633 (by decide +kernel) rfl), (gwI 15 (by decide +kernel) rfl), (gwI 45 (by decide +kernel) rfl), (gwI 634 (by decide +kernel) rfl)⟩
theorem ml_6_126 : MLV RX6 126 yX5_appendSpan cX5_appendSpan 6 none 5 5 := ⟨⟨_, rfl, rfl⟩, by decide +kernel, by decide, (gwI 635 (by decide +kernel) rfl), (gwI 636 (by decide +kernel) rfl), (gwI 637 (by decide +kernel) rfl), (gwI 46 (by decide +kernel) rfl), (gwI 638 (by decide +kernel) rfl)⟩
theorem fl_6_91 : FL RX6 91 5 1 := ⟨(RX5, TX5, 9), rfl, by decide, rfl, (gwI 100 (by decide +kernel) rfl)⟩
theorem ml_6_94 : MLV RX6 94 yX6_readEvent cX6_readEvent 2 (some .boolean) 6 0 := ⟨⟨_, rfl, rfl⟩, by decide +kernel, by decide, (gwI 603 (by decide +kernel) rfl), (gwI 605 (by decide +kernel) rfl), (gwI 12 (by decide +kernel) rfl), (gwI 45 (by decide +kernel) rfl), (gwI 606 (by decide +kernel) rfl)⟩
theorem fl_6_103 : FL RX6 103 5 2 := ⟨(RX5, TX5, 9), rfl, by decide, rfl, (gwI 105 (by decide +kernel) rfl)⟩
theorem ml_6_106 : MLV RX6 106 yX6_readSpan cX6_readSpan 6 (some .boolean) 6 0 := ⟨⟨_, rfl, rfl⟩, by decide +kernel, by decide, (gwI 627 (by decide +kernel) rfl), (gwI 629 (by decide +kernel) rfl), (gwI 14 (by decide +kernel) rfl), (gwI 45 (by decide +kernel) rfl), (gwI 630 (by decide +kernel) rfl)⟩
theorem fl_7_12 : FL RX7 12 7 0 := ⟨(RX7, TX7, 10), rfl, by decide, rfl, (gwI 283 (by decide +kernel) rfl)⟩
theorem fl_7_47 : FL RX7 47 7 9 := ⟨(RX7, TX7, 10), rfl, by decide, rfl, (gwI 294 (by decide +kernel) rfl)⟩
theorem fl_7_51 : FL RX7 51 5 1 := ⟨(RX5, TX5, 9), rfl, by decide, rfl, (gwI 99 (by decide +kernel) rfl)⟩
theorem fl_7_41 : FL RX7 41 7 7 := ⟨(RX7, TX7, 10), rfl, by decide, rfl, (gwI 292 (by decide +kernel) rfl)⟩
theorem fl_7_56 : FL RX7 56 5 0 := ⟨(RX5, TX5, 9), rfl, by decide, rfl, (gwI 94 (by decide +kernel) rfl)⟩
theorem fl_7_44 : FL RX7 44 7 8 := ⟨(RX7, TX7, 10), rfl, by decide, rfl, (gwI 293 (by decide +kernel) rfl)⟩
theorem fl_7_23 : FL RX7 23 7 2 := ⟨(RX7, TX7, 10), rfl, by decide, rfl, (gwI 287 (by decide +kernel) rfl)⟩
theorem ml_7_57 : MLV RX7 57 yX1_startFrom cX1_startFrom 4 none 1 1 := ⟨⟨_, rfl, rfl⟩, by decide +kernel, by decide, (gwI 1123 (by decide +kernel) rfl), (gwI 1061 (by decide +kernel) rfl), (gwI 1062 (by decide +kernel) rfl), (gwI 49 (by decide +kernel) rfl), (gwI 1063 (by decide +kernel) rfl)⟩
theorem ml_7_61 : MLV RX7 61 yX1_tighten cX1_tighten 2 none 1 0 := ⟨⟨_, rfl, rfl⟩, by decide +kernel, by decide, (gwI 1124 (by decide +kernel) rfl), (gwI 1081 (by decide +kernel) rfl), (gwI 1082 (by decide +kernel) rfl), (gwI 49 (by decide +kernel) rfl), (gwI 1083 (by decide +kernel) rfl)⟩
theorem ml_7_64 : MLV RX7 64 yX1_hasEmptySet cX1_hasEmptySet 3 (some .boolean) 1 0 := ⟨⟨_, rfl, rfl⟩, by decide +kernel, by decide, (gwI 1125 (by decide +kernel) rfl), (gwI 1126 (by decide +kernel) rfl), (gwI 1127 (by decide +kernel) rfl), (gwI 49 (by decide +kernel) rfl), (gwI 1128 (by decide +kernel) rfl)⟩
theorem ml_7_68 : MLV RX7 68 yX7_priceDifferences cX7_priceDifferences 6 none 7 1 := ⟨⟨_, rfl, rfl⟩, by decide +kernel, by decide, (gwI 1129 (by decide +kernel) rfl), (gwI 1131 (by decide +kernel) rfl), (gwI 33 (by decide +kernel) rfl), (gwI 51 (by decide +kernel) rfl), (gwI 1132 (by decide +kernel) rfl)⟩
theorem ml_7_71 : MLV RX7 71 yX7_sumLeastPrices cX7_sumLeastPrices 4 none 7 0 := ⟨⟨_, rfl, rfl⟩, by decide +kernel, by decide, (gwI 1141 (by decide +kernel) rfl), (gwI 1143 (by decide +kernel) rfl), (gwI 35 (by decide +kernel) rfl), (gwI 51 (by decide +kernel) rfl), (gwI 1144 (by decide +kernel) rfl)⟩
theorem ml_7_74 : MLV RX7 74 yX7_holdFirstEvent cX7_holdFirstEvent 5 none 7 1 := ⟨⟨_, rfl, rfl⟩, by decide +kernel, by decide, (gwI 1149 (by decide +kernel) rfl), (gwI 1151 (by decide +kernel) rfl), (gwI 37 (by decide +kernel) rfl), (gwI 51 (by decide +kernel) rfl), (gwI 1152 (by decide +kernel) rfl)⟩
theorem ml_7_77 : MLV RX7 77 yX7_placeFrom cX7_placeFrom 4 none 7 2 := ⟨⟨_, rfl, rfl⟩, by decide +kernel, by decide, (gwI 1153 (by decide +kernel) rfl), (gwI 1155 (by decide +kernel) rfl), (gwI 38 (by decide +kernel) rfl), (gwI 51 (by decide +kernel) rfl), (gwI 1156 (by decide +kernel) rfl)⟩
theorem fl_7_117 : FL RX7 117 5 3 := ⟨(RX5, TX5, 9), rfl, by decide, rfl, (gwI 108 (by decide +kernel) rfl)⟩
theorem fl_7_32 : FL RX7 32 7 4 := ⟨(RX7, TX7, 10), rfl, by decide, rfl, (gwI 289 (by decide +kernel) rfl)⟩
theorem fl_7_16 : FL RX7 16 7 1 := ⟨(RX7, TX7, 10), rfl, by decide, rfl, (gwI 285 (by decide +kernel) rfl)⟩
theorem fl_7_29 : FL RX7 29 7 3 := ⟨(RX7, TX7, 10), rfl, by decide, rfl, (gwI 288 (by decide +kernel) rfl)⟩
theorem fl_7_35 : FL RX7 35 7 5 := ⟨(RX7, TX7, 10), rfl, by decide, rfl, (gwI 290 (by decide +kernel) rfl)⟩
theorem fl_7_38 : FL RX7 38 7 6 := ⟨(RX7, TX7, 10), rfl, by decide, rfl, (gwI 291 (by decide +kernel) rfl)⟩
theorem ml_7_98 : MLS RX7 98 yJ9_min_7cf53 cJ9_min_7cf53 2 (some .int) 2 := ⟨by decide +kernel, by decide, (gwI 1138 (by decide +kernel) rfl), (gwI 549 (by decide +kernel) rfl), (gwI 58 (by decide +kernel) rfl), (gwI 550 (by decide +kernel) rfl)⟩
theorem ml_7_130 : MLV RX7 130 yX7_canGetBest cX7_canGetBest 2 (some .boolean) 7 1 := ⟨⟨_, rfl, rfl⟩, by decide +kernel, by decide, (gwI 1162 (by decide +kernel) rfl), (gwI 1164 (by decide +kernel) rfl), (gwI 40 (by decide +kernel) rfl), (gwI 51 (by decide +kernel) rfl), (gwI 1165 (by decide +kernel) rfl)⟩
theorem ml_7_134 : MLV RX7 134 yX7_priceBehind cX7_priceBehind 11 (some .int) 7 2 := ⟨⟨_, rfl, rfl⟩, by decide +kernel, by decide, (gwI 1166 (by decide +kernel) rfl), (gwI 1168 (by decide +kernel) rfl), (gwI 41 (by decide +kernel) rfl), (gwI 51 (by decide +kernel) rfl), (gwI 1169 (by decide +kernel) rfl)⟩
theorem ml_7_126 : MLV RX7 126 yX7_placeAt cX7_placeAt 4 none 7 3 := ⟨⟨_, rfl, rfl⟩, by decide +kernel, by decide, (gwI 1158 (by decide +kernel) rfl), (gwI 1160 (by decide +kernel) rfl), (gwI 39 (by decide +kernel) rfl), (gwI 51 (by decide +kernel) rfl), (gwI 1161 (by decide +kernel) rfl)⟩
theorem ml_7_81 : MLV RX7 81 yX1_allows cX1_allows 4 (some .boolean) 1 3 := ⟨⟨_, rfl, rfl⟩, by decide +kernel, by decide, (gwI 1133 (by decide +kernel) rfl), (gwI 1093 (by decide +kernel) rfl), (gwI 1094 (by decide +kernel) rfl), (gwI 49 (by decide +kernel) rfl), (gwI 1095 (by decide +kernel) rfl)⟩
theorem fl_7_85 : FL RX7 85 5 2 := ⟨(RX5, TX5, 9), rfl, by decide, rfl, (gwI 104 (by decide +kernel) rfl)⟩
theorem ml_7_88 : MLV RX7 88 yX7_priceSpan cX7_priceSpan 7 none 7 2 := ⟨⟨_, rfl, rfl⟩, by decide +kernel, by decide, (gwI 1134 (by decide +kernel) rfl), (gwI 1136 (by decide +kernel) rfl), (gwI 34 (by decide +kernel) rfl), (gwI 51 (by decide +kernel) rfl), (gwI 1137 (by decide +kernel) rfl)⟩
theorem fl_7_92 : FL RX7 92 5 4 := ⟨(RX5, TX5, 9), rfl, by decide, rfl, (gwI 112 (by decide +kernel) rfl)⟩
theorem fl_7_95 : FL RX7 95 5 5 := ⟨(RX5, TX5, 9), rfl, by decide, rfl, (gwI 116 (by decide +kernel) rfl)⟩
theorem ml_7_104 : MLS RX7 104 yJ9_max_7cf53 cJ9_max_7cf53 2 (some .int) 2 := ⟨by decide +kernel, by decide, (gwI 1139 (by decide +kernel) rfl), (gwI 724 (by decide +kernel) rfl), (gwI 58 (by decide +kernel) rfl), (gwI 725 (by decide +kernel) rfl)⟩
theorem fl_7_107 : FL RX7 107 5 8 := ⟨(RX5, TX5, 9), rfl, by decide, rfl, (gwI 125 (by decide +kernel) rfl)⟩
theorem ml_7_110 : MLV RX7 110 yX5_slackWith cX5_slackWith 3 (some .int) 5 2 := ⟨⟨_, rfl, rfl⟩, by decide +kernel, by decide, (gwI 1140 (by decide +kernel) rfl), (gwI 972 (by decide +kernel) rfl), (gwI 973 (by decide +kernel) rfl), (gwI 46 (by decide +kernel) rfl), (gwI 974 (by decide +kernel) rfl)⟩
theorem ml_7_113 : MLV RX7 113 yX7_leastPrice cX7_leastPrice 4 (some .int) 7 1 := ⟨⟨_, rfl, rfl⟩, by decide +kernel, by decide, (gwI 1145 (by decide +kernel) rfl), (gwI 1147 (by decide +kernel) rfl), (gwI 36 (by decide +kernel) rfl), (gwI 51 (by decide +kernel) rfl), (gwI 1148 (by decide +kernel) rfl)⟩
theorem ml_8_119 : MLV RX8 119 yX8_requireEvent cX8_requireEvent 2 none 8 1 := ⟨⟨_, rfl, rfl⟩, by decide +kernel, by decide, (gwI 929 (by decide +kernel) rfl), (gwI 931 (by decide +kernel) rfl), (gwI 21 (by decide +kernel) rfl), (gwI 44 (by decide +kernel) rfl), (gwI 932 (by decide +kernel) rfl)⟩
theorem fl_8_51 : FL RX8 51 8 7 := ⟨(RX8, TX8, 11), rfl, by decide, rfl, (gwI 337 (by decide +kernel) rfl)⟩
theorem fl_8_34 : FL RX8 34 8 4 := ⟨(RX8, TX8, 11), rfl, by decide, rfl, (gwI 334 (by decide +kernel) rfl)⟩
theorem ml_8_174 : MLV RX8 174 yX1_startFrom cX1_startFrom 4 none 1 1 := ⟨⟨_, rfl, rfl⟩, by decide +kernel, by decide, (gwI 1060 (by decide +kernel) rfl), (gwI 1061 (by decide +kernel) rfl), (gwI 1062 (by decide +kernel) rfl), (gwI 49 (by decide +kernel) rfl), (gwI 1063 (by decide +kernel) rfl)⟩
theorem ml_8_177 : MLV RX8 177 yX1_tighten cX1_tighten 2 none 1 0 := ⟨⟨_, rfl, rfl⟩, by decide +kernel, by decide, (gwI 1080 (by decide +kernel) rfl), (gwI 1081 (by decide +kernel) rfl), (gwI 1082 (by decide +kernel) rfl), (gwI 49 (by decide +kernel) rfl), (gwI 1083 (by decide +kernel) rfl)⟩
theorem ml_8_180 : MLV RX8 180 yX1_between cX1_between 3 (some .int) 1 2 := ⟨⟨_, rfl, rfl⟩, by decide +kernel, by decide, (gwI 1100 (by decide +kernel) rfl), (gwI 1073 (by decide +kernel) rfl), (gwI 1074 (by decide +kernel) rfl), (gwI 49 (by decide +kernel) rfl), (gwI 1075 (by decide +kernel) rfl)⟩
theorem ml_8_184 : MLS RX8 184 yJ6_bitCount_0f7a4 cJ6_bitCount_0f7a4 1 (some .int) 1 := ⟨by decide +kernel, by decide, (gwI 1101 (by decide +kernel) rfl), (gwI 1102 (by decide +kernel) rfl), (gwI 64 (by decide +kernel) rfl), (gwI 1103 (by decide +kernel) rfl)⟩
theorem fl_8_13 : FL RX8 13 8 1 := ⟨(RX8, TX8, 11), rfl, by decide, rfl, (gwI 331 (by decide +kernel) rfl)⟩
theorem fl_8_9 : FL RX8 9 8 0 := ⟨(RX8, TX8, 11), rfl, by decide, rfl, (gwI 330 (by decide +kernel) rfl)⟩
theorem ml_8_159 : MLV RX8 159 yX5_countBroken cX5_countBroken 3 (some .int) 5 0 := ⟨⟨_, rfl, rfl⟩, by decide +kernel, by decide, (gwI 995 (by decide +kernel) rfl), (gwI 996 (by decide +kernel) rfl), (gwI 997 (by decide +kernel) rfl), (gwI 46 (by decide +kernel) rfl), (gwI 998 (by decide +kernel) rfl)⟩
theorem fl_8_65 : FL RX8 65 8 9 := ⟨(RX8, TX8, 11), rfl, by decide, rfl, (gwI 339 (by decide +kernel) rfl)⟩
theorem ml_8_245 : MLV RX8 245 yX7_findGood cX7_findGood 3 (some .boolean) 7 2 := ⟨⟨_, rfl, rfl⟩, by decide +kernel, by decide, (gwI 1119 (by decide +kernel) rfl), (gwI 1120 (by decide +kernel) rfl), (gwI 1121 (by decide +kernel) rfl), (gwI 51 (by decide +kernel) rfl), (gwI 1122 (by decide +kernel) rfl)⟩
theorem ml_8_249 : MLS RX8 249 yX8_requireGood cX8_requireGood 1 none 1 := ⟨by decide +kernel, by decide, (gwI 1177 (by decide +kernel) rfl), (gwI 1178 (by decide +kernel) rfl), (gwI 44 (by decide +kernel) rfl), (gwI 1179 (by decide +kernel) rfl)⟩
theorem ml_8_278 : MLV RX8 278 yX8_takeBest cX8_takeBest 1 (some .int) 8 0 := ⟨⟨_, rfl, rfl⟩, by decide +kernel, by decide, (gwI 1181 (by decide +kernel) rfl), (gwI 1183 (by decide +kernel) rfl), (gwI 42 (by decide +kernel) rfl), (gwI 44 (by decide +kernel) rfl), (gwI 1184 (by decide +kernel) rfl)⟩
theorem ml_8_168 : MLV RX8 168 yX5_sumCosts cX5_sumCosts 3 (some .int) 5 0 := ⟨⟨_, rfl, rfl⟩, by decide +kernel, by decide, (gwI 1004 (by decide +kernel) rfl), (gwI 1005 (by decide +kernel) rfl), (gwI 1006 (by decide +kernel) rfl), (gwI 46 (by decide +kernel) rfl), (gwI 1007 (by decide +kernel) rfl)⟩
theorem ml_8_126 : MLV RX8 126 yX8_requireSpan cX8_requireSpan 2 none 8 1 := ⟨⟨_, rfl, rfl⟩, by decide +kernel, by decide, (gwI 957 (by decide +kernel) rfl), (gwI 959 (by decide +kernel) rfl), (gwI 23 (by decide +kernel) rfl), (gwI 44 (by decide +kernel) rfl), (gwI 960 (by decide +kernel) rfl)⟩
theorem fl_8_135 : FL RX8 135 5 6 := ⟨(RX5, TX5, 9), rfl, by decide, rfl, (gwI 120 (by decide +kernel) rfl)⟩
theorem ml_8_151 : MLV RX8 151 yX5_slackOf cX5_slackOf 2 (some .int) 5 1 := ⟨⟨_, rfl, rfl⟩, by decide +kernel, by decide, (gwI 967 (by decide +kernel) rfl), (gwI 968 (by decide +kernel) rfl), (gwI 969 (by decide +kernel) rfl), (gwI 46 (by decide +kernel) rfl), (gwI 970 (by decide +kernel) rfl)⟩
theorem fl_8_20 : FL RX8 20 8 2 := ⟨(RX8, TX8, 11), rfl, by decide, rfl, (gwI 332 (by decide +kernel) rfl)⟩
theorem fl_8_103 : FL RX8 103 6 2 := ⟨(RX6, TX6, 10), rfl, by decide, rfl, (gwI 171 (by decide +kernel) rfl)⟩
theorem fl_8_112 : FL RX8 112 5 1 := ⟨(RX5, TX5, 9), rfl, by decide, rfl, (gwI 101 (by decide +kernel) rfl)⟩
theorem ml_8_76 : MLV RX8 76 yX8_appendBytes cX8_appendBytes 3 none 8 1 := ⟨⟨_, rfl, rfl⟩, by decide +kernel, by decide, (gwI 465 (by decide +kernel) rfl), (gwI 467 (by decide +kernel) rfl), (gwI 0 (by decide +kernel) rfl), (gwI 44 (by decide +kernel) rfl), (gwI 468 (by decide +kernel) rfl)⟩
theorem fl_8_100 : FL RX8 100 5 2 := ⟨(RX5, TX5, 9), rfl, by decide, rfl, (gwI 106 (by decide +kernel) rfl)⟩
theorem ml_8_155 : MLV RX8 155 yX5_keeps cX5_keeps 2 (some .boolean) 5 1 := ⟨⟨_, rfl, rfl⟩, by decide +kernel, by decide, (gwI 986 (by decide +kernel) rfl), (gwI 987 (by decide +kernel) rfl), (gwI 988 (by decide +kernel) rfl), (gwI 46 (by decide +kernel) rfl), (gwI 989 (by decide +kernel) rfl)⟩
theorem fl_8_27 : FL RX8 27 8 3 := ⟨(RX8, TX8, 11), rfl, by decide, rfl, (gwI 333 (by decide +kernel) rfl)⟩
theorem fl_8_38 : FL RX8 38 8 5 := ⟨(RX8, TX8, 11), rfl, by decide, rfl, (gwI 335 (by decide +kernel) rfl)⟩
theorem fl_8_44 : FL RX8 44 8 6 := ⟨(RX8, TX8, 11), rfl, by decide, rfl, (gwI 336 (by decide +kernel) rfl)⟩
theorem fl_8_58 : FL RX8 58 8 8 := ⟨(RX8, TX8, 11), rfl, by decide, rfl, (gwI 338 (by decide +kernel) rfl)⟩
theorem fl_8_72 : FL RX8 72 8 10 := ⟨(RX8, TX8, 11), rfl, by decide, rfl, (gwI 340 (by decide +kernel) rfl)⟩
theorem fl_8_109 : FL RX8 109 5 0 := ⟨(RX5, TX5, 9), rfl, by decide, rfl, (gwI 96 (by decide +kernel) rfl)⟩
theorem ml_8_80 : MLS RX8 80 yX8_requireRange cX8_requireRange 3 none 3 := ⟨by decide +kernel, by decide, (gwI 473 (by decide +kernel) rfl), (gwI 474 (by decide +kernel) rfl), (gwI 44 (by decide +kernel) rfl), (gwI 475 (by decide +kernel) rfl)⟩
theorem ml_8_189 : MLV RX8 189 yX8_tightenDifferences cX8_tightenDifferences 1 none 8 0 := ⟨⟨_, rfl, rfl⟩, by decide +kernel, by decide, (gwI 1056 (by decide +kernel) rfl), (gwI 1058 (by decide +kernel) rfl), (gwI 26 (by decide +kernel) rfl), (gwI 44 (by decide +kernel) rfl), (gwI 1059 (by decide +kernel) rfl)⟩
theorem ml_8_192 : MLV RX8 192 yX1_allows cX1_allows 4 (some .boolean) 1 3 := ⟨⟨_, rfl, rfl⟩, by decide +kernel, by decide, (gwI 1092 (by decide +kernel) rfl), (gwI 1093 (by decide +kernel) rfl), (gwI 1094 (by decide +kernel) rfl), (gwI 49 (by decide +kernel) rfl), (gwI 1095 (by decide +kernel) rfl)⟩
theorem ml_8_199 : MLV RX8 199 yX1_hasEmptySet cX1_hasEmptySet 3 (some .boolean) 1 0 := ⟨⟨_, rfl, rfl⟩, by decide +kernel, by decide, (gwI 1204 (by decide +kernel) rfl), (gwI 1126 (by decide +kernel) rfl), (gwI 1127 (by decide +kernel) rfl), (gwI 49 (by decide +kernel) rfl), (gwI 1128 (by decide +kernel) rfl)⟩
theorem fl_8_253 : FL RX8 253 7 0 := ⟨(RX7, TX7, 10), rfl, by decide, rfl, (gwI 284 (by decide +kernel) rfl)⟩
theorem ml_8_84 : MLV RX8 84 yX6_accepts cX6_accepts 5 (some .boolean) 6 2 := ⟨⟨_, rfl, rfl⟩, by decide +kernel, by decide, (gwI 544 (by decide +kernel) rfl), (gwI 545 (by decide +kernel) rfl), (gwI 546 (by decide +kernel) rfl), (gwI 45 (by decide +kernel) rfl), (gwI 547 (by decide +kernel) rfl)⟩
theorem fl_8_88 : FL RX8 88 6 0 := ⟨(RX6, TX6, 10), rfl, by decide, rfl, (gwI 167 (by decide +kernel) rfl)⟩
theorem ml_8_89 : MLV RX8 89 yX5_copyFrom cX5_copyFrom 2 none 5 1 := ⟨⟨_, rfl, rfl⟩, by decide +kernel, by decide, (gwI 639 (by decide +kernel) rfl), (gwI 640 (by decide +kernel) rfl), (gwI 641 (by decide +kernel) rfl), (gwI 46 (by decide +kernel) rfl), (gwI 642 (by decide +kernel) rfl)⟩
theorem fl_8_93 : FL RX8 93 6 1 := ⟨(RX6, TX6, 10), rfl, by decide, rfl, (gwI 169 (by decide +kernel) rfl)⟩
theorem ml_8_94 : MLV RX8 94 yX3_copyFrom cX3_copyFrom 3 none 3 1 := ⟨⟨_, rfl, rfl⟩, by decide +kernel, by decide, (gwI 644 (by decide +kernel) rfl), (gwI 645 (by decide +kernel) rfl), (gwI 646 (by decide +kernel) rfl), (gwI 47 (by decide +kernel) rfl), (gwI 647 (by decide +kernel) rfl)⟩
theorem ml_8_97 : MLV RX8 97 yX2_clear cX2_clear 1 none 2 0 := ⟨⟨_, rfl, rfl⟩, by decide +kernel, by decide, (gwI 648 (by decide +kernel) rfl), (gwI 649 (by decide +kernel) rfl), (gwI 650 (by decide +kernel) rfl), (gwI 48 (by decide +kernel) rfl), (gwI 651 (by decide +kernel) rfl)⟩
theorem ml_8_171 : MLV RX8 171 yX5_sumWeights cX5_sumWeights 3 (some .int) 5 0 := ⟨⟨_, rfl, rfl⟩, by decide +kernel, by decide, (gwI 1012 (by decide +kernel) rfl), (gwI 1013 (by decide +kernel) rfl), (gwI 1014 (by decide +kernel) rfl), (gwI 46 (by decide +kernel) rfl), (gwI 1015 (by decide +kernel) rfl)⟩
theorem fl_8_138 : FL RX8 138 5 7 := ⟨(RX5, TX5, 9), rfl, by decide, rfl, (gwI 123 (by decide +kernel) rfl)⟩
theorem ml_8_259 : MLV RX8 259 yX2_remember cX2_remember 2 none 2 1 := ⟨⟨_, rfl, rfl⟩, by decide +kernel, by decide, (gwI 1185 (by decide +kernel) rfl), (gwI 1186 (by decide +kernel) rfl), (gwI 1187 (by decide +kernel) rfl), (gwI 48 (by decide +kernel) rfl), (gwI 1188 (by decide +kernel) rfl)⟩
theorem fl_8_122 : FL RX8 122 5 3 := ⟨(RX5, TX5, 9), rfl, by decide, rfl, (gwI 109 (by decide +kernel) rfl)⟩
theorem ml_8_203 : MLS RX8 203 yX8_modulo cX8_modulo 3 (some .int) 2 := ⟨by decide +kernel, by decide, (gwI 1241 (by decide +kernel) rfl), (gwI 976 (by decide +kernel) rfl), (gwI 44 (by decide +kernel) rfl), (gwI 977 (by decide +kernel) rfl)⟩
theorem fl_8_141 : FL RX8 141 5 8 := ⟨(RX5, TX5, 9), rfl, by decide, rfl, (gwI 126 (by decide +kernel) rfl)⟩
theorem fl_8_129 : FL RX8 129 5 4 := ⟨(RX5, TX5, 9), rfl, by decide, rfl, (gwI 113 (by decide +kernel) rfl)⟩
theorem fl_8_132 : FL RX8 132 5 5 := ⟨(RX5, TX5, 9), rfl, by decide, rfl, (gwI 117 (by decide +kernel) rfl)⟩
theorem fl_8_281 : FL RX8 281 7 1 := ⟨(RX7, TX7, 10), rfl, by decide, rfl, (gwI 286 (by decide +kernel) rfl)⟩
theorem ml_8_294 : MLV RX8 294 yX2_restore cX2_restore 2 (some .int) 2 1 := ⟨⟨_, rfl, rfl⟩, by decide +kernel, by decide, (gwI 1196 (by decide +kernel) rfl), (gwI 1197 (by decide +kernel) rfl), (gwI 1198 (by decide +kernel) rfl), (gwI 48 (by decide +kernel) rfl), (gwI 1199 (by decide +kernel) rfl)⟩
theorem fpi_0_0 : FPI 0 0 := fun r h => by cases h; exact ⟨rfl, by decide +kernel⟩
theorem fpi_1_0 : FPI 1 0 := fun r h => by cases h; exact ⟨rfl, by decide +kernel⟩
theorem fpi_1_2 : FPI 1 2 := fun r h => by cases h; exact ⟨rfl, by decide +kernel⟩
theorem fpi_1_3 : FPI 1 3 := fun r h => by cases h; exact ⟨rfl, by decide +kernel⟩
theorem fpi_1_4 : FPI 1 4 := fun r h => by cases h; exact ⟨rfl, by decide +kernel⟩
theorem fpi_2_1 : FPI 2 1 := fun r h => by cases h; exact ⟨rfl, by decide +kernel⟩
theorem fpi_2_2 : FPI 2 2 := fun r h => by cases h; exact ⟨rfl, by decide +kernel⟩
theorem fpi_3_2 : FPI 3 2 := fun r h => by cases h; exact ⟨rfl, by decide +kernel⟩
theorem fpi_4_1 : FPI 4 1 := fun r h => by cases h; exact ⟨rfl, by decide +kernel⟩
theorem fpi_5_0 : FPI 5 0 := fun r h => by cases h; exact ⟨rfl, by decide +kernel⟩
theorem fpi_5_1 : FPI 5 1 := fun r h => by cases h; exact ⟨rfl, by decide +kernel⟩
theorem fpi_5_2 : FPI 5 2 := fun r h => by cases h; exact ⟨rfl, by decide +kernel⟩
theorem fpi_6_2 : FPI 6 2 := fun r h => by cases h; exact ⟨rfl, by decide +kernel⟩
theorem fpi_6_3 : FPI 6 3 := fun r h => by cases h; exact ⟨rfl, by decide +kernel⟩
theorem fpi_6_5 : FPI 6 5 := fun r h => by cases h; exact ⟨rfl, by decide +kernel⟩
theorem fpi_6_6 : FPI 6 6 := fun r h => by cases h; exact ⟨rfl, by decide +kernel⟩
theorem fpi_6_7 : FPI 6 7 := fun r h => by cases h; exact ⟨rfl, by decide +kernel⟩
theorem fpi_6_8 : FPI 6 8 := fun r h => by cases h; exact ⟨rfl, by decide +kernel⟩
theorem fpi_6_9 : FPI 6 9 := fun r h => by cases h; exact ⟨rfl, by decide +kernel⟩
theorem fpi_7_0 : FPI 7 0 := fun r h => by cases h; exact ⟨rfl, by decide +kernel⟩
theorem fpi_7_7 : FPI 7 7 := fun r h => by cases h; exact ⟨rfl, by decide +kernel⟩
theorem fpi_7_8 : FPI 7 8 := fun r h => by cases h; exact ⟨rfl, by decide +kernel⟩
theorem fpi_8_1 : FPI 8 1 := fun r h => by cases h; exact ⟨rfl, by decide +kernel⟩
theorem mc_8_284 : MLC RX8 284 := ⟨(gwI 1191 (by decide +kernel) rfl), (gwI 621 (by decide +kernel) rfl), (gwI 620 (by decide +kernel) rfl), (gwI 60 (by decide +kernel) rfl)⟩
theorem mc_3_24 : MLC RX3 24 := ⟨(gwI 619 (by decide +kernel) rfl), (gwI 621 (by decide +kernel) rfl), (gwI 620 (by decide +kernel) rfl), (gwI 60 (by decide +kernel) rfl)⟩
theorem mc_5_40 : MLC RX5 40 := ⟨(gwI 643 (by decide +kernel) rfl), (gwI 621 (by decide +kernel) rfl), (gwI 620 (by decide +kernel) rfl), (gwI 60 (by decide +kernel) rfl)⟩
theorem mc_7_120 : MLC RX7 120 := ⟨(gwI 1157 (by decide +kernel) rfl), (gwI 621 (by decide +kernel) rfl), (gwI 620 (by decide +kernel) rfl), (gwI 60 (by decide +kernel) rfl)⟩
theorem kc_7_11 : Cond.constant RX7 11 (Int32.ofInt 1048576) ∈ Gw := (gwI 279 (by decide +kernel) rfl)
