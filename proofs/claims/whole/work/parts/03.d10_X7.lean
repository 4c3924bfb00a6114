theorem dX7_kindOf_0 : decode cX7_kindOf 0 = .ok (.iload_n 0, 1) := by decide +kernel
theorem dX7_kindOf_1 : decode cX7_kindOf 1 = .ok (.bipush 97, 2) := by decide +kernel
theorem dX7_kindOf_3 : decode cX7_kindOf 3 = .ok (.if_icmp .lt 11, 3) := by decide +kernel
theorem dX7_kindOf_6 : decode cX7_kindOf 6 = .ok (.iload_n 0, 1) := by decide +kernel
theorem dX7_kindOf_7 : decode cX7_kindOf 7 = .ok (.bipush 122, 2) := by decide +kernel
theorem dX7_kindOf_9 : decode cX7_kindOf 9 = .ok (.if_icmp .gt 5, 3) := by decide +kernel
theorem dX7_kindOf_12 : decode cX7_kindOf 12 = .ok (.iconst 0, 1) := by decide +kernel
theorem dX7_kindOf_13 : decode cX7_kindOf 13 = .ok (.ireturn, 1) := by decide +kernel
theorem dX7_kindOf_14 : decode cX7_kindOf 14 = .ok (.iload_n 0, 1) := by decide +kernel
theorem dX7_kindOf_15 : decode cX7_kindOf 15 = .ok (.bipush 65, 2) := by decide +kernel
theorem dX7_kindOf_17 : decode cX7_kindOf 17 = .ok (.if_icmp .lt 11, 3) := by decide +kernel
theorem dX7_kindOf_20 : decode cX7_kindOf 20 = .ok (.iload_n 0, 1) := by decide +kernel
theorem dX7_kindOf_21 : decode cX7_kindOf 21 = .ok (.bipush 90, 2) := by decide +kernel
theorem dX7_kindOf_23 : decode cX7_kindOf 23 = .ok (.if_icmp .gt 5, 3) := by decide +kernel
theorem dX7_kindOf_26 : decode cX7_kindOf 26 = .ok (.iconst 1, 1) := by decide +kernel
theorem dX7_kindOf_27 : decode cX7_kindOf 27 = .ok (.ireturn, 1) := by decide +kernel
theorem dX7_kindOf_28 : decode cX7_kindOf 28 = .ok (.iload_n 0, 1) := by decide +kernel
theorem dX7_kindOf_29 : decode cX7_kindOf 29 = .ok (.bipush 48, 2) := by decide +kernel
theorem dX7_kindOf_31 : decode cX7_kindOf 31 = .ok (.if_icmp .lt 11, 3) := by decide +kernel
theorem dX7_kindOf_34 : decode cX7_kindOf 34 = .ok (.iload_n 0, 1) := by decide +kernel
theorem dX7_kindOf_35 : decode cX7_kindOf 35 = .ok (.bipush 57, 2) := by decide +kernel
theorem dX7_kindOf_37 : decode cX7_kindOf 37 = .ok (.if_icmp .gt 5, 3) := by decide +kernel
theorem dX7_kindOf_40 : decode cX7_kindOf 40 = .ok (.iconst 2, 1) := by decide +kernel
theorem dX7_kindOf_41 : decode cX7_kindOf 41 = .ok (.ireturn, 1) := by decide +kernel
theorem dX7_kindOf_42 : decode cX7_kindOf 42 = .ok (.iload_n 0, 1) := by decide +kernel
theorem dX7_kindOf_43 : decode cX7_kindOf 43 = .ok (.lookupswitch 143 #[(32, 141), (33, 141), (39, 139), (40, 141), (41, 141), (43, 137), (44, 137), (45, 137), (46, 137), (60, 141), (62, 141), (91, 141), (93, 141), (94, 141), (123, 141), (126, 139)], 137) := by decide +kernel
theorem dX7_kindOf_180 : decode cX7_kindOf 180 = .ok (.iconst 3, 1) := by decide +kernel
theorem dX7_kindOf_181 : decode cX7_kindOf 181 = .ok (.ireturn, 1) := by decide +kernel
theorem dX7_kindOf_182 : decode cX7_kindOf 182 = .ok (.iconst 5, 1) := by decide +kernel
theorem dX7_kindOf_183 : decode cX7_kindOf 183 = .ok (.ireturn, 1) := by decide +kernel
theorem dX7_kindOf_184 : decode cX7_kindOf 184 = .ok (.iconst 4, 1) := by decide +kernel
theorem dX7_kindOf_185 : decode cX7_kindOf 185 = .ok (.ireturn, 1) := by decide +kernel
theorem dX7_kindOf_186 : decode cX7_kindOf 186 = .ok (.iconst (-1), 1) := by decide +kernel
theorem dX7_kindOf_187 : decode cX7_kindOf 187 = .ok (.ireturn, 1) := by decide +kernel
theorem dX7_isSign_0 : decode cX7_isSign 0 = .ok (.iload_n 0, 1) := by decide +kernel
theorem dX7_isSign_1 : decode cX7_isSign 1 = .ok (.invokestatic 9, 3) := by decide +kernel
theorem dX7_isSign_4 : decode cX7_isSign 4 = .ok (.iconst (-1), 1) := by decide +kernel
theorem dX7_isSign_5 : decode cX7_isSign 5 = .ok (.if_icmp .eq 7, 3) := by decide +kernel
theorem dX7_isSign_8 : decode cX7_isSign 8 = .ok (.iconst 1, 1) := by decide +kernel
theorem dX7_isSign_9 : decode cX7_isSign 9 = .ok (.goto 4, 3) := by decide +kernel
theorem dX7_isSign_12 : decode cX7_isSign 12 = .ok (.iconst 0, 1) := by decide +kernel
theorem dX7_isSign_13 : decode cX7_isSign 13 = .ok (.ireturn, 1) := by decide +kernel
theorem dX7_isMark_0 : decode cX7_isMark 0 = .ok (.iload_n 0, 1) := by decide +kernel
theorem dX7_isMark_1 : decode cX7_isMark 1 = .ok (.invokestatic 9, 3) := by decide +kernel
theorem dX7_isMark_4 : decode cX7_isMark 4 = .ok (.iconst 5, 1) := by decide +kernel
theorem dX7_isMark_5 : decode cX7_isMark 5 = .ok (.if_icmp .ne 7, 3) := by decide +kernel
theorem dX7_isMark_8 : decode cX7_isMark 8 = .ok (.iconst 1, 1) := by decide +kernel
theorem dX7_isMark_9 : decode cX7_isMark 9 = .ok (.goto 4, 3) := by decide +kernel
theorem dX7_isMark_12 : decode cX7_isMark 12 = .ok (.iconst 0, 1) := by decide +kernel
theorem dX7_isMark_13 : decode cX7_isMark 13 = .ok (.ireturn, 1) := by decide +kernel
theorem dX7_isLetter_0 : decode cX7_isLetter 0 = .ok (.iload_n 0, 1) := by decide +kernel
theorem dX7_isLetter_1 : decode cX7_isLetter 1 = .ok (.invokestatic 9, 3) := by decide +kernel
theorem dX7_isLetter_4 : decode cX7_isLetter 4 = .ok (.invokestatic 15, 3) := by decide +kernel
theorem dX7_isLetter_7 : decode cX7_isLetter 7 = .ok (.ireturn, 1) := by decide +kernel
theorem dX7_isOfWord_0 : decode cX7_isOfWord 0 = .ok (.iload_n 0, 1) := by decide +kernel
theorem dX7_isOfWord_1 : decode cX7_isOfWord 1 = .ok (.invokestatic 19, 3) := by decide +kernel
theorem dX7_isOfWord_4 : decode cX7_isOfWord 4 = .ok (.ifCond .ne 11, 3) := by decide +kernel
theorem dX7_isOfWord_7 : decode cX7_isOfWord 7 = .ok (.iload_n 0, 1) := by decide +kernel
theorem dX7_isOfWord_8 : decode cX7_isOfWord 8 = .ok (.invokestatic 9, 3) := by decide +kernel
theorem dX7_isOfWord_11 : decode cX7_isOfWord 11 = .ok (.iconst 2, 1) := by decide +kernel
theorem dX7_isOfWord_12 : decode cX7_isOfWord 12 = .ok (.if_icmp .ne 7, 3) := by decide +kernel
theorem dX7_isOfWord_15 : decode cX7_isOfWord 15 = .ok (.iconst 1, 1) := by decide +kernel
theorem dX7_isOfWord_16 : decode cX7_isOfWord 16 = .ok (.goto 4, 3) := by decide +kernel
theorem dX7_isOfWord_19 : decode cX7_isOfWord 19 = .ok (.iconst 0, 1) := by decide +kernel
theorem dX7_isOfWord_20 : decode cX7_isOfWord 20 = .ok (.ireturn, 1) := by decide +kernel
theorem dX7_isStrong_0 : decode cX7_isStrong 0 = .ok (.iload_n 0, 1) := by decide +kernel
theorem dX7_isStrong_1 : decode cX7_isStrong 1 = .ok (.ifCond .eq 8, 3) := by decide +kernel
theorem dX7_isStrong_4 : decode cX7_isStrong 4 = .ok (.iload_n 0, 1) := by decide +kernel
theorem dX7_isStrong_5 : decode cX7_isStrong 5 = .ok (.iconst 1, 1) := by decide +kernel
theorem dX7_isStrong_6 : decode cX7_isStrong 6 = .ok (.if_icmp .ne 7, 3) := by decide +kernel
theorem dX7_isStrong_9 : decode cX7_isStrong 9 = .ok (.iconst 1, 1) := by decide +kernel
theorem dX7_isStrong_10 : decode cX7_isStrong 10 = .ok (.goto 4, 3) := by decide +kernel
theorem dX7_isStrong_13 : decode cX7_isStrong 13 = .ok (.iconst 0, 1) := by decide +kernel
theorem dX7_isStrong_14 : decode cX7_isStrong 14 = .ok (.ireturn, 1) := by decide +kernel
theorem dX7_beginsIsle_0 : decode cX7_beginsIsle 0 = .ok (.iload_n 0, 1) := by decide +kernel
theorem dX7_beginsIsle_1 : decode cX7_beginsIsle 1 = .ok (.bipush 91, 2) := by decide +kernel
theorem dX7_beginsIsle_3 : decode cX7_beginsIsle 3 = .ok (.if_icmp .eq 9, 3) := by decide +kernel
theorem dX7_beginsIsle_6 : decode cX7_beginsIsle 6 = .ok (.iload_n 0, 1) := by decide +kernel
theorem dX7_beginsIsle_7 : decode cX7_beginsIsle 7 = .ok (.bipush 123, 2) := by decide +kernel
theorem dX7_beginsIsle_9 : decode cX7_beginsIsle 9 = .ok (.if_icmp .ne 7, 3) := by decide +kernel
theorem dX7_beginsIsle_12 : decode cX7_beginsIsle 12 = .ok (.iconst 1, 1) := by decide +kernel
theorem dX7_beginsIsle_13 : decode cX7_beginsIsle 13 = .ok (.goto 4, 3) := by decide +kernel
theorem dX7_beginsIsle_16 : decode cX7_beginsIsle 16 = .ok (.iconst 0, 1) := by decide +kernel
theorem dX7_beginsIsle_17 : decode cX7_beginsIsle 17 = .ok (.ireturn, 1) := by decide +kernel
theorem dX7_fallsToBaseAtEnd_0 : decode cX7_fallsToBaseAtEnd 0 = .ok (.iload_n 0, 1) := by decide +kernel
theorem dX7_fallsToBaseAtEnd_1 : decode cX7_fallsToBaseAtEnd 1 = .ok (.bipush 32, 2) := by decide +kernel
theorem dX7_fallsToBaseAtEnd_3 : decode cX7_fallsToBaseAtEnd 3 = .ok (.if_icmp .eq 16, 3) := by decide +kernel
theorem dX7_fallsToBaseAtEnd_6 : decode cX7_fallsToBaseAtEnd 6 = .ok (.iload_n 0, 1) := by decide +kernel
theorem dX7_fallsToBaseAtEnd_7 : decode cX7_fallsToBaseAtEnd 7 = .ok (.bipush 93, 2) := by decide +kernel
theorem dX7_fallsToBaseAtEnd_9 : decode cX7_fallsToBaseAtEnd 9 = .ok (.if_icmp .eq 10, 3) := by decide +kernel
theorem dX7_fallsToBaseAtEnd_12 : decode cX7_fallsToBaseAtEnd 12 = .ok (.iload_n 0, 1) := by decide +kernel
theorem dX7_fallsToBaseAtEnd_13 : decode cX7_fallsToBaseAtEnd 13 = .ok (.invokestatic 22, 3) := by decide +kernel
theorem dX7_fallsToBaseAtEnd_16 : decode cX7_fallsToBaseAtEnd 16 = .ok (.ifCond .eq 7, 3) := by decide +kernel
theorem dX7_fallsToBaseAtEnd_19 : decode cX7_fallsToBaseAtEnd 19 = .ok (.iconst 1, 1) := by decide +kernel
theorem dX7_fallsToBaseAtEnd_20 : decode cX7_fallsToBaseAtEnd 20 = .ok (.goto 4, 3) := by decide +kernel
theorem dX7_fallsToBaseAtEnd_23 : decode cX7_fallsToBaseAtEnd 23 = .ok (.iconst 0, 1) := by decide +kernel
theorem dX7_fallsToBaseAtEnd_24 : decode cX7_fallsToBaseAtEnd 24 = .ok (.ireturn, 1) := by decide +kernel
theorem dX7_widthOf_0 : decode cX7_widthOf 0 = .ok (.iload_n 0, 1) := by decide +kernel
theorem dX7_widthOf_1 : decode cX7_widthOf 1 = .ok (.invokestatic 9, 3) := by decide +kernel
theorem dX7_widthOf_4 : decode cX7_widthOf 4 = .ok (.tableswitch 34 0 2 #[28, 28, 31], 28) := by decide +kernel
theorem dX7_widthOf_32 : decode cX7_widthOf 32 = .ok (.bipush 10, 2) := by decide +kernel
theorem dX7_widthOf_34 : decode cX7_widthOf 34 = .ok (.ireturn, 1) := by decide +kernel
theorem dX7_widthOf_35 : decode cX7_widthOf 35 = .ok (.bipush 8, 2) := by decide +kernel
theorem dX7_widthOf_37 : decode cX7_widthOf 37 = .ok (.ireturn, 1) := by decide +kernel
theorem dX7_widthOf_38 : decode cX7_widthOf 38 = .ok (.iload_n 0, 1) := by decide +kernel
theorem dX7_widthOf_39 : decode cX7_widthOf 39 = .ok (.bipush 32, 2) := by decide +kernel
theorem dX7_widthOf_41 : decode cX7_widthOf 41 = .ok (.if_icmp .ne 7, 3) := by decide +kernel
theorem dX7_widthOf_44 : decode cX7_widthOf 44 = .ok (.iconst 5, 1) := by decide +kernel
theorem dX7_widthOf_45 : decode cX7_widthOf 45 = .ok (.goto 5, 3) := by decide +kernel
theorem dX7_widthOf_48 : decode cX7_widthOf 48 = .ok (.bipush 6, 2) := by decide +kernel
theorem dX7_widthOf_50 : decode cX7_widthOf 50 = .ok (.ireturn, 1) := by decide +kernel
theorem dX7_mateOf_0 : decode cX7_mateOf 0 = .ok (.iload_n 0, 1) := by decide +kernel
theorem dX7_mateOf_1 : decode cX7_mateOf 1 = .ok (.lookupswitch 55 #[(40, 43), (41, 46), (60, 49), (62, 52)], 43) := by decide +kernel
theorem dX7_mateOf_44 : decode cX7_mateOf 44 = .ok (.bipush 41, 2) := by decide +kernel
theorem dX7_mateOf_46 : decode cX7_mateOf 46 = .ok (.ireturn, 1) := by decide +kernel
theorem dX7_mateOf_47 : decode cX7_mateOf 47 = .ok (.bipush 40, 2) := by decide +kernel
theorem dX7_mateOf_49 : decode cX7_mateOf 49 = .ok (.ireturn, 1) := by decide +kernel
theorem dX7_mateOf_50 : decode cX7_mateOf 50 = .ok (.bipush 62, 2) := by decide +kernel
theorem dX7_mateOf_52 : decode cX7_mateOf 52 = .ok (.ireturn, 1) := by decide +kernel
theorem dX7_mateOf_53 : decode cX7_mateOf 53 = .ok (.bipush 60, 2) := by decide +kernel
theorem dX7_mateOf_55 : decode cX7_mateOf 55 = .ok (.ireturn, 1) := by decide +kernel
theorem dX7_mateOf_56 : decode cX7_mateOf 56 = .ok (.iload_n 0, 1) := by decide +kernel
theorem dX7_mateOf_57 : decode cX7_mateOf 57 = .ok (.ireturn, 1) := by decide +kernel
