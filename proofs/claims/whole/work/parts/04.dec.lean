theorem dX0_init_0 : decode cX0_init 0 = .ok (.aload_n 0, 1) := by decide +kernel
theorem dX0_init_1 : decode cX0_init 1 = .ok (.invokespecial 3, 3) := by decide +kernel
theorem dX0_init_4 : decode cX0_init 4 = .ok (.aload_n 0, 1) := by decide +kernel
theorem dX0_init_5 : decode cX0_init 5 = .ok (.iload_n 1, 1) := by decide +kernel
theorem dX0_init_6 : decode cX0_init 6 = .ok (.putfield 9, 3) := by decide +kernel
theorem dX0_init_9 : decode cX0_init 9 = .ok (.aload_n 0, 1) := by decide +kernel
theorem dX0_init_10 : decode cX0_init 10 = .ok (.aload_n 2, 1) := by decide +kernel
theorem dX0_init_11 : decode cX0_init 11 = .ok (.putfield 15, 3) := by decide +kernel
theorem dX0_init_14 : decode cX0_init 14 = .ok (.aload_n 0, 1) := by decide +kernel
theorem dX0_init_15 : decode cX0_init 15 = .ok (.iload_n 3, 1) := by decide +kernel
theorem dX0_init_16 : decode cX0_init 16 = .ok (.putfield 19, 3) := by decide +kernel
theorem dX0_init_19 : decode cX0_init 19 = .ok (.aload_n 0, 1) := by decide +kernel
theorem dX0_init_20 : decode cX0_init 20 = .ok (.iload 4, 2) := by decide +kernel
theorem dX0_init_22 : decode cX0_init 22 = .ok (.putfield 22, 3) := by decide +kernel
theorem dX0_init_25 : decode cX0_init 25 = .ok (.return_, 1) := by decide +kernel
theorem dX0_fitsItsLetters_0 : decode cX0_fitsItsLetters 0 = .ok (.iconst 4, 1) := by decide +kernel
theorem dX0_fitsItsLetters_1 : decode cX0_fitsItsLetters 1 = .ok (.aload_n 0, 1) := by decide +kernel
theorem dX0_fitsItsLetters_2 : decode cX0_fitsItsLetters 2 = .ok (.getfield 22, 3) := by decide +kernel
theorem dX0_fitsItsLetters_5 : decode cX0_fitsItsLetters 5 = .ok (.imul, 1) := by decide +kernel
theorem dX0_fitsItsLetters_6 : decode cX0_fitsItsLetters 6 = .ok (.aload_n 0, 1) := by decide +kernel
theorem dX0_fitsItsLetters_7 : decode cX0_fitsItsLetters 7 = .ok (.getfield 15, 3) := by decide +kernel
theorem dX0_fitsItsLetters_10 : decode cX0_fitsItsLetters 10 = .ok (.getfield 25, 3) := by decide +kernel
theorem dX0_fitsItsLetters_13 : decode cX0_fitsItsLetters 13 = .ok (.aload_n 0, 1) := by decide +kernel
theorem dX0_fitsItsLetters_14 : decode cX0_fitsItsLetters 14 = .ok (.getfield 15, 3) := by decide +kernel
theorem dX0_fitsItsLetters_17 : decode cX0_fitsItsLetters 17 = .ok (.getfield 30, 3) := by decide +kernel
theorem dX0_fitsItsLetters_20 : decode cX0_fitsItsLetters 20 = .ok (.imul, 1) := by decide +kernel
theorem dX0_fitsItsLetters_21 : decode cX0_fitsItsLetters 21 = .ok (.iconst 2, 1) := by decide +kernel
theorem dX0_fitsItsLetters_22 : decode cX0_fitsItsLetters 22 = .ok (.idiv, 1) := by decide +kernel
theorem dX0_fitsItsLetters_23 : decode cX0_fitsItsLetters 23 = .ok (.if_icmp .gt 7, 3) := by decide +kernel
theorem dX0_fitsItsLetters_26 : decode cX0_fitsItsLetters 26 = .ok (.iconst 1, 1) := by decide +kernel
theorem dX0_fitsItsLetters_27 : decode cX0_fitsItsLetters 27 = .ok (.goto 4, 3) := by decide +kernel
theorem dX0_fitsItsLetters_30 : decode cX0_fitsItsLetters 30 = .ok (.iconst 0, 1) := by decide +kernel
theorem dX0_fitsItsLetters_31 : decode cX0_fitsItsLetters 31 = .ok (.ireturn, 1) := by decide +kernel
theorem dX0_standsAheadOf_0 : decode cX0_standsAheadOf 0 = .ok (.aload_n 0, 1) := by decide +kernel
theorem dX0_standsAheadOf_1 : decode cX0_standsAheadOf 1 = .ok (.getfield 15, 3) := by decide +kernel
theorem dX0_standsAheadOf_4 : decode cX0_standsAheadOf 4 = .ok (.getfield 33, 3) := by decide +kernel
theorem dX0_standsAheadOf_7 : decode cX0_standsAheadOf 7 = .ok (.aload_n 1, 1) := by decide +kernel
theorem dX0_standsAheadOf_8 : decode cX0_standsAheadOf 8 = .ok (.getfield 15, 3) := by decide +kernel
theorem dX0_standsAheadOf_11 : decode cX0_standsAheadOf 11 = .ok (.getfield 33, 3) := by decide +kernel
theorem dX0_standsAheadOf_14 : decode cX0_standsAheadOf 14 = .ok (.if_icmp .eq 26, 3) := by decide +kernel
theorem dX0_standsAheadOf_17 : decode cX0_standsAheadOf 17 = .ok (.aload_n 0, 1) := by decide +kernel
theorem dX0_standsAheadOf_18 : decode cX0_standsAheadOf 18 = .ok (.getfield 15, 3) := by decide +kernel
theorem dX0_standsAheadOf_21 : decode cX0_standsAheadOf 21 = .ok (.getfield 33, 3) := by decide +kernel
theorem dX0_standsAheadOf_24 : decode cX0_standsAheadOf 24 = .ok (.aload_n 1, 1) := by decide +kernel
theorem dX0_standsAheadOf_25 : decode cX0_standsAheadOf 25 = .ok (.getfield 15, 3) := by decide +kernel
theorem dX0_standsAheadOf_28 : decode cX0_standsAheadOf 28 = .ok (.getfield 33, 3) := by decide +kernel
theorem dX0_standsAheadOf_31 : decode cX0_standsAheadOf 31 = .ok (.if_icmp .ge 7, 3) := by decide +kernel
theorem dX0_standsAheadOf_34 : decode cX0_standsAheadOf 34 = .ok (.iconst 1, 1) := by decide +kernel
theorem dX0_standsAheadOf_35 : decode cX0_standsAheadOf 35 = .ok (.goto 4, 3) := by decide +kernel
theorem dX0_standsAheadOf_38 : decode cX0_standsAheadOf 38 = .ok (.iconst 0, 1) := by decide +kernel
theorem dX0_standsAheadOf_39 : decode cX0_standsAheadOf 39 = .ok (.ireturn, 1) := by decide +kernel
theorem dX0_standsAheadOf_40 : decode cX0_standsAheadOf 40 = .ok (.iload_n 2, 1) := by decide +kernel
theorem dX0_standsAheadOf_41 : decode cX0_standsAheadOf 41 = .ok (.ifCond .eq 28, 3) := by decide +kernel
theorem dX0_standsAheadOf_44 : decode cX0_standsAheadOf 44 = .ok (.aload_n 0, 1) := by decide +kernel
theorem dX0_standsAheadOf_45 : decode cX0_standsAheadOf 45 = .ok (.getfield 15, 3) := by decide +kernel
theorem dX0_standsAheadOf_48 : decode cX0_standsAheadOf 48 = .ok (.invokevirtual 36, 3) := by decide +kernel
theorem dX0_standsAheadOf_51 : decode cX0_standsAheadOf 51 = .ok (.aload_n 1, 1) := by decide +kernel
theorem dX0_standsAheadOf_52 : decode cX0_standsAheadOf 52 = .ok (.getfield 15, 3) := by decide +kernel
theorem dX0_standsAheadOf_55 : decode cX0_standsAheadOf 55 = .ok (.invokevirtual 36, 3) := by decide +kernel
theorem dX0_standsAheadOf_58 : decode cX0_standsAheadOf 58 = .ok (.if_icmp .le 7, 3) := by decide +kernel
theorem dX0_standsAheadOf_61 : decode cX0_standsAheadOf 61 = .ok (.iconst 1, 1) := by decide +kernel
theorem dX0_standsAheadOf_62 : decode cX0_standsAheadOf 62 = .ok (.goto 29, 3) := by decide +kernel
theorem dX0_standsAheadOf_65 : decode cX0_standsAheadOf 65 = .ok (.iconst 0, 1) := by decide +kernel
theorem dX0_standsAheadOf_66 : decode cX0_standsAheadOf 66 = .ok (.goto 25, 3) := by decide +kernel
theorem dX0_standsAheadOf_69 : decode cX0_standsAheadOf 69 = .ok (.aload_n 0, 1) := by decide +kernel
theorem dX0_standsAheadOf_70 : decode cX0_standsAheadOf 70 = .ok (.getfield 15, 3) := by decide +kernel
theorem dX0_standsAheadOf_73 : decode cX0_standsAheadOf 73 = .ok (.getfield 40, 3) := by decide +kernel
theorem dX0_standsAheadOf_76 : decode cX0_standsAheadOf 76 = .ok (.aload_n 1, 1) := by decide +kernel
theorem dX0_standsAheadOf_77 : decode cX0_standsAheadOf 77 = .ok (.getfield 15, 3) := by decide +kernel
theorem dX0_standsAheadOf_80 : decode cX0_standsAheadOf 80 = .ok (.getfield 40, 3) := by decide +kernel
theorem dX0_standsAheadOf_83 : decode cX0_standsAheadOf 83 = .ok (.if_icmp .ge 7, 3) := by decide +kernel
theorem dX0_standsAheadOf_86 : decode cX0_standsAheadOf 86 = .ok (.iconst 1, 1) := by decide +kernel
theorem dX0_standsAheadOf_87 : decode cX0_standsAheadOf 87 = .ok (.goto 4, 3) := by decide +kernel
theorem dX0_standsAheadOf_90 : decode cX0_standsAheadOf 90 = .ok (.iconst 0, 1) := by decide +kernel
theorem dX0_standsAheadOf_91 : decode cX0_standsAheadOf 91 = .ok (.ireturn, 1) := by decide +kernel
theorem dX0_mirrored_0 : decode cX0_mirrored 0 = .ok (.new 10, 3) := by decide +kernel
theorem dX0_mirrored_3 : decode cX0_mirrored 3 = .ok (.dup, 1) := by decide +kernel
theorem dX0_mirrored_4 : decode cX0_mirrored 4 = .ok (.aload_n 0, 1) := by decide +kernel
theorem dX0_mirrored_5 : decode cX0_mirrored 5 = .ok (.getfield 9, 3) := by decide +kernel
theorem dX0_mirrored_8 : decode cX0_mirrored 8 = .ok (.aload_n 0, 1) := by decide +kernel
theorem dX0_mirrored_9 : decode cX0_mirrored 9 = .ok (.getfield 15, 3) := by decide +kernel
theorem dX0_mirrored_12 : decode cX0_mirrored 12 = .ok (.invokevirtual 43, 3) := by decide +kernel
theorem dX0_mirrored_15 : decode cX0_mirrored 15 = .ok (.aload_n 0, 1) := by decide +kernel
theorem dX0_mirrored_16 : decode cX0_mirrored 16 = .ok (.getfield 19, 3) := by decide +kernel
theorem dX0_mirrored_19 : decode cX0_mirrored 19 = .ok (.aload_n 0, 1) := by decide +kernel
theorem dX0_mirrored_20 : decode cX0_mirrored 20 = .ok (.getfield 22, 3) := by decide +kernel
theorem dX0_mirrored_23 : decode cX0_mirrored 23 = .ok (.invokespecial 47, 3) := by decide +kernel
theorem dX0_mirrored_26 : decode cX0_mirrored 26 = .ok (.areturn, 1) := by decide +kernel
theorem dX1_init_0 : decode cX1_init 0 = .ok (.aload_n 0, 1) := by decide +kernel
theorem dX1_init_1 : decode cX1_init 1 = .ok (.invokespecial 3, 3) := by decide +kernel
theorem dX1_init_4 : decode cX1_init 4 = .ok (.aload_n 0, 1) := by decide +kernel
theorem dX1_init_5 : decode cX1_init 5 = .ok (.iload_n 1, 1) := by decide +kernel
theorem dX1_init_6 : decode cX1_init 6 = .ok (.putfield 9, 3) := by decide +kernel
theorem dX1_init_9 : decode cX1_init 9 = .ok (.aload_n 0, 1) := by decide +kernel
theorem dX1_init_10 : decode cX1_init 10 = .ok (.iload_n 2, 1) := by decide +kernel
theorem dX1_init_11 : decode cX1_init 11 = .ok (.putfield 15, 3) := by decide +kernel
theorem dX1_init_14 : decode cX1_init 14 = .ok (.aload_n 0, 1) := by decide +kernel
theorem dX1_init_15 : decode cX1_init 15 = .ok (.iload_n 3, 1) := by decide +kernel
theorem dX1_init_16 : decode cX1_init 16 = .ok (.putfield 18, 3) := by decide +kernel
theorem dX1_init_19 : decode cX1_init 19 = .ok (.aload_n 0, 1) := by decide +kernel
theorem dX1_init_20 : decode cX1_init 20 = .ok (.iload 4, 2) := by decide +kernel
theorem dX1_init_22 : decode cX1_init 22 = .ok (.putfield 21, 3) := by decide +kernel
theorem dX1_init_25 : decode cX1_init 25 = .ok (.return_, 1) := by decide +kernel
theorem dX1_endX_0 : decode cX1_endX 0 = .ok (.aload_n 0, 1) := by decide +kernel
theorem dX1_endX_1 : decode cX1_endX 1 = .ok (.getfield 9, 3) := by decide +kernel
theorem dX1_endX_4 : decode cX1_endX 4 = .ok (.aload_n 0, 1) := by decide +kernel
theorem dX1_endX_5 : decode cX1_endX 5 = .ok (.getfield 18, 3) := by decide +kernel
theorem dX1_endX_8 : decode cX1_endX 8 = .ok (.iadd, 1) := by decide +kernel
theorem dX1_endX_9 : decode cX1_endX 9 = .ok (.ireturn, 1) := by decide +kernel
theorem dX1_endY_0 : decode cX1_endY 0 = .ok (.aload_n 0, 1) := by decide +kernel
theorem dX1_endY_1 : decode cX1_endY 1 = .ok (.getfield 15, 3) := by decide +kernel
theorem dX1_endY_4 : decode cX1_endY 4 = .ok (.aload_n 0, 1) := by decide +kernel
theorem dX1_endY_5 : decode cX1_endY 5 = .ok (.getfield 21, 3) := by decide +kernel
theorem dX1_endY_8 : decode cX1_endY 8 = .ok (.iadd, 1) := by decide +kernel
theorem dX1_endY_9 : decode cX1_endY 9 = .ok (.ireturn, 1) := by decide +kernel
theorem dX1_middleX_0 : decode cX1_middleX 0 = .ok (.aload_n 0, 1) := by decide +kernel
theorem dX1_middleX_1 : decode cX1_middleX 1 = .ok (.getfield 9, 3) := by decide +kernel
theorem dX1_middleX_4 : decode cX1_middleX 4 = .ok (.aload_n 0, 1) := by decide +kernel
theorem dX1_middleX_5 : decode cX1_middleX 5 = .ok (.getfield 18, 3) := by decide +kernel
theorem dX1_middleX_8 : decode cX1_middleX 8 = .ok (.iconst 2, 1) := by decide +kernel
theorem dX1_middleX_9 : decode cX1_middleX 9 = .ok (.idiv, 1) := by decide +kernel
theorem dX1_middleX_10 : decode cX1_middleX 10 = .ok (.iadd, 1) := by decide +kernel
theorem dX1_middleX_11 : decode cX1_middleX 11 = .ok (.ireturn, 1) := by decide +kernel
theorem dX1_middleY_0 : decode cX1_middleY 0 = .ok (.aload_n 0, 1) := by decide +kernel
theorem dX1_middleY_1 : decode cX1_middleY 1 = .ok (.getfield 15, 3) := by decide +kernel
theorem dX1_middleY_4 : decode cX1_middleY 4 = .ok (.aload_n 0, 1) := by decide +kernel
theorem dX1_middleY_5 : decode cX1_middleY 5 = .ok (.getfield 21, 3) := by decide +kernel
theorem dX1_middleY_8 : decode cX1_middleY 8 = .ok (.iconst 2, 1) := by decide +kernel
theorem dX1_middleY_9 : decode cX1_middleY 9 = .ok (.idiv, 1) := by decide +kernel
theorem dX1_middleY_10 : decode cX1_middleY 10 = .ok (.iadd, 1) := by decide +kernel
theorem dX1_middleY_11 : decode cX1_middleY 11 = .ok (.ireturn, 1) := by decide +kernel
theorem dX1_beginFor_0 : decode cX1_beginFor 0 = .ok (.iload_n 1, 1) := by decide +kernel
theorem dX1_beginFor_1 : decode cX1_beginFor 1 = .ok (.ifCond .eq 10, 3) := by decide +kernel
theorem dX1_beginFor_4 : decode cX1_beginFor 4 = .ok (.aload_n 0, 1) := by decide +kernel
theorem dX1_beginFor_5 : decode cX1_beginFor 5 = .ok (.getfield 15, 3) := by decide +kernel
theorem dX1_beginFor_8 : decode cX1_beginFor 8 = .ok (.goto 7, 3) := by decide +kernel
theorem dX1_beginFor_11 : decode cX1_beginFor 11 = .ok (.aload_n 0, 1) := by decide +kernel
theorem dX1_beginFor_12 : decode cX1_beginFor 12 = .ok (.getfield 9, 3) := by decide +kernel
theorem dX1_beginFor_15 : decode cX1_beginFor 15 = .ok (.ireturn, 1) := by decide +kernel
theorem dX1_endFor_0 : decode cX1_endFor 0 = .ok (.iload_n 1, 1) := by decide +kernel
theorem dX1_endFor_1 : decode cX1_endFor 1 = .ok (.ifCond .eq 15, 3) := by decide +kernel
theorem dX1_endFor_4 : decode cX1_endFor 4 = .ok (.aload_n 0, 1) := by decide +kernel
theorem dX1_endFor_5 : decode cX1_endFor 5 = .ok (.getfield 15, 3) := by decide +kernel
theorem dX1_endFor_8 : decode cX1_endFor 8 = .ok (.aload_n 0, 1) := by decide +kernel
theorem dX1_endFor_9 : decode cX1_endFor 9 = .ok (.getfield 21, 3) := by decide +kernel
theorem dX1_endFor_12 : decode cX1_endFor 12 = .ok (.iadd, 1) := by decide +kernel
theorem dX1_endFor_13 : decode cX1_endFor 13 = .ok (.goto 12, 3) := by decide +kernel
theorem dX1_endFor_16 : decode cX1_endFor 16 = .ok (.aload_n 0, 1) := by decide +kernel
theorem dX1_endFor_17 : decode cX1_endFor 17 = .ok (.getfield 9, 3) := by decide +kernel
theorem dX1_endFor_20 : decode cX1_endFor 20 = .ok (.aload_n 0, 1) := by decide +kernel
theorem dX1_endFor_21 : decode cX1_endFor 21 = .ok (.getfield 18, 3) := by decide +kernel
theorem dX1_endFor_24 : decode cX1_endFor 24 = .ok (.iadd, 1) := by decide +kernel
theorem dX1_endFor_25 : decode cX1_endFor 25 = .ok (.ireturn, 1) := by decide +kernel
theorem dX1_isOnPage_0 : decode cX1_isOnPage 0 = .ok (.aload_n 0, 1) := by decide +kernel
theorem dX1_isOnPage_1 : decode cX1_isOnPage 1 = .ok (.getfield 9, 3) := by decide +kernel
theorem dX1_isOnPage_4 : decode cX1_isOnPage 4 = .ok (.ifCond .lt 32, 3) := by decide +kernel
theorem dX1_isOnPage_7 : decode cX1_isOnPage 7 = .ok (.aload_n 0, 1) := by decide +kernel
theorem dX1_isOnPage_8 : decode cX1_isOnPage 8 = .ok (.getfield 15, 3) := by decide +kernel
theorem dX1_isOnPage_11 : decode cX1_isOnPage 11 = .ok (.ifCond .lt 25, 3) := by decide +kernel
theorem dX1_isOnPage_14 : decode cX1_isOnPage 14 = .ok (.aload_n 0, 1) := by decide +kernel
theorem dX1_isOnPage_15 : decode cX1_isOnPage 15 = .ok (.invokevirtual 24, 3) := by decide +kernel
theorem dX1_isOnPage_18 : decode cX1_isOnPage 18 = .ok (.bipush 60, 2) := by decide +kernel
theorem dX1_isOnPage_20 : decode cX1_isOnPage 20 = .ok (.if_icmp .gt 16, 3) := by decide +kernel
theorem dX1_isOnPage_23 : decode cX1_isOnPage 23 = .ok (.aload_n 0, 1) := by decide +kernel
theorem dX1_isOnPage_24 : decode cX1_isOnPage 24 = .ok (.invokevirtual 28, 3) := by decide +kernel
theorem dX1_isOnPage_27 : decode cX1_isOnPage 27 = .ok (.bipush 80, 2) := by decide +kernel
theorem dX1_isOnPage_29 : decode cX1_isOnPage 29 = .ok (.if_icmp .gt 7, 3) := by decide +kernel
theorem dX1_isOnPage_32 : decode cX1_isOnPage 32 = .ok (.iconst 1, 1) := by decide +kernel
theorem dX1_isOnPage_33 : decode cX1_isOnPage 33 = .ok (.goto 4, 3) := by decide +kernel
theorem dX1_isOnPage_36 : decode cX1_isOnPage 36 = .ok (.iconst 0, 1) := by decide +kernel
theorem dX1_isOnPage_37 : decode cX1_isOnPage 37 = .ok (.ireturn, 1) := by decide +kernel
theorem dX1_holds_0 : decode cX1_holds 0 = .ok (.aload_n 1, 1) := by decide +kernel
theorem dX1_holds_1 : decode cX1_holds 1 = .ok (.getfield 9, 3) := by decide +kernel
theorem dX1_holds_4 : decode cX1_holds 4 = .ok (.aload_n 0, 1) := by decide +kernel
theorem dX1_holds_5 : decode cX1_holds 5 = .ok (.getfield 9, 3) := by decide +kernel
theorem dX1_holds_8 : decode cX1_holds 8 = .ok (.if_icmp .lt 50, 3) := by decide +kernel
theorem dX1_holds_11 : decode cX1_holds 11 = .ok (.aload_n 1, 1) := by decide +kernel
theorem dX1_holds_12 : decode cX1_holds 12 = .ok (.getfield 9, 3) := by decide +kernel
theorem dX1_holds_15 : decode cX1_holds 15 = .ok (.aload_n 0, 1) := by decide +kernel
theorem dX1_holds_16 : decode cX1_holds 16 = .ok (.invokevirtual 24, 3) := by decide +kernel
theorem dX1_holds_19 : decode cX1_holds 19 = .ok (.aload_n 1, 1) := by decide +kernel
theorem dX1_holds_20 : decode cX1_holds 20 = .ok (.getfield 18, 3) := by decide +kernel
theorem dX1_holds_23 : decode cX1_holds 23 = .ok (.isub, 1) := by decide +kernel
theorem dX1_holds_24 : decode cX1_holds 24 = .ok (.if_icmp .gt 34, 3) := by decide +kernel
theorem dX1_holds_27 : decode cX1_holds 27 = .ok (.aload_n 1, 1) := by decide +kernel
theorem dX1_holds_28 : decode cX1_holds 28 = .ok (.getfield 15, 3) := by decide +kernel
theorem dX1_holds_31 : decode cX1_holds 31 = .ok (.aload_n 0, 1) := by decide +kernel
theorem dX1_holds_32 : decode cX1_holds 32 = .ok (.getfield 15, 3) := by decide +kernel
theorem dX1_holds_35 : decode cX1_holds 35 = .ok (.if_icmp .lt 23, 3) := by decide +kernel
theorem dX1_holds_38 : decode cX1_holds 38 = .ok (.aload_n 1, 1) := by decide +kernel
theorem dX1_holds_39 : decode cX1_holds 39 = .ok (.getfield 15, 3) := by decide +kernel
theorem dX1_holds_42 : decode cX1_holds 42 = .ok (.aload_n 0, 1) := by decide +kernel
theorem dX1_holds_43 : decode cX1_holds 43 = .ok (.invokevirtual 28, 3) := by decide +kernel
theorem dX1_holds_46 : decode cX1_holds 46 = .ok (.aload_n 1, 1) := by decide +kernel
theorem dX1_holds_47 : decode cX1_holds 47 = .ok (.getfield 21, 3) := by decide +kernel
theorem dX1_holds_50 : decode cX1_holds 50 = .ok (.isub, 1) := by decide +kernel
theorem dX1_holds_51 : decode cX1_holds 51 = .ok (.if_icmp .gt 7, 3) := by decide +kernel
theorem dX1_holds_54 : decode cX1_holds 54 = .ok (.iconst 1, 1) := by decide +kernel
theorem dX1_holds_55 : decode cX1_holds 55 = .ok (.goto 4, 3) := by decide +kernel
theorem dX1_holds_58 : decode cX1_holds 58 = .ok (.iconst 0, 1) := by decide +kernel
theorem dX1_holds_59 : decode cX1_holds 59 = .ok (.ireturn, 1) := by decide +kernel
theorem dX1_overlaps_0 : decode cX1_overlaps 0 = .ok (.aload_n 0, 1) := by decide +kernel
theorem dX1_overlaps_1 : decode cX1_overlaps 1 = .ok (.getfield 9, 3) := by decide +kernel
theorem dX1_overlaps_4 : decode cX1_overlaps 4 = .ok (.aload_n 1, 1) := by decide +kernel
theorem dX1_overlaps_5 : decode cX1_overlaps 5 = .ok (.invokevirtual 24, 3) := by decide +kernel
theorem dX1_overlaps_8 : decode cX1_overlaps 8 = .ok (.if_icmp .ge 26, 3) := by decide +kernel
theorem dX1_overlaps_11 : decode cX1_overlaps 11 = .ok (.aload_n 1, 1) := by decide +kernel
theorem dX1_overlaps_12 : decode cX1_overlaps 12 = .ok (.getfield 9, 3) := by decide +kernel
theorem dX1_overlaps_15 : decode cX1_overlaps 15 = .ok (.aload_n 0, 1) := by decide +kernel
theorem dX1_overlaps_16 : decode cX1_overlaps 16 = .ok (.invokevirtual 24, 3) := by decide +kernel
theorem dX1_overlaps_19 : decode cX1_overlaps 19 = .ok (.if_icmp .ge 15, 3) := by decide +kernel
theorem dX1_overlaps_22 : decode cX1_overlaps 22 = .ok (.aload_n 0, 1) := by decide +kernel
theorem dX1_overlaps_23 : decode cX1_overlaps 23 = .ok (.aload_n 1, 1) := by decide +kernel
theorem dX1_overlaps_24 : decode cX1_overlaps 24 = .ok (.invokevirtual 31, 3) := by decide +kernel
theorem dX1_overlaps_27 : decode cX1_overlaps 27 = .ok (.ifCond .eq 7, 3) := by decide +kernel
theorem dX1_overlaps_30 : decode cX1_overlaps 30 = .ok (.iconst 1, 1) := by decide +kernel
theorem dX1_overlaps_31 : decode cX1_overlaps 31 = .ok (.goto 4, 3) := by decide +kernel
theorem dX1_overlaps_34 : decode cX1_overlaps 34 = .ok (.iconst 0, 1) := by decide +kernel
theorem dX1_overlaps_35 : decode cX1_overlaps 35 = .ok (.ireturn, 1) := by decide +kernel
theorem dX1_sharesHeight_0 : decode cX1_sharesHeight 0 = .ok (.aload_n 0, 1) := by decide +kernel
theorem dX1_sharesHeight_1 : decode cX1_sharesHeight 1 = .ok (.getfield 15, 3) := by decide +kernel
theorem dX1_sharesHeight_4 : decode cX1_sharesHeight 4 = .ok (.aload_n 1, 1) := by decide +kernel
theorem dX1_sharesHeight_5 : decode cX1_sharesHeight 5 = .ok (.invokevirtual 28, 3) := by decide +kernel
theorem dX1_sharesHeight_8 : decode cX1_sharesHeight 8 = .ok (.if_icmp .ge 18, 3) := by decide +kernel
theorem dX1_sharesHeight_11 : decode cX1_sharesHeight 11 = .ok (.aload_n 1, 1) := by decide +kernel
theorem dX1_sharesHeight_12 : decode cX1_sharesHeight 12 = .ok (.getfield 15, 3) := by decide +kernel
theorem dX1_sharesHeight_15 : decode cX1_sharesHeight 15 = .ok (.aload_n 0, 1) := by decide +kernel
theorem dX1_sharesHeight_16 : decode cX1_sharesHeight 16 = .ok (.invokevirtual 28, 3) := by decide +kernel
theorem dX1_sharesHeight_19 : decode cX1_sharesHeight 19 = .ok (.if_icmp .ge 7, 3) := by decide +kernel
theorem dX1_sharesHeight_22 : decode cX1_sharesHeight 22 = .ok (.iconst 1, 1) := by decide +kernel
theorem dX1_sharesHeight_23 : decode cX1_sharesHeight 23 = .ok (.goto 4, 3) := by decide +kernel
theorem dX1_sharesHeight_26 : decode cX1_sharesHeight 26 = .ok (.iconst 0, 1) := by decide +kernel
theorem dX1_sharesHeight_27 : decode cX1_sharesHeight 27 = .ok (.ireturn, 1) := by decide +kernel
theorem dX1_hasToComeAheadOf_0 : decode cX1_hasToComeAheadOf 0 = .ok (.iload_n 2, 1) := by decide +kernel
theorem dX1_hasToComeAheadOf_1 : decode cX1_hasToComeAheadOf 1 = .ok (.ifCond .eq 22, 3) := by decide +kernel
theorem dX1_hasToComeAheadOf_4 : decode cX1_hasToComeAheadOf 4 = .ok (.aload_n 1, 1) := by decide +kernel
theorem dX1_hasToComeAheadOf_5 : decode cX1_hasToComeAheadOf 5 = .ok (.invokevirtual 24, 3) := by decide +kernel
theorem dX1_hasToComeAheadOf_8 : decode cX1_hasToComeAheadOf 8 = .ok (.aload_n 0, 1) := by decide +kernel
theorem dX1_hasToComeAheadOf_9 : decode cX1_hasToComeAheadOf 9 = .ok (.getfield 9, 3) := by decide +kernel
theorem dX1_hasToComeAheadOf_12 : decode cX1_hasToComeAheadOf 12 = .ok (.if_icmp .gt 7, 3) := by decide +kernel
theorem dX1_hasToComeAheadOf_15 : decode cX1_hasToComeAheadOf 15 = .ok (.iconst 1, 1) := by decide +kernel
theorem dX1_hasToComeAheadOf_16 : decode cX1_hasToComeAheadOf 16 = .ok (.goto 23, 3) := by decide +kernel
theorem dX1_hasToComeAheadOf_19 : decode cX1_hasToComeAheadOf 19 = .ok (.iconst 0, 1) := by decide +kernel
theorem dX1_hasToComeAheadOf_20 : decode cX1_hasToComeAheadOf 20 = .ok (.goto 19, 3) := by decide +kernel
theorem dX1_hasToComeAheadOf_23 : decode cX1_hasToComeAheadOf 23 = .ok (.aload_n 1, 1) := by decide +kernel
theorem dX1_hasToComeAheadOf_24 : decode cX1_hasToComeAheadOf 24 = .ok (.getfield 9, 3) := by decide +kernel
theorem dX1_hasToComeAheadOf_27 : decode cX1_hasToComeAheadOf 27 = .ok (.aload_n 0, 1) := by decide +kernel
theorem dX1_hasToComeAheadOf_28 : decode cX1_hasToComeAheadOf 28 = .ok (.invokevirtual 24, 3) := by decide +kernel
theorem dX1_hasToComeAheadOf_31 : decode cX1_hasToComeAheadOf 31 = .ok (.if_icmp .lt 7, 3) := by decide +kernel
theorem dX1_hasToComeAheadOf_34 : decode cX1_hasToComeAheadOf 34 = .ok (.iconst 1, 1) := by decide +kernel
theorem dX1_hasToComeAheadOf_35 : decode cX1_hasToComeAheadOf 35 = .ok (.goto 4, 3) := by decide +kernel
theorem dX1_hasToComeAheadOf_38 : decode cX1_hasToComeAheadOf 38 = .ok (.iconst 0, 1) := by decide +kernel
theorem dX1_hasToComeAheadOf_39 : decode cX1_hasToComeAheadOf 39 = .ok (.istore_n 3, 1) := by decide +kernel
theorem dX1_hasToComeAheadOf_40 : decode cX1_hasToComeAheadOf 40 = .ok (.aload_n 1, 1) := by decide +kernel
theorem dX1_hasToComeAheadOf_41 : decode cX1_hasToComeAheadOf 41 = .ok (.getfield 15, 3) := by decide +kernel
theorem dX1_hasToComeAheadOf_44 : decode cX1_hasToComeAheadOf 44 = .ok (.aload_n 0, 1) := by decide +kernel
theorem dX1_hasToComeAheadOf_45 : decode cX1_hasToComeAheadOf 45 = .ok (.invokevirtual 28, 3) := by decide +kernel
theorem dX1_hasToComeAheadOf_48 : decode cX1_hasToComeAheadOf 48 = .ok (.if_icmp .ge 15, 3) := by decide +kernel
theorem dX1_hasToComeAheadOf_51 : decode cX1_hasToComeAheadOf 51 = .ok (.aload_n 0, 1) := by decide +kernel
theorem dX1_hasToComeAheadOf_52 : decode cX1_hasToComeAheadOf 52 = .ok (.aload_n 1, 1) := by decide +kernel
theorem dX1_hasToComeAheadOf_53 : decode cX1_hasToComeAheadOf 53 = .ok (.invokevirtual 31, 3) := by decide +kernel
theorem dX1_hasToComeAheadOf_56 : decode cX1_hasToComeAheadOf 56 = .ok (.ifCond .eq 11, 3) := by decide +kernel
theorem dX1_hasToComeAheadOf_59 : decode cX1_hasToComeAheadOf 59 = .ok (.iload_n 3, 1) := by decide +kernel
theorem dX1_hasToComeAheadOf_60 : decode cX1_hasToComeAheadOf 60 = .ok (.ifCond .eq 7, 3) := by decide +kernel
theorem dX1_hasToComeAheadOf_63 : decode cX1_hasToComeAheadOf 63 = .ok (.iconst 1, 1) := by decide +kernel
theorem dX1_hasToComeAheadOf_64 : decode cX1_hasToComeAheadOf 64 = .ok (.goto 4, 3) := by decide +kernel
theorem dX1_hasToComeAheadOf_67 : decode cX1_hasToComeAheadOf 67 = .ok (.iconst 0, 1) := by decide +kernel
theorem dX1_hasToComeAheadOf_68 : decode cX1_hasToComeAheadOf 68 = .ok (.ireturn, 1) := by decide +kernel
theorem dX1_mirrored_0 : decode cX1_mirrored 0 = .ok (.new 10, 3) := by decide +kernel
theorem dX1_mirrored_3 : decode cX1_mirrored 3 = .ok (.dup, 1) := by decide +kernel
theorem dX1_mirrored_4 : decode cX1_mirrored 4 = .ok (.bipush 60, 2) := by decide +kernel
theorem dX1_mirrored_6 : decode cX1_mirrored 6 = .ok (.aload_n 0, 1) := by decide +kernel
theorem dX1_mirrored_7 : decode cX1_mirrored 7 = .ok (.invokevirtual 24, 3) := by decide +kernel
theorem dX1_mirrored_10 : decode cX1_mirrored 10 = .ok (.isub, 1) := by decide +kernel
theorem dX1_mirrored_11 : decode cX1_mirrored 11 = .ok (.aload_n 0, 1) := by decide +kernel
theorem dX1_mirrored_12 : decode cX1_mirrored 12 = .ok (.getfield 15, 3) := by decide +kernel
theorem dX1_mirrored_15 : decode cX1_mirrored 15 = .ok (.aload_n 0, 1) := by decide +kernel
theorem dX1_mirrored_16 : decode cX1_mirrored 16 = .ok (.getfield 18, 3) := by decide +kernel
theorem dX1_mirrored_19 : decode cX1_mirrored 19 = .ok (.aload_n 0, 1) := by decide +kernel
theorem dX1_mirrored_20 : decode cX1_mirrored 20 = .ok (.getfield 21, 3) := by decide +kernel
theorem dX1_mirrored_23 : decode cX1_mirrored 23 = .ok (.invokespecial 35, 3) := by decide +kernel
theorem dX1_mirrored_26 : decode cX1_mirrored 26 = .ok (.areturn, 1) := by decide +kernel
theorem dX2_init_0 : decode cX2_init 0 = .ok (.aload_n 0, 1) := by decide +kernel
theorem dX2_init_1 : decode cX2_init 1 = .ok (.invokespecial 3, 3) := by decide +kernel
theorem dX2_init_4 : decode cX2_init 4 = .ok (.aload_n 0, 1) := by decide +kernel
theorem dX2_init_5 : decode cX2_init 5 = .ok (.aload_n 1, 1) := by decide +kernel
theorem dX2_init_6 : decode cX2_init 6 = .ok (.putfield 9, 3) := by decide +kernel
theorem dX2_init_9 : decode cX2_init 9 = .ok (.aload_n 0, 1) := by decide +kernel
theorem dX2_init_10 : decode cX2_init 10 = .ok (.iload_n 2, 1) := by decide +kernel
theorem dX2_init_11 : decode cX2_init 11 = .ok (.putfield 15, 3) := by decide +kernel
theorem dX2_init_14 : decode cX2_init 14 = .ok (.aload_n 0, 1) := by decide +kernel
theorem dX2_init_15 : decode cX2_init 15 = .ok (.iload_n 3, 1) := by decide +kernel
theorem dX2_init_16 : decode cX2_init 16 = .ok (.putfield 19, 3) := by decide +kernel
theorem dX2_init_19 : decode cX2_init 19 = .ok (.return_, 1) := by decide +kernel
theorem dX2_isBreakAfter_0 : decode cX2_isBreakAfter 0 = .ok (.iload_n 1, 1) := by decide +kernel
theorem dX2_isBreakAfter_1 : decode cX2_isBreakAfter 1 = .ok (.iconst (-1), 1) := by decide +kernel
theorem dX2_isBreakAfter_2 : decode cX2_isBreakAfter 2 = .ok (.if_icmp .eq 22, 3) := by decide +kernel
theorem dX2_isBreakAfter_5 : decode cX2_isBreakAfter 5 = .ok (.iload_n 1, 1) := by decide +kernel
theorem dX2_isBreakAfter_6 : decode cX2_isBreakAfter 6 = .ok (.aload_n 0, 1) := by decide +kernel
theorem dX2_isBreakAfter_7 : decode cX2_isBreakAfter 7 = .ok (.getfield 15, 3) := by decide +kernel
theorem dX2_isBreakAfter_10 : decode cX2_isBreakAfter 10 = .ok (.if_icmp .eq 14, 3) := by decide +kernel
theorem dX2_isBreakAfter_13 : decode cX2_isBreakAfter 13 = .ok (.aload_n 0, 1) := by decide +kernel
theorem dX2_isBreakAfter_14 : decode cX2_isBreakAfter 14 = .ok (.getfield 19, 3) := by decide +kernel
theorem dX2_isBreakAfter_17 : decode cX2_isBreakAfter 17 = .ok (.ifCond .ne 7, 3) := by decide +kernel
theorem dX2_isBreakAfter_20 : decode cX2_isBreakAfter 20 = .ok (.iconst 1, 1) := by decide +kernel
theorem dX2_isBreakAfter_21 : decode cX2_isBreakAfter 21 = .ok (.goto 4, 3) := by decide +kernel
theorem dX2_isBreakAfter_24 : decode cX2_isBreakAfter 24 = .ok (.iconst 0, 1) := by decide +kernel
theorem dX2_isBreakAfter_25 : decode cX2_isBreakAfter 25 = .ok (.ireturn, 1) := by decide +kernel
theorem dX2_mirrored_0 : decode cX2_mirrored 0 = .ok (.new 10, 3) := by decide +kernel
theorem dX2_mirrored_3 : decode cX2_mirrored 3 = .ok (.dup, 1) := by decide +kernel
theorem dX2_mirrored_4 : decode cX2_mirrored 4 = .ok (.aload_n 0, 1) := by decide +kernel
theorem dX2_mirrored_5 : decode cX2_mirrored 5 = .ok (.getfield 9, 3) := by decide +kernel
theorem dX2_mirrored_8 : decode cX2_mirrored 8 = .ok (.invokevirtual 23, 3) := by decide +kernel
theorem dX2_mirrored_11 : decode cX2_mirrored 11 = .ok (.aload_n 0, 1) := by decide +kernel
theorem dX2_mirrored_12 : decode cX2_mirrored 12 = .ok (.getfield 15, 3) := by decide +kernel
theorem dX2_mirrored_15 : decode cX2_mirrored 15 = .ok (.aload_n 0, 1) := by decide +kernel
theorem dX2_mirrored_16 : decode cX2_mirrored 16 = .ok (.getfield 19, 3) := by decide +kernel
theorem dX2_mirrored_19 : decode cX2_mirrored 19 = .ok (.invokespecial 29, 3) := by decide +kernel
theorem dX2_mirrored_22 : decode cX2_mirrored 22 = .ok (.areturn, 1) := by decide +kernel
theorem dX3_init_0 : decode cX3_init 0 = .ok (.aload_n 0, 1) := by decide +kernel
theorem dX3_init_1 : decode cX3_init 1 = .ok (.invokespecial 3, 3) := by decide +kernel
theorem dX3_init_4 : decode cX3_init 4 = .ok (.aload_n 0, 1) := by decide +kernel
theorem dX3_init_5 : decode cX3_init 5 = .ok (.new 9, 3) := by decide +kernel
theorem dX3_init_8 : decode cX3_init 8 = .ok (.dup, 1) := by decide +kernel
theorem dX3_init_9 : decode cX3_init 9 = .ok (.invokespecial 11, 3) := by decide +kernel
theorem dX3_init_12 : decode cX3_init 12 = .ok (.putfield 12, 3) := by decide +kernel
theorem dX3_init_15 : decode cX3_init 15 = .ok (.aload_n 0, 1) := by decide +kernel
theorem dX3_init_16 : decode cX3_init 16 = .ok (.new 9, 3) := by decide +kernel
theorem dX3_init_19 : decode cX3_init 19 = .ok (.dup, 1) := by decide +kernel
theorem dX3_init_20 : decode cX3_init 20 = .ok (.invokespecial 11, 3) := by decide +kernel
theorem dX3_init_23 : decode cX3_init 23 = .ok (.putfield 18, 3) := by decide +kernel
theorem dX3_init_26 : decode cX3_init 26 = .ok (.aload_n 0, 1) := by decide +kernel
theorem dX3_init_27 : decode cX3_init 27 = .ok (.iload_n 1, 1) := by decide +kernel
theorem dX3_init_28 : decode cX3_init 28 = .ok (.putfield 21, 3) := by decide +kernel
theorem dX3_init_31 : decode cX3_init 31 = .ok (.return_, 1) := by decide +kernel
theorem dX3_allPanels_0 : decode cX3_allPanels 0 = .ok (.iconst 1, 1) := by decide +kernel
theorem dX3_allPanels_1 : decode cX3_allPanels 1 = .ok (.aload_n 0, 1) := by decide +kernel
theorem dX3_allPanels_2 : decode cX3_allPanels 2 = .ok (.getfield 12, 3) := by decide +kernel
theorem dX3_allPanels_5 : decode cX3_allPanels 5 = .ok (.invokevirtual 25, 3) := by decide +kernel
theorem dX3_allPanels_8 : decode cX3_allPanels 8 = .ok (.ishl, 1) := by decide +kernel
theorem dX3_allPanels_9 : decode cX3_allPanels 9 = .ok (.iconst 1, 1) := by decide +kernel
theorem dX3_allPanels_10 : decode cX3_allPanels 10 = .ok (.isub, 1) := by decide +kernel
theorem dX3_allPanels_11 : decode cX3_allPanels 11 = .ok (.ireturn, 1) := by decide +kernel
theorem dX3_hasPanelOver_0 : decode cX3_hasPanelOver 0 = .ok (.iconst 0, 1) := by decide +kernel
theorem dX3_hasPanelOver_1 : decode cX3_hasPanelOver 1 = .ok (.istore_n 2, 1) := by decide +kernel
theorem dX3_hasPanelOver_2 : decode cX3_hasPanelOver 2 = .ok (.iload_n 2, 1) := by decide +kernel
theorem dX3_hasPanelOver_3 : decode cX3_hasPanelOver 3 = .ok (.aload_n 0, 1) := by decide +kernel
theorem dX3_hasPanelOver_4 : decode cX3_hasPanelOver 4 = .ok (.getfield 12, 3) := by decide +kernel
theorem dX3_hasPanelOver_7 : decode cX3_hasPanelOver 7 = .ok (.invokevirtual 25, 3) := by decide +kernel
theorem dX3_hasPanelOver_10 : decode cX3_hasPanelOver 10 = .ok (.if_icmp .ge 32, 3) := by decide +kernel
theorem dX3_hasPanelOver_13 : decode cX3_hasPanelOver 13 = .ok (.aload_n 0, 1) := by decide +kernel
theorem dX3_hasPanelOver_14 : decode cX3_hasPanelOver 14 = .ok (.getfield 12, 3) := by decide +kernel
theorem dX3_hasPanelOver_17 : decode cX3_hasPanelOver 17 = .ok (.iload_n 2, 1) := by decide +kernel
theorem dX3_hasPanelOver_18 : decode cX3_hasPanelOver 18 = .ok (.invokevirtual 29, 3) := by decide +kernel
theorem dX3_hasPanelOver_21 : decode cX3_hasPanelOver 21 = .ok (.checkcast 33, 3) := by decide +kernel
theorem dX3_hasPanelOver_24 : decode cX3_hasPanelOver 24 = .ok (.getfield 35, 3) := by decide +kernel
theorem dX3_hasPanelOver_27 : decode cX3_hasPanelOver 27 = .ok (.aload_n 1, 1) := by decide +kernel
theorem dX3_hasPanelOver_28 : decode cX3_hasPanelOver 28 = .ok (.invokevirtual 39, 3) := by decide +kernel
theorem dX3_hasPanelOver_31 : decode cX3_hasPanelOver 31 = .ok (.ifCond .eq 5, 3) := by decide +kernel
theorem dX3_hasPanelOver_34 : decode cX3_hasPanelOver 34 = .ok (.iconst 1, 1) := by decide +kernel
theorem dX3_hasPanelOver_35 : decode cX3_hasPanelOver 35 = .ok (.ireturn, 1) := by decide +kernel
theorem dX3_hasPanelOver_36 : decode cX3_hasPanelOver 36 = .ok (.iinc 2 1, 3) := by decide +kernel
theorem dX3_hasPanelOver_39 : decode cX3_hasPanelOver 39 = .ok (.goto (-37), 3) := by decide +kernel
theorem dX3_hasPanelOver_42 : decode cX3_hasPanelOver 42 = .ok (.iconst 0, 1) := by decide +kernel
theorem dX3_hasPanelOver_43 : decode cX3_hasPanelOver 43 = .ok (.ireturn, 1) := by decide +kernel
theorem dX3_hasOneAheadOf_0 : decode cX3_hasOneAheadOf 0 = .ok (.iload_n 1, 1) := by decide +kernel
theorem dX3_hasOneAheadOf_1 : decode cX3_hasOneAheadOf 1 = .ok (.ifCond .lt 14, 3) := by decide +kernel
theorem dX3_hasOneAheadOf_4 : decode cX3_hasOneAheadOf 4 = .ok (.iload_n 1, 1) := by decide +kernel
theorem dX3_hasOneAheadOf_5 : decode cX3_hasOneAheadOf 5 = .ok (.aload_n 0, 1) := by decide +kernel
theorem dX3_hasOneAheadOf_6 : decode cX3_hasOneAheadOf 6 = .ok (.getfield 12, 3) := by decide +kernel
theorem dX3_hasOneAheadOf_9 : decode cX3_hasOneAheadOf 9 = .ok (.invokevirtual 25, 3) := by decide +kernel
theorem dX3_hasOneAheadOf_12 : decode cX3_hasOneAheadOf 12 = .ok (.if_icmp .lt 5, 3) := by decide +kernel
theorem dX3_hasOneAheadOf_15 : decode cX3_hasOneAheadOf 15 = .ok (.iconst 0, 1) := by decide +kernel
theorem dX3_hasOneAheadOf_16 : decode cX3_hasOneAheadOf 16 = .ok (.ireturn, 1) := by decide +kernel
theorem dX3_hasOneAheadOf_17 : decode cX3_hasOneAheadOf 17 = .ok (.aload_n 0, 1) := by decide +kernel
theorem dX3_hasOneAheadOf_18 : decode cX3_hasOneAheadOf 18 = .ok (.getfield 12, 3) := by decide +kernel
theorem dX3_hasOneAheadOf_21 : decode cX3_hasOneAheadOf 21 = .ok (.iload_n 1, 1) := by decide +kernel
theorem dX3_hasOneAheadOf_22 : decode cX3_hasOneAheadOf 22 = .ok (.invokevirtual 29, 3) := by decide +kernel
theorem dX3_hasOneAheadOf_25 : decode cX3_hasOneAheadOf 25 = .ok (.checkcast 33, 3) := by decide +kernel
theorem dX3_hasOneAheadOf_28 : decode cX3_hasOneAheadOf 28 = .ok (.getfield 35, 3) := by decide +kernel
theorem dX3_hasOneAheadOf_31 : decode cX3_hasOneAheadOf 31 = .ok (.astore 4, 2) := by decide +kernel
theorem dX3_hasOneAheadOf_33 : decode cX3_hasOneAheadOf 33 = .ok (.iconst 0, 1) := by decide +kernel
theorem dX3_hasOneAheadOf_34 : decode cX3_hasOneAheadOf 34 = .ok (.istore 5, 2) := by decide +kernel
theorem dX3_hasOneAheadOf_36 : decode cX3_hasOneAheadOf 36 = .ok (.iload 5, 2) := by decide +kernel
theorem dX3_hasOneAheadOf_38 : decode cX3_hasOneAheadOf 38 = .ok (.aload_n 0, 1) := by decide +kernel
theorem dX3_hasOneAheadOf_39 : decode cX3_hasOneAheadOf 39 = .ok (.getfield 12, 3) := by decide +kernel
theorem dX3_hasOneAheadOf_42 : decode cX3_hasOneAheadOf 42 = .ok (.invokevirtual 25, 3) := by decide +kernel
theorem dX3_hasOneAheadOf_45 : decode cX3_hasOneAheadOf 45 = .ok (.if_icmp .ge 44, 3) := by decide +kernel
theorem dX3_hasOneAheadOf_48 : decode cX3_hasOneAheadOf 48 = .ok (.iload_n 2, 1) := by decide +kernel
theorem dX3_hasOneAheadOf_49 : decode cX3_hasOneAheadOf 49 = .ok (.iload 5, 2) := by decide +kernel
theorem dX3_hasOneAheadOf_51 : decode cX3_hasOneAheadOf 51 = .ok (.invokestatic 45, 3) := by decide +kernel
theorem dX3_hasOneAheadOf_54 : decode cX3_hasOneAheadOf 54 = .ok (.ifCond .eq 29, 3) := by decide +kernel
theorem dX3_hasOneAheadOf_57 : decode cX3_hasOneAheadOf 57 = .ok (.aload_n 0, 1) := by decide +kernel
theorem dX3_hasOneAheadOf_58 : decode cX3_hasOneAheadOf 58 = .ok (.getfield 12, 3) := by decide +kernel
theorem dX3_hasOneAheadOf_61 : decode cX3_hasOneAheadOf 61 = .ok (.iload 5, 2) := by decide +kernel
theorem dX3_hasOneAheadOf_63 : decode cX3_hasOneAheadOf 63 = .ok (.invokevirtual 29, 3) := by decide +kernel
theorem dX3_hasOneAheadOf_66 : decode cX3_hasOneAheadOf 66 = .ok (.checkcast 33, 3) := by decide +kernel
theorem dX3_hasOneAheadOf_69 : decode cX3_hasOneAheadOf 69 = .ok (.getfield 35, 3) := by decide +kernel
theorem dX3_hasOneAheadOf_72 : decode cX3_hasOneAheadOf 72 = .ok (.aload 4, 2) := by decide +kernel
theorem dX3_hasOneAheadOf_74 : decode cX3_hasOneAheadOf 74 = .ok (.iload_n 3, 1) := by decide +kernel
theorem dX3_hasOneAheadOf_75 : decode cX3_hasOneAheadOf 75 = .ok (.invokevirtual 49, 3) := by decide +kernel
theorem dX3_hasOneAheadOf_78 : decode cX3_hasOneAheadOf 78 = .ok (.ifCond .eq 5, 3) := by decide +kernel
theorem dX3_hasOneAheadOf_81 : decode cX3_hasOneAheadOf 81 = .ok (.iconst 1, 1) := by decide +kernel
theorem dX3_hasOneAheadOf_82 : decode cX3_hasOneAheadOf 82 = .ok (.ireturn, 1) := by decide +kernel
theorem dX3_hasOneAheadOf_83 : decode cX3_hasOneAheadOf 83 = .ok (.iinc 5 1, 3) := by decide +kernel
theorem dX3_hasOneAheadOf_86 : decode cX3_hasOneAheadOf 86 = .ok (.goto (-50), 3) := by decide +kernel
theorem dX3_hasOneAheadOf_89 : decode cX3_hasOneAheadOf 89 = .ok (.iconst 0, 1) := by decide +kernel
theorem dX3_hasOneAheadOf_90 : decode cX3_hasOneAheadOf 90 = .ok (.ireturn, 1) := by decide +kernel
theorem dX3_neighbourAt_0 : decode cX3_neighbourAt 0 = .ok (.iload_n 1, 1) := by decide +kernel
theorem dX3_neighbourAt_1 : decode cX3_neighbourAt 1 = .ok (.iload_n 2, 1) := by decide +kernel
theorem dX3_neighbourAt_2 : decode cX3_neighbourAt 2 = .ok (.if_icmp .eq 18, 3) := by decide +kernel
theorem dX3_neighbourAt_5 : decode cX3_neighbourAt 5 = .ok (.iload_n 1, 1) := by decide +kernel
theorem dX3_neighbourAt_6 : decode cX3_neighbourAt 6 = .ok (.ifCond .lt 14, 3) := by decide +kernel
theorem dX3_neighbourAt_9 : decode cX3_neighbourAt 9 = .ok (.iload_n 1, 1) := by decide +kernel
theorem dX3_neighbourAt_10 : decode cX3_neighbourAt 10 = .ok (.aload_n 0, 1) := by decide +kernel
theorem dX3_neighbourAt_11 : decode cX3_neighbourAt 11 = .ok (.getfield 18, 3) := by decide +kernel
theorem dX3_neighbourAt_14 : decode cX3_neighbourAt 14 = .ok (.invokevirtual 25, 3) := by decide +kernel
theorem dX3_neighbourAt_17 : decode cX3_neighbourAt 17 = .ok (.if_icmp .lt 5, 3) := by decide +kernel
theorem dX3_neighbourAt_20 : decode cX3_neighbourAt 20 = .ok (.aconst_null, 1) := by decide +kernel
theorem dX3_neighbourAt_21 : decode cX3_neighbourAt 21 = .ok (.areturn, 1) := by decide +kernel
theorem dX3_neighbourAt_22 : decode cX3_neighbourAt 22 = .ok (.aload_n 0, 1) := by decide +kernel
theorem dX3_neighbourAt_23 : decode cX3_neighbourAt 23 = .ok (.getfield 18, 3) := by decide +kernel
theorem dX3_neighbourAt_26 : decode cX3_neighbourAt 26 = .ok (.iload_n 1, 1) := by decide +kernel
theorem dX3_neighbourAt_27 : decode cX3_neighbourAt 27 = .ok (.invokevirtual 29, 3) := by decide +kernel
theorem dX3_neighbourAt_30 : decode cX3_neighbourAt 30 = .ok (.checkcast 53, 3) := by decide +kernel
theorem dX3_neighbourAt_33 : decode cX3_neighbourAt 33 = .ok (.astore 4, 2) := by decide +kernel
theorem dX3_neighbourAt_35 : decode cX3_neighbourAt 35 = .ok (.aload 4, 2) := by decide +kernel
theorem dX3_neighbourAt_37 : decode cX3_neighbourAt 37 = .ok (.getfield 55, 3) := by decide +kernel
theorem dX3_neighbourAt_40 : decode cX3_neighbourAt 40 = .ok (.aload_n 3, 1) := by decide +kernel
theorem dX3_neighbourAt_41 : decode cX3_neighbourAt 41 = .ok (.getfield 55, 3) := by decide +kernel
theorem dX3_neighbourAt_44 : decode cX3_neighbourAt 44 = .ok (.if_icmp .ne 8, 3) := by decide +kernel
theorem dX3_neighbourAt_47 : decode cX3_neighbourAt 47 = .ok (.aload 4, 2) := by decide +kernel
theorem dX3_neighbourAt_49 : decode cX3_neighbourAt 49 = .ok (.goto 4, 3) := by decide +kernel
theorem dX3_neighbourAt_52 : decode cX3_neighbourAt 52 = .ok (.aconst_null, 1) := by decide +kernel
theorem dX3_neighbourAt_53 : decode cX3_neighbourAt 53 = .ok (.areturn, 1) := by decide +kernel
theorem dX3_hasBalloonOver_0 : decode cX3_hasBalloonOver 0 = .ok (.iconst 0, 1) := by decide +kernel
theorem dX3_hasBalloonOver_1 : decode cX3_hasBalloonOver 1 = .ok (.istore_n 3, 1) := by decide +kernel
theorem dX3_hasBalloonOver_2 : decode cX3_hasBalloonOver 2 = .ok (.iload_n 3, 1) := by decide +kernel
theorem dX3_hasBalloonOver_3 : decode cX3_hasBalloonOver 3 = .ok (.aload_n 0, 1) := by decide +kernel
theorem dX3_hasBalloonOver_4 : decode cX3_hasBalloonOver 4 = .ok (.getfield 18, 3) := by decide +kernel
theorem dX3_hasBalloonOver_7 : decode cX3_hasBalloonOver 7 = .ok (.invokevirtual 25, 3) := by decide +kernel
theorem dX3_hasBalloonOver_10 : decode cX3_hasBalloonOver 10 = .ok (.if_icmp .ge 40, 3) := by decide +kernel
theorem dX3_hasBalloonOver_13 : decode cX3_hasBalloonOver 13 = .ok (.aload_n 0, 1) := by decide +kernel
theorem dX3_hasBalloonOver_14 : decode cX3_hasBalloonOver 14 = .ok (.iload_n 3, 1) := by decide +kernel
theorem dX3_hasBalloonOver_15 : decode cX3_hasBalloonOver 15 = .ok (.iload_n 1, 1) := by decide +kernel
theorem dX3_hasBalloonOver_16 : decode cX3_hasBalloonOver 16 = .ok (.aload_n 2, 1) := by decide +kernel
theorem dX3_hasBalloonOver_17 : decode cX3_hasBalloonOver 17 = .ok (.invokevirtual 59, 3) := by decide +kernel
theorem dX3_hasBalloonOver_20 : decode cX3_hasBalloonOver 20 = .ok (.astore 4, 2) := by decide +kernel
theorem dX3_hasBalloonOver_22 : decode cX3_hasBalloonOver 22 = .ok (.aload 4, 2) := by decide +kernel
theorem dX3_hasBalloonOver_24 : decode cX3_hasBalloonOver 24 = .ok (.ifnull 20, 3) := by decide +kernel
theorem dX3_hasBalloonOver_27 : decode cX3_hasBalloonOver 27 = .ok (.aload 4, 2) := by decide +kernel
theorem dX3_hasBalloonOver_29 : decode cX3_hasBalloonOver 29 = .ok (.getfield 63, 3) := by decide +kernel
theorem dX3_hasBalloonOver_32 : decode cX3_hasBalloonOver 32 = .ok (.aload_n 2, 1) := by decide +kernel
theorem dX3_hasBalloonOver_33 : decode cX3_hasBalloonOver 33 = .ok (.getfield 63, 3) := by decide +kernel
theorem dX3_hasBalloonOver_36 : decode cX3_hasBalloonOver 36 = .ok (.invokevirtual 39, 3) := by decide +kernel
theorem dX3_hasBalloonOver_39 : decode cX3_hasBalloonOver 39 = .ok (.ifCond .eq 5, 3) := by decide +kernel
theorem dX3_hasBalloonOver_42 : decode cX3_hasBalloonOver 42 = .ok (.iconst 1, 1) := by decide +kernel
theorem dX3_hasBalloonOver_43 : decode cX3_hasBalloonOver 43 = .ok (.ireturn, 1) := by decide +kernel
theorem dX3_hasBalloonOver_44 : decode cX3_hasBalloonOver 44 = .ok (.iinc 3 1, 3) := by decide +kernel
theorem dX3_hasBalloonOver_47 : decode cX3_hasBalloonOver 47 = .ok (.goto (-45), 3) := by decide +kernel
theorem dX3_hasBalloonOver_50 : decode cX3_hasBalloonOver 50 = .ok (.iconst 0, 1) := by decide +kernel
theorem dX3_hasBalloonOver_51 : decode cX3_hasBalloonOver 51 = .ok (.ireturn, 1) := by decide +kernel
theorem dX3_isOutOfTurn_0 : decode cX3_isOutOfTurn 0 = .ok (.iconst 0, 1) := by decide +kernel
theorem dX3_isOutOfTurn_1 : decode cX3_isOutOfTurn 1 = .ok (.istore_n 3, 1) := by decide +kernel
theorem dX3_isOutOfTurn_2 : decode cX3_isOutOfTurn 2 = .ok (.iload_n 3, 1) := by decide +kernel
theorem dX3_isOutOfTurn_3 : decode cX3_isOutOfTurn 3 = .ok (.iload_n 1, 1) := by decide +kernel
theorem dX3_isOutOfTurn_4 : decode cX3_isOutOfTurn 4 = .ok (.if_icmp .ge 38, 3) := by decide +kernel
theorem dX3_isOutOfTurn_7 : decode cX3_isOutOfTurn 7 = .ok (.aload_n 0, 1) := by decide +kernel
theorem dX3_isOutOfTurn_8 : decode cX3_isOutOfTurn 8 = .ok (.iload_n 3, 1) := by decide +kernel
theorem dX3_isOutOfTurn_9 : decode cX3_isOutOfTurn 9 = .ok (.iload_n 1, 1) := by decide +kernel
theorem dX3_isOutOfTurn_10 : decode cX3_isOutOfTurn 10 = .ok (.aload_n 2, 1) := by decide +kernel
theorem dX3_isOutOfTurn_11 : decode cX3_isOutOfTurn 11 = .ok (.invokevirtual 59, 3) := by decide +kernel
theorem dX3_isOutOfTurn_14 : decode cX3_isOutOfTurn 14 = .ok (.astore 4, 2) := by decide +kernel
theorem dX3_isOutOfTurn_16 : decode cX3_isOutOfTurn 16 = .ok (.aload 4, 2) := by decide +kernel
theorem dX3_isOutOfTurn_18 : decode cX3_isOutOfTurn 18 = .ok (.ifnull 18, 3) := by decide +kernel
theorem dX3_isOutOfTurn_21 : decode cX3_isOutOfTurn 21 = .ok (.aload_n 2, 1) := by decide +kernel
theorem dX3_isOutOfTurn_22 : decode cX3_isOutOfTurn 22 = .ok (.aload 4, 2) := by decide +kernel
theorem dX3_isOutOfTurn_24 : decode cX3_isOutOfTurn 24 = .ok (.aload_n 0, 1) := by decide +kernel
theorem dX3_isOutOfTurn_25 : decode cX3_isOutOfTurn 25 = .ok (.getfield 21, 3) := by decide +kernel
theorem dX3_isOutOfTurn_28 : decode cX3_isOutOfTurn 28 = .ok (.invokevirtual 64, 3) := by decide +kernel
theorem dX3_isOutOfTurn_31 : decode cX3_isOutOfTurn 31 = .ok (.ifCond .eq 5, 3) := by decide +kernel
theorem dX3_isOutOfTurn_34 : decode cX3_isOutOfTurn 34 = .ok (.iconst 1, 1) := by decide +kernel
theorem dX3_isOutOfTurn_35 : decode cX3_isOutOfTurn 35 = .ok (.ireturn, 1) := by decide +kernel
theorem dX3_isOutOfTurn_36 : decode cX3_isOutOfTurn 36 = .ok (.iinc 3 1, 3) := by decide +kernel
theorem dX3_isOutOfTurn_39 : decode cX3_isOutOfTurn 39 = .ok (.goto (-37), 3) := by decide +kernel
theorem dX3_isOutOfTurn_42 : decode cX3_isOutOfTurn 42 = .ok (.iconst 0, 1) := by decide +kernel
theorem dX3_isOutOfTurn_43 : decode cX3_isOutOfTurn 43 = .ok (.ireturn, 1) := by decide +kernel
theorem dX3_isTailHit_0 : decode cX3_isTailHit 0 = .ok (.aload_n 3, 1) := by decide +kernel
theorem dX3_isTailHit_1 : decode cX3_isTailHit 1 = .ok (.aload_n 2, 1) := by decide +kernel
theorem dX3_isTailHit_2 : decode cX3_isTailHit 2 = .ok (.getfield 68, 3) := by decide +kernel
theorem dX3_isTailHit_5 : decode cX3_isTailHit 5 = .ok (.invokevirtual 71, 3) := by decide +kernel
theorem dX3_isTailHit_8 : decode cX3_isTailHit 8 = .ok (.astore 4, 2) := by decide +kernel
theorem dX3_isTailHit_10 : decode cX3_isTailHit 10 = .ok (.aload 4, 2) := by decide +kernel
theorem dX3_isTailHit_12 : decode cX3_isTailHit 12 = .ok (.ifnonnull 5, 3) := by decide +kernel
theorem dX3_isTailHit_15 : decode cX3_isTailHit 15 = .ok (.iconst 0, 1) := by decide +kernel
theorem dX3_isTailHit_16 : decode cX3_isTailHit 16 = .ok (.ireturn, 1) := by decide +kernel
theorem dX3_isTailHit_17 : decode cX3_isTailHit 17 = .ok (.new 75, 3) := by decide +kernel
theorem dX3_isTailHit_20 : decode cX3_isTailHit 20 = .ok (.dup, 1) := by decide +kernel
theorem dX3_isTailHit_21 : decode cX3_isTailHit 21 = .ok (.aload_n 2, 1) := by decide +kernel
theorem dX3_isTailHit_22 : decode cX3_isTailHit 22 = .ok (.getfield 63, 3) := by decide +kernel
theorem dX3_isTailHit_25 : decode cX3_isTailHit 25 = .ok (.aload 4, 2) := by decide +kernel
theorem dX3_isTailHit_27 : decode cX3_isTailHit 27 = .ok (.getfield 77, 3) := by decide +kernel
theorem dX3_isTailHit_30 : decode cX3_isTailHit 30 = .ok (.invokespecial 80, 3) := by decide +kernel
theorem dX3_isTailHit_33 : decode cX3_isTailHit 33 = .ok (.astore 5, 2) := by decide +kernel
theorem dX3_isTailHit_35 : decode cX3_isTailHit 35 = .ok (.iconst 0, 1) := by decide +kernel
theorem dX3_isTailHit_36 : decode cX3_isTailHit 36 = .ok (.istore 6, 2) := by decide +kernel
theorem dX3_isTailHit_38 : decode cX3_isTailHit 38 = .ok (.iload 6, 2) := by decide +kernel
theorem dX3_isTailHit_40 : decode cX3_isTailHit 40 = .ok (.aload_n 0, 1) := by decide +kernel
theorem dX3_isTailHit_41 : decode cX3_isTailHit 41 = .ok (.getfield 18, 3) := by decide +kernel
theorem dX3_isTailHit_44 : decode cX3_isTailHit 44 = .ok (.invokevirtual 25, 3) := by decide +kernel
theorem dX3_isTailHit_47 : decode cX3_isTailHit 47 = .ok (.if_icmp .ge 51, 3) := by decide +kernel
theorem dX3_isTailHit_50 : decode cX3_isTailHit 50 = .ok (.aload_n 0, 1) := by decide +kernel
theorem dX3_isTailHit_51 : decode cX3_isTailHit 51 = .ok (.iload 6, 2) := by decide +kernel
theorem dX3_isTailHit_53 : decode cX3_isTailHit 53 = .ok (.iload_n 1, 1) := by decide +kernel
theorem dX3_isTailHit_54 : decode cX3_isTailHit 54 = .ok (.aload_n 2, 1) := by decide +kernel
theorem dX3_isTailHit_55 : decode cX3_isTailHit 55 = .ok (.invokevirtual 59, 3) := by decide +kernel
theorem dX3_isTailHit_58 : decode cX3_isTailHit 58 = .ok (.astore 7, 2) := by decide +kernel
theorem dX3_isTailHit_60 : decode cX3_isTailHit 60 = .ok (.aload 7, 2) := by decide +kernel
theorem dX3_isTailHit_62 : decode cX3_isTailHit 62 = .ok (.ifnull 30, 3) := by decide +kernel
theorem dX3_isTailHit_65 : decode cX3_isTailHit 65 = .ok (.aload 5, 2) := by decide +kernel
theorem dX3_isTailHit_67 : decode cX3_isTailHit 67 = .ok (.aload 7, 2) := by decide +kernel
theorem dX3_isTailHit_69 : decode cX3_isTailHit 69 = .ok (.getfield 63, 3) := by decide +kernel
theorem dX3_isTailHit_72 : decode cX3_isTailHit 72 = .ok (.invokevirtual 83, 3) := by decide +kernel
theorem dX3_isTailHit_75 : decode cX3_isTailHit 75 = .ok (.ifCond .ne 15, 3) := by decide +kernel
theorem dX3_isTailHit_78 : decode cX3_isTailHit 78 = .ok (.aload 5, 2) := by decide +kernel
theorem dX3_isTailHit_80 : decode cX3_isTailHit 80 = .ok (.aload_n 2, 1) := by decide +kernel
theorem dX3_isTailHit_81 : decode cX3_isTailHit 81 = .ok (.aload 7, 2) := by decide +kernel
theorem dX3_isTailHit_83 : decode cX3_isTailHit 83 = .ok (.aload_n 3, 1) := by decide +kernel
theorem dX3_isTailHit_84 : decode cX3_isTailHit 84 = .ok (.invokestatic 86, 3) := by decide +kernel
theorem dX3_isTailHit_87 : decode cX3_isTailHit 87 = .ok (.ifCond .eq 5, 3) := by decide +kernel
theorem dX3_isTailHit_90 : decode cX3_isTailHit 90 = .ok (.iconst 1, 1) := by decide +kernel
theorem dX3_isTailHit_91 : decode cX3_isTailHit 91 = .ok (.ireturn, 1) := by decide +kernel
theorem dX3_isTailHit_92 : decode cX3_isTailHit 92 = .ok (.iinc 6 1, 3) := by decide +kernel
theorem dX3_isTailHit_95 : decode cX3_isTailHit 95 = .ok (.goto (-57), 3) := by decide +kernel
theorem dX3_isTailHit_98 : decode cX3_isTailHit 98 = .ok (.iconst 0, 1) := by decide +kernel
theorem dX3_isTailHit_99 : decode cX3_isTailHit 99 = .ok (.ireturn, 1) := by decide +kernel
theorem dX3_isTailMet_0 : decode cX3_isTailMet 0 = .ok (.aload_n 3, 1) := by decide +kernel
theorem dX3_isTailMet_1 : decode cX3_isTailMet 1 = .ok (.aload_n 2, 1) := by decide +kernel
theorem dX3_isTailMet_2 : decode cX3_isTailMet 2 = .ok (.getfield 68, 3) := by decide +kernel
theorem dX3_isTailMet_5 : decode cX3_isTailMet 5 = .ok (.invokevirtual 71, 3) := by decide +kernel
theorem dX3_isTailMet_8 : decode cX3_isTailMet 8 = .ok (.astore 4, 2) := by decide +kernel
theorem dX3_isTailMet_10 : decode cX3_isTailMet 10 = .ok (.aload 4, 2) := by decide +kernel
theorem dX3_isTailMet_12 : decode cX3_isTailMet 12 = .ok (.ifnonnull 5, 3) := by decide +kernel
theorem dX3_isTailMet_15 : decode cX3_isTailMet 15 = .ok (.iconst 0, 1) := by decide +kernel
theorem dX3_isTailMet_16 : decode cX3_isTailMet 16 = .ok (.ireturn, 1) := by decide +kernel
theorem dX3_isTailMet_17 : decode cX3_isTailMet 17 = .ok (.new 75, 3) := by decide +kernel
theorem dX3_isTailMet_20 : decode cX3_isTailMet 20 = .ok (.dup, 1) := by decide +kernel
theorem dX3_isTailMet_21 : decode cX3_isTailMet 21 = .ok (.aload_n 2, 1) := by decide +kernel
theorem dX3_isTailMet_22 : decode cX3_isTailMet 22 = .ok (.getfield 63, 3) := by decide +kernel
theorem dX3_isTailMet_25 : decode cX3_isTailMet 25 = .ok (.aload 4, 2) := by decide +kernel
theorem dX3_isTailMet_27 : decode cX3_isTailMet 27 = .ok (.getfield 77, 3) := by decide +kernel
theorem dX3_isTailMet_30 : decode cX3_isTailMet 30 = .ok (.invokespecial 80, 3) := by decide +kernel
theorem dX3_isTailMet_33 : decode cX3_isTailMet 33 = .ok (.astore 5, 2) := by decide +kernel
theorem dX3_isTailMet_35 : decode cX3_isTailMet 35 = .ok (.aload_n 2, 1) := by decide +kernel
theorem dX3_isTailMet_36 : decode cX3_isTailMet 36 = .ok (.getfield 68, 3) := by decide +kernel
theorem dX3_isTailMet_39 : decode cX3_isTailMet 39 = .ok (.aload_n 1, 1) := by decide +kernel
theorem dX3_isTailMet_40 : decode cX3_isTailMet 40 = .ok (.getfield 68, 3) := by decide +kernel
theorem dX3_isTailMet_43 : decode cX3_isTailMet 43 = .ok (.if_icmp .ne 12, 3) := by decide +kernel
theorem dX3_isTailMet_46 : decode cX3_isTailMet 46 = .ok (.aload_n 0, 1) := by decide +kernel
theorem dX3_isTailMet_47 : decode cX3_isTailMet 47 = .ok (.aload 5, 2) := by decide +kernel
theorem dX3_isTailMet_49 : decode cX3_isTailMet 49 = .ok (.invokevirtual 90, 3) := by decide +kernel
theorem dX3_isTailMet_52 : decode cX3_isTailMet 52 = .ok (.goto 9, 3) := by decide +kernel
theorem dX3_isTailMet_55 : decode cX3_isTailMet 55 = .ok (.aload_n 0, 1) := by decide +kernel
theorem dX3_isTailMet_56 : decode cX3_isTailMet 56 = .ok (.aload 5, 2) := by decide +kernel
theorem dX3_isTailMet_58 : decode cX3_isTailMet 58 = .ok (.invokevirtual 94, 3) := by decide +kernel
theorem dX3_isTailMet_61 : decode cX3_isTailMet 61 = .ok (.ireturn, 1) := by decide +kernel
theorem dX3_countBreaks_0 : decode cX3_countBreaks 0 = .ok (.aload_n 0, 1) := by decide +kernel
theorem dX3_countBreaks_1 : decode cX3_countBreaks 1 = .ok (.aload_n 0, 1) := by decide +kernel
theorem dX3_countBreaks_2 : decode cX3_countBreaks 2 = .ok (.getfield 21, 3) := by decide +kernel
theorem dX3_countBreaks_5 : decode cX3_countBreaks 5 = .ok (.invokestatic 97, 3) := by decide +kernel
theorem dX3_countBreaks_8 : decode cX3_countBreaks 8 = .ok (.astore_n 2, 1) := by decide +kernel
theorem dX3_countBreaks_9 : decode cX3_countBreaks 9 = .ok (.iconst 0, 1) := by decide +kernel
theorem dX3_countBreaks_10 : decode cX3_countBreaks 10 = .ok (.istore_n 3, 1) := by decide +kernel
theorem dX3_countBreaks_11 : decode cX3_countBreaks 11 = .ok (.iconst 0, 1) := by decide +kernel
theorem dX3_countBreaks_12 : decode cX3_countBreaks 12 = .ok (.istore 4, 2) := by decide +kernel
theorem dX3_countBreaks_14 : decode cX3_countBreaks 14 = .ok (.iload 4, 2) := by decide +kernel
theorem dX3_countBreaks_16 : decode cX3_countBreaks 16 = .ok (.aload_n 0, 1) := by decide +kernel
theorem dX3_countBreaks_17 : decode cX3_countBreaks 17 = .ok (.getfield 12, 3) := by decide +kernel
theorem dX3_countBreaks_20 : decode cX3_countBreaks 20 = .ok (.invokevirtual 25, 3) := by decide +kernel
theorem dX3_countBreaks_23 : decode cX3_countBreaks 23 = .ok (.if_icmp .ge 53, 3) := by decide +kernel
theorem dX3_countBreaks_26 : decode cX3_countBreaks 26 = .ok (.aload_n 2, 1) := by decide +kernel
theorem dX3_countBreaks_27 : decode cX3_countBreaks 27 = .ok (.iload 4, 2) := by decide +kernel
theorem dX3_countBreaks_29 : decode cX3_countBreaks 29 = .ok (.invokevirtual 103, 3) := by decide +kernel
theorem dX3_countBreaks_32 : decode cX3_countBreaks 32 = .ok (.istore 5, 2) := by decide +kernel
theorem dX3_countBreaks_34 : decode cX3_countBreaks 34 = .ok (.iload 5, 2) := by decide +kernel
theorem dX3_countBreaks_36 : decode cX3_countBreaks 36 = .ok (.ifCond .lt 34, 3) := by decide +kernel
theorem dX3_countBreaks_39 : decode cX3_countBreaks 39 = .ok (.iload 5, 2) := by decide +kernel
theorem dX3_countBreaks_41 : decode cX3_countBreaks 41 = .ok (.aload_n 0, 1) := by decide +kernel
theorem dX3_countBreaks_42 : decode cX3_countBreaks 42 = .ok (.getfield 12, 3) := by decide +kernel
theorem dX3_countBreaks_45 : decode cX3_countBreaks 45 = .ok (.invokevirtual 25, 3) := by decide +kernel
theorem dX3_countBreaks_48 : decode cX3_countBreaks 48 = .ok (.if_icmp .ge 22, 3) := by decide +kernel
theorem dX3_countBreaks_51 : decode cX3_countBreaks 51 = .ok (.iload_n 3, 1) := by decide +kernel
theorem dX3_countBreaks_52 : decode cX3_countBreaks 52 = .ok (.aload_n 0, 1) := by decide +kernel
theorem dX3_countBreaks_53 : decode cX3_countBreaks 53 = .ok (.getfield 12, 3) := by decide +kernel
theorem dX3_countBreaks_56 : decode cX3_countBreaks 56 = .ok (.iload 5, 2) := by decide +kernel
theorem dX3_countBreaks_58 : decode cX3_countBreaks 58 = .ok (.invokevirtual 29, 3) := by decide +kernel
theorem dX3_countBreaks_61 : decode cX3_countBreaks 61 = .ok (.checkcast 33, 3) := by decide +kernel
theorem dX3_countBreaks_64 : decode cX3_countBreaks 64 = .ok (.aload_n 1, 1) := by decide +kernel
theorem dX3_countBreaks_65 : decode cX3_countBreaks 65 = .ok (.invokevirtual 107, 3) := by decide +kernel
theorem dX3_countBreaks_68 : decode cX3_countBreaks 68 = .ok (.iadd, 1) := by decide +kernel
theorem dX3_countBreaks_69 : decode cX3_countBreaks 69 = .ok (.istore_n 3, 1) := by decide +kernel
theorem dX3_countBreaks_70 : decode cX3_countBreaks 70 = .ok (.iinc 4 1, 3) := by decide +kernel
theorem dX3_countBreaks_73 : decode cX3_countBreaks 73 = .ok (.goto (-59), 3) := by decide +kernel
theorem dX3_countBreaks_76 : decode cX3_countBreaks 76 = .ok (.iload_n 3, 1) := by decide +kernel
theorem dX3_countBreaks_77 : decode cX3_countBreaks 77 = .ok (.ireturn, 1) := by decide +kernel
theorem dX3_answersInPrint_0 : decode cX3_answersInPrint 0 = .ok (.bipush 11, 2) := by decide +kernel
theorem dX3_answersInPrint_2 : decode cX3_answersInPrint 2 = .ok (.newarray .int, 2) := by decide +kernel
theorem dX3_answersInPrint_4 : decode cX3_answersInPrint 4 = .ok (.astore_n 2, 1) := by decide +kernel
theorem dX3_answersInPrint_5 : decode cX3_answersInPrint 5 = .ok (.aload_n 2, 1) := by decide +kernel
theorem dX3_answersInPrint_6 : decode cX3_answersInPrint 6 = .ok (.iconst 0, 1) := by decide +kernel
theorem dX3_answersInPrint_7 : decode cX3_answersInPrint 7 = .ok (.iload_n 1, 1) := by decide +kernel
theorem dX3_answersInPrint_8 : decode cX3_answersInPrint 8 = .ok (.iastore, 1) := by decide +kernel
theorem dX3_answersInPrint_9 : decode cX3_answersInPrint 9 = .ok (.aload_n 2, 1) := by decide +kernel
theorem dX3_answersInPrint_10 : decode cX3_answersInPrint 10 = .ok (.iconst 1, 1) := by decide +kernel
theorem dX3_answersInPrint_11 : decode cX3_answersInPrint 11 = .ok (.aload_n 0, 1) := by decide +kernel
theorem dX3_answersInPrint_12 : decode cX3_answersInPrint 12 = .ok (.getfield 12, 3) := by decide +kernel
theorem dX3_answersInPrint_15 : decode cX3_answersInPrint 15 = .ok (.invokevirtual 25, 3) := by decide +kernel
theorem dX3_answersInPrint_18 : decode cX3_answersInPrint 18 = .ok (.iastore, 1) := by decide +kernel
theorem dX3_answersInPrint_19 : decode cX3_answersInPrint 19 = .ok (.aload_n 2, 1) := by decide +kernel
theorem dX3_answersInPrint_20 : decode cX3_answersInPrint 20 = .ok (.iconst 2, 1) := by decide +kernel
theorem dX3_answersInPrint_21 : decode cX3_answersInPrint 21 = .ok (.aload_n 0, 1) := by decide +kernel
theorem dX3_answersInPrint_22 : decode cX3_answersInPrint 22 = .ok (.invokevirtual 111, 3) := by decide +kernel
theorem dX3_answersInPrint_25 : decode cX3_answersInPrint 25 = .ok (.iastore, 1) := by decide +kernel
theorem dX3_answersInPrint_26 : decode cX3_answersInPrint 26 = .ok (.aload_n 0, 1) := by decide +kernel
theorem dX3_answersInPrint_27 : decode cX3_answersInPrint 27 = .ok (.aload_n 0, 1) := by decide +kernel
theorem dX3_answersInPrint_28 : decode cX3_answersInPrint 28 = .ok (.getfield 21, 3) := by decide +kernel
theorem dX3_answersInPrint_31 : decode cX3_answersInPrint 31 = .ok (.invokestatic 97, 3) := by decide +kernel
theorem dX3_answersInPrint_34 : decode cX3_answersInPrint 34 = .ok (.astore_n 3, 1) := by decide +kernel
theorem dX3_answersInPrint_35 : decode cX3_answersInPrint 35 = .ok (.iconst 3, 1) := by decide +kernel
theorem dX3_answersInPrint_36 : decode cX3_answersInPrint 36 = .ok (.istore 4, 2) := by decide +kernel
theorem dX3_answersInPrint_38 : decode cX3_answersInPrint 38 = .ok (.iload 4, 2) := by decide +kernel
theorem dX3_answersInPrint_40 : decode cX3_answersInPrint 40 = .ok (.aload_n 2, 1) := by decide +kernel
theorem dX3_answersInPrint_41 : decode cX3_answersInPrint 41 = .ok (.arraylength, 1) := by decide +kernel
theorem dX3_answersInPrint_42 : decode cX3_answersInPrint 42 = .ok (.if_icmp .ge 21, 3) := by decide +kernel
theorem dX3_answersInPrint_45 : decode cX3_answersInPrint 45 = .ok (.aload_n 2, 1) := by decide +kernel
theorem dX3_answersInPrint_46 : decode cX3_answersInPrint 46 = .ok (.iload 4, 2) := by decide +kernel
theorem dX3_answersInPrint_48 : decode cX3_answersInPrint 48 = .ok (.aload_n 3, 1) := by decide +kernel
theorem dX3_answersInPrint_49 : decode cX3_answersInPrint 49 = .ok (.iload 4, 2) := by decide +kernel
theorem dX3_answersInPrint_51 : decode cX3_answersInPrint 51 = .ok (.iconst 3, 1) := by decide +kernel
theorem dX3_answersInPrint_52 : decode cX3_answersInPrint 52 = .ok (.isub, 1) := by decide +kernel
theorem dX3_answersInPrint_53 : decode cX3_answersInPrint 53 = .ok (.invokevirtual 103, 3) := by decide +kernel
theorem dX3_answersInPrint_56 : decode cX3_answersInPrint 56 = .ok (.iastore, 1) := by decide +kernel
theorem dX3_answersInPrint_57 : decode cX3_answersInPrint 57 = .ok (.iinc 4 1, 3) := by decide +kernel
theorem dX3_answersInPrint_60 : decode cX3_answersInPrint 60 = .ok (.goto (-22), 3) := by decide +kernel
theorem dX3_answersInPrint_63 : decode cX3_answersInPrint 63 = .ok (.aload_n 2, 1) := by decide +kernel
theorem dX3_answersInPrint_64 : decode cX3_answersInPrint 64 = .ok (.areturn, 1) := by decide +kernel
theorem dX3_countLetters_0 : decode cX3_countLetters 0 = .ok (.iconst 0, 1) := by decide +kernel
theorem dX3_countLetters_1 : decode cX3_countLetters 1 = .ok (.istore_n 1, 1) := by decide +kernel
theorem dX3_countLetters_2 : decode cX3_countLetters 2 = .ok (.iconst 0, 1) := by decide +kernel
theorem dX3_countLetters_3 : decode cX3_countLetters 3 = .ok (.istore_n 2, 1) := by decide +kernel
theorem dX3_countLetters_4 : decode cX3_countLetters 4 = .ok (.iload_n 2, 1) := by decide +kernel
theorem dX3_countLetters_5 : decode cX3_countLetters 5 = .ok (.aload_n 0, 1) := by decide +kernel
theorem dX3_countLetters_6 : decode cX3_countLetters 6 = .ok (.getfield 18, 3) := by decide +kernel
theorem dX3_countLetters_9 : decode cX3_countLetters 9 = .ok (.invokevirtual 25, 3) := by decide +kernel
theorem dX3_countLetters_12 : decode cX3_countLetters 12 = .ok (.if_icmp .ge 26, 3) := by decide +kernel
theorem dX3_countLetters_15 : decode cX3_countLetters 15 = .ok (.iload_n 1, 1) := by decide +kernel
theorem dX3_countLetters_16 : decode cX3_countLetters 16 = .ok (.aload_n 0, 1) := by decide +kernel
theorem dX3_countLetters_17 : decode cX3_countLetters 17 = .ok (.getfield 18, 3) := by decide +kernel
theorem dX3_countLetters_20 : decode cX3_countLetters 20 = .ok (.iload_n 2, 1) := by decide +kernel
theorem dX3_countLetters_21 : decode cX3_countLetters 21 = .ok (.invokevirtual 29, 3) := by decide +kernel
theorem dX3_countLetters_24 : decode cX3_countLetters 24 = .ok (.checkcast 53, 3) := by decide +kernel
theorem dX3_countLetters_27 : decode cX3_countLetters 27 = .ok (.getfield 114, 3) := by decide +kernel
theorem dX3_countLetters_30 : decode cX3_countLetters 30 = .ok (.iadd, 1) := by decide +kernel
theorem dX3_countLetters_31 : decode cX3_countLetters 31 = .ok (.istore_n 1, 1) := by decide +kernel
theorem dX3_countLetters_32 : decode cX3_countLetters 32 = .ok (.iinc 2 1, 3) := by decide +kernel
theorem dX3_countLetters_35 : decode cX3_countLetters 35 = .ok (.goto (-31), 3) := by decide +kernel
theorem dX3_countLetters_38 : decode cX3_countLetters 38 = .ok (.iload_n 1, 1) := by decide +kernel
theorem dX3_countLetters_39 : decode cX3_countLetters 39 = .ok (.ireturn, 1) := by decide +kernel
theorem dX3_mirrored_0 : decode cX3_mirrored 0 = .ok (.new 13, 3) := by decide +kernel
theorem dX3_mirrored_3 : decode cX3_mirrored 3 = .ok (.dup, 1) := by decide +kernel
theorem dX3_mirrored_4 : decode cX3_mirrored 4 = .ok (.aload_n 0, 1) := by decide +kernel
theorem dX3_mirrored_5 : decode cX3_mirrored 5 = .ok (.getfield 21, 3) := by decide +kernel
theorem dX3_mirrored_8 : decode cX3_mirrored 8 = .ok (.ifCond .ne 7, 3) := by decide +kernel
theorem dX3_mirrored_11 : decode cX3_mirrored 11 = .ok (.iconst 1, 1) := by decide +kernel
theorem dX3_mirrored_12 : decode cX3_mirrored 12 = .ok (.goto 4, 3) := by decide +kernel
theorem dX3_mirrored_15 : decode cX3_mirrored 15 = .ok (.iconst 0, 1) := by decide +kernel
theorem dX3_mirrored_16 : decode cX3_mirrored 16 = .ok (.invokespecial 117, 3) := by decide +kernel
theorem dX3_mirrored_19 : decode cX3_mirrored 19 = .ok (.astore_n 1, 1) := by decide +kernel
theorem dX3_mirrored_20 : decode cX3_mirrored 20 = .ok (.iconst 0, 1) := by decide +kernel
theorem dX3_mirrored_21 : decode cX3_mirrored 21 = .ok (.istore_n 2, 1) := by decide +kernel
theorem dX3_mirrored_22 : decode cX3_mirrored 22 = .ok (.iload_n 2, 1) := by decide +kernel
theorem dX3_mirrored_23 : decode cX3_mirrored 23 = .ok (.aload_n 0, 1) := by decide +kernel
theorem dX3_mirrored_24 : decode cX3_mirrored 24 = .ok (.getfield 12, 3) := by decide +kernel
theorem dX3_mirrored_27 : decode cX3_mirrored 27 = .ok (.invokevirtual 25, 3) := by decide +kernel
theorem dX3_mirrored_30 : decode cX3_mirrored 30 = .ok (.if_icmp .ge 31, 3) := by decide +kernel
theorem dX3_mirrored_33 : decode cX3_mirrored 33 = .ok (.aload_n 1, 1) := by decide +kernel
theorem dX3_mirrored_34 : decode cX3_mirrored 34 = .ok (.getfield 12, 3) := by decide +kernel
theorem dX3_mirrored_37 : decode cX3_mirrored 37 = .ok (.aload_n 0, 1) := by decide +kernel
theorem dX3_mirrored_38 : decode cX3_mirrored 38 = .ok (.getfield 12, 3) := by decide +kernel
theorem dX3_mirrored_41 : decode cX3_mirrored 41 = .ok (.iload_n 2, 1) := by decide +kernel
theorem dX3_mirrored_42 : decode cX3_mirrored 42 = .ok (.invokevirtual 29, 3) := by decide +kernel
theorem dX3_mirrored_45 : decode cX3_mirrored 45 = .ok (.checkcast 33, 3) := by decide +kernel
theorem dX3_mirrored_48 : decode cX3_mirrored 48 = .ok (.invokevirtual 120, 3) := by decide +kernel
theorem dX3_mirrored_51 : decode cX3_mirrored 51 = .ok (.invokevirtual 124, 3) := by decide +kernel
theorem dX3_mirrored_54 : decode cX3_mirrored 54 = .ok (.pop, 1) := by decide +kernel
theorem dX3_mirrored_55 : decode cX3_mirrored 55 = .ok (.iinc 2 1, 3) := by decide +kernel
theorem dX3_mirrored_58 : decode cX3_mirrored 58 = .ok (.goto (-36), 3) := by decide +kernel
theorem dX3_mirrored_61 : decode cX3_mirrored 61 = .ok (.iconst 0, 1) := by decide +kernel
theorem dX3_mirrored_62 : decode cX3_mirrored 62 = .ok (.istore_n 2, 1) := by decide +kernel
theorem dX3_mirrored_63 : decode cX3_mirrored 63 = .ok (.iload_n 2, 1) := by decide +kernel
theorem dX3_mirrored_64 : decode cX3_mirrored 64 = .ok (.aload_n 0, 1) := by decide +kernel
theorem dX3_mirrored_65 : decode cX3_mirrored 65 = .ok (.getfield 18, 3) := by decide +kernel
theorem dX3_mirrored_68 : decode cX3_mirrored 68 = .ok (.invokevirtual 25, 3) := by decide +kernel
theorem dX3_mirrored_71 : decode cX3_mirrored 71 = .ok (.if_icmp .ge 31, 3) := by decide +kernel
theorem dX3_mirrored_74 : decode cX3_mirrored 74 = .ok (.aload_n 1, 1) := by decide +kernel
theorem dX3_mirrored_75 : decode cX3_mirrored 75 = .ok (.getfield 18, 3) := by decide +kernel
theorem dX3_mirrored_78 : decode cX3_mirrored 78 = .ok (.aload_n 0, 1) := by decide +kernel
theorem dX3_mirrored_79 : decode cX3_mirrored 79 = .ok (.getfield 18, 3) := by decide +kernel
theorem dX3_mirrored_82 : decode cX3_mirrored 82 = .ok (.iload_n 2, 1) := by decide +kernel
theorem dX3_mirrored_83 : decode cX3_mirrored 83 = .ok (.invokevirtual 29, 3) := by decide +kernel
theorem dX3_mirrored_86 : decode cX3_mirrored 86 = .ok (.checkcast 53, 3) := by decide +kernel
theorem dX3_mirrored_89 : decode cX3_mirrored 89 = .ok (.invokevirtual 128, 3) := by decide +kernel
theorem dX3_mirrored_92 : decode cX3_mirrored 92 = .ok (.invokevirtual 124, 3) := by decide +kernel
theorem dX3_mirrored_95 : decode cX3_mirrored 95 = .ok (.pop, 1) := by decide +kernel
theorem dX3_mirrored_96 : decode cX3_mirrored 96 = .ok (.iinc 2 1, 3) := by decide +kernel
theorem dX3_mirrored_99 : decode cX3_mirrored 99 = .ok (.goto (-36), 3) := by decide +kernel
theorem dX3_mirrored_102 : decode cX3_mirrored 102 = .ok (.aload_n 1, 1) := by decide +kernel
theorem dX3_mirrored_103 : decode cX3_mirrored 103 = .ok (.areturn, 1) := by decide +kernel
theorem dX4_init_0 : decode cX4_init 0 = .ok (.aload_n 0, 1) := by decide +kernel
theorem dX4_init_1 : decode cX4_init 1 = .ok (.invokespecial 3, 3) := by decide +kernel
theorem dX4_init_4 : decode cX4_init 4 = .ok (.aload_n 0, 1) := by decide +kernel
theorem dX4_init_5 : decode cX4_init 5 = .ok (.bipush 12, 2) := by decide +kernel
theorem dX4_init_7 : decode cX4_init 7 = .ok (.anewarray 9, 3) := by decide +kernel
theorem dX4_init_10 : decode cX4_init 10 = .ok (.putfield 11, 3) := by decide +kernel
theorem dX4_init_13 : decode cX4_init 13 = .ok (.aload_n 0, 1) := by decide +kernel
theorem dX4_init_14 : decode cX4_init 14 = .ok (.aload_n 1, 1) := by decide +kernel
theorem dX4_init_15 : decode cX4_init 15 = .ok (.putfield 17, 3) := by decide +kernel
theorem dX4_init_18 : decode cX4_init 18 = .ok (.return_, 1) := by decide +kernel
theorem dX4_faceOf_0 : decode cX4_faceOf 0 = .ok (.iload_n 1, 1) := by decide +kernel
theorem dX4_faceOf_1 : decode cX4_faceOf 1 = .ok (.ifCond .lt 21, 3) := by decide +kernel
theorem dX4_faceOf_4 : decode cX4_faceOf 4 = .ok (.iload_n 1, 1) := by decide +kernel
theorem dX4_faceOf_5 : decode cX4_faceOf 5 = .ok (.aload_n 0, 1) := by decide +kernel
theorem dX4_faceOf_6 : decode cX4_faceOf 6 = .ok (.getfield 11, 3) := by decide +kernel
theorem dX4_faceOf_9 : decode cX4_faceOf 9 = .ok (.arraylength, 1) := by decide +kernel
theorem dX4_faceOf_10 : decode cX4_faceOf 10 = .ok (.if_icmp .ge 12, 3) := by decide +kernel
theorem dX4_faceOf_13 : decode cX4_faceOf 13 = .ok (.aload_n 0, 1) := by decide +kernel
theorem dX4_faceOf_14 : decode cX4_faceOf 14 = .ok (.getfield 11, 3) := by decide +kernel
theorem dX4_faceOf_17 : decode cX4_faceOf 17 = .ok (.iload_n 1, 1) := by decide +kernel
theorem dX4_faceOf_18 : decode cX4_faceOf 18 = .ok (.aaload, 1) := by decide +kernel
theorem dX4_faceOf_19 : decode cX4_faceOf 19 = .ok (.goto 4, 3) := by decide +kernel
theorem dX4_faceOf_22 : decode cX4_faceOf 22 = .ok (.aconst_null, 1) := by decide +kernel
theorem dX4_faceOf_23 : decode cX4_faceOf 23 = .ok (.areturn, 1) := by decide +kernel
theorem dX4_putFace_0 : decode cX4_putFace 0 = .ok (.iload_n 1, 1) := by decide +kernel
theorem dX4_putFace_1 : decode cX4_putFace 1 = .ok (.ifCond .lt 19, 3) := by decide +kernel
theorem dX4_putFace_4 : decode cX4_putFace 4 = .ok (.iload_n 1, 1) := by decide +kernel
theorem dX4_putFace_5 : decode cX4_putFace 5 = .ok (.aload_n 0, 1) := by decide +kernel
theorem dX4_putFace_6 : decode cX4_putFace 6 = .ok (.getfield 11, 3) := by decide +kernel
theorem dX4_putFace_9 : decode cX4_putFace 9 = .ok (.arraylength, 1) := by decide +kernel
theorem dX4_putFace_10 : decode cX4_putFace 10 = .ok (.if_icmp .ge 10, 3) := by decide +kernel
theorem dX4_putFace_13 : decode cX4_putFace 13 = .ok (.aload_n 0, 1) := by decide +kernel
theorem dX4_putFace_14 : decode cX4_putFace 14 = .ok (.getfield 11, 3) := by decide +kernel
theorem dX4_putFace_17 : decode cX4_putFace 17 = .ok (.iload_n 1, 1) := by decide +kernel
theorem dX4_putFace_18 : decode cX4_putFace 18 = .ok (.aload_n 2, 1) := by decide +kernel
theorem dX4_putFace_19 : decode cX4_putFace 19 = .ok (.aastore, 1) := by decide +kernel
theorem dX4_putFace_20 : decode cX4_putFace 20 = .ok (.return_, 1) := by decide +kernel
theorem dX4_hasFaceUnder_0 : decode cX4_hasFaceUnder 0 = .ok (.iconst 0, 1) := by decide +kernel
theorem dX4_hasFaceUnder_1 : decode cX4_hasFaceUnder 1 = .ok (.istore_n 2, 1) := by decide +kernel
theorem dX4_hasFaceUnder_2 : decode cX4_hasFaceUnder 2 = .ok (.iload_n 2, 1) := by decide +kernel
theorem dX4_hasFaceUnder_3 : decode cX4_hasFaceUnder 3 = .ok (.aload_n 0, 1) := by decide +kernel
theorem dX4_hasFaceUnder_4 : decode cX4_hasFaceUnder 4 = .ok (.getfield 11, 3) := by decide +kernel
theorem dX4_hasFaceUnder_7 : decode cX4_hasFaceUnder 7 = .ok (.arraylength, 1) := by decide +kernel
theorem dX4_hasFaceUnder_8 : decode cX4_hasFaceUnder 8 = .ok (.if_icmp .ge 33, 3) := by decide +kernel
theorem dX4_hasFaceUnder_11 : decode cX4_hasFaceUnder 11 = .ok (.aload_n 0, 1) := by decide +kernel
theorem dX4_hasFaceUnder_12 : decode cX4_hasFaceUnder 12 = .ok (.getfield 11, 3) := by decide +kernel
theorem dX4_hasFaceUnder_15 : decode cX4_hasFaceUnder 15 = .ok (.iload_n 2, 1) := by decide +kernel
theorem dX4_hasFaceUnder_16 : decode cX4_hasFaceUnder 16 = .ok (.aaload, 1) := by decide +kernel
theorem dX4_hasFaceUnder_17 : decode cX4_hasFaceUnder 17 = .ok (.astore_n 3, 1) := by decide +kernel
theorem dX4_hasFaceUnder_18 : decode cX4_hasFaceUnder 18 = .ok (.aload_n 3, 1) := by decide +kernel
theorem dX4_hasFaceUnder_19 : decode cX4_hasFaceUnder 19 = .ok (.ifnull 16, 3) := by decide +kernel
theorem dX4_hasFaceUnder_22 : decode cX4_hasFaceUnder 22 = .ok (.aload_n 3, 1) := by decide +kernel
theorem dX4_hasFaceUnder_23 : decode cX4_hasFaceUnder 23 = .ok (.getfield 21, 3) := by decide +kernel
theorem dX4_hasFaceUnder_26 : decode cX4_hasFaceUnder 26 = .ok (.aload_n 1, 1) := by decide +kernel
theorem dX4_hasFaceUnder_27 : decode cX4_hasFaceUnder 27 = .ok (.invokevirtual 22, 3) := by decide +kernel
theorem dX4_hasFaceUnder_30 : decode cX4_hasFaceUnder 30 = .ok (.ifCond .eq 5, 3) := by decide +kernel
theorem dX4_hasFaceUnder_33 : decode cX4_hasFaceUnder 33 = .ok (.iconst 1, 1) := by decide +kernel
theorem dX4_hasFaceUnder_34 : decode cX4_hasFaceUnder 34 = .ok (.ireturn, 1) := by decide +kernel
theorem dX4_hasFaceUnder_35 : decode cX4_hasFaceUnder 35 = .ok (.iinc 2 1, 3) := by decide +kernel
theorem dX4_hasFaceUnder_38 : decode cX4_hasFaceUnder 38 = .ok (.goto (-36), 3) := by decide +kernel
theorem dX4_hasFaceUnder_41 : decode cX4_hasFaceUnder 41 = .ok (.iconst 0, 1) := by decide +kernel
theorem dX4_hasFaceUnder_42 : decode cX4_hasFaceUnder 42 = .ok (.ireturn, 1) := by decide +kernel
theorem dX4_countBreaks_0 : decode cX4_countBreaks 0 = .ok (.iconst 0, 1) := by decide +kernel
theorem dX4_countBreaks_1 : decode cX4_countBreaks 1 = .ok (.istore_n 2, 1) := by decide +kernel
theorem dX4_countBreaks_2 : decode cX4_countBreaks 2 = .ok (.iconst 0, 1) := by decide +kernel
theorem dX4_countBreaks_3 : decode cX4_countBreaks 3 = .ok (.istore_n 3, 1) := by decide +kernel
theorem dX4_countBreaks_4 : decode cX4_countBreaks 4 = .ok (.iload_n 3, 1) := by decide +kernel
theorem dX4_countBreaks_5 : decode cX4_countBreaks 5 = .ok (.aload_n 0, 1) := by decide +kernel
theorem dX4_countBreaks_6 : decode cX4_countBreaks 6 = .ok (.getfield 11, 3) := by decide +kernel
theorem dX4_countBreaks_9 : decode cX4_countBreaks 9 = .ok (.arraylength, 1) := by decide +kernel
theorem dX4_countBreaks_10 : decode cX4_countBreaks 10 = .ok (.if_icmp .ge 55, 3) := by decide +kernel
theorem dX4_countBreaks_13 : decode cX4_countBreaks 13 = .ok (.iload_n 3, 1) := by decide +kernel
theorem dX4_countBreaks_14 : decode cX4_countBreaks 14 = .ok (.aload_n 1, 1) := by decide +kernel
theorem dX4_countBreaks_15 : decode cX4_countBreaks 15 = .ok (.arraylength, 1) := by decide +kernel
theorem dX4_countBreaks_16 : decode cX4_countBreaks 16 = .ok (.if_icmp .ge 49, 3) := by decide +kernel
theorem dX4_countBreaks_19 : decode cX4_countBreaks 19 = .ok (.aload_n 0, 1) := by decide +kernel
theorem dX4_countBreaks_20 : decode cX4_countBreaks 20 = .ok (.getfield 11, 3) := by decide +kernel
theorem dX4_countBreaks_23 : decode cX4_countBreaks 23 = .ok (.iload_n 3, 1) := by decide +kernel
theorem dX4_countBreaks_24 : decode cX4_countBreaks 24 = .ok (.aaload, 1) := by decide +kernel
theorem dX4_countBreaks_25 : decode cX4_countBreaks 25 = .ok (.astore 4, 2) := by decide +kernel
theorem dX4_countBreaks_27 : decode cX4_countBreaks 27 = .ok (.aload 4, 2) := by decide +kernel
theorem dX4_countBreaks_29 : decode cX4_countBreaks 29 = .ok (.ifnull 30, 3) := by decide +kernel
theorem dX4_countBreaks_32 : decode cX4_countBreaks 32 = .ok (.iload_n 2, 1) := by decide +kernel
theorem dX4_countBreaks_33 : decode cX4_countBreaks 33 = .ok (.aload 4, 2) := by decide +kernel
theorem dX4_countBreaks_35 : decode cX4_countBreaks 35 = .ok (.aload_n 1, 1) := by decide +kernel
theorem dX4_countBreaks_36 : decode cX4_countBreaks 36 = .ok (.iload_n 3, 1) := by decide +kernel
theorem dX4_countBreaks_37 : decode cX4_countBreaks 37 = .ok (.iaload, 1) := by decide +kernel
theorem dX4_countBreaks_38 : decode cX4_countBreaks 38 = .ok (.invokevirtual 28, 3) := by decide +kernel
theorem dX4_countBreaks_41 : decode cX4_countBreaks 41 = .ok (.ifCond .eq 7, 3) := by decide +kernel
theorem dX4_countBreaks_44 : decode cX4_countBreaks 44 = .ok (.iconst 1, 1) := by decide +kernel
theorem dX4_countBreaks_45 : decode cX4_countBreaks 45 = .ok (.goto 4, 3) := by decide +kernel
theorem dX4_countBreaks_48 : decode cX4_countBreaks 48 = .ok (.iconst 0, 1) := by decide +kernel
theorem dX4_countBreaks_49 : decode cX4_countBreaks 49 = .ok (.iadd, 1) := by decide +kernel
theorem dX4_countBreaks_50 : decode cX4_countBreaks 50 = .ok (.istore_n 2, 1) := by decide +kernel
theorem dX4_countBreaks_51 : decode cX4_countBreaks 51 = .ok (.aload_n 1, 1) := by decide +kernel
theorem dX4_countBreaks_52 : decode cX4_countBreaks 52 = .ok (.iload_n 3, 1) := by decide +kernel
theorem dX4_countBreaks_53 : decode cX4_countBreaks 53 = .ok (.aload 4, 2) := by decide +kernel
theorem dX4_countBreaks_55 : decode cX4_countBreaks 55 = .ok (.getfield 32, 3) := by decide +kernel
theorem dX4_countBreaks_58 : decode cX4_countBreaks 58 = .ok (.iastore, 1) := by decide +kernel
theorem dX4_countBreaks_59 : decode cX4_countBreaks 59 = .ok (.iinc 3 1, 3) := by decide +kernel
theorem dX4_countBreaks_62 : decode cX4_countBreaks 62 = .ok (.goto (-58), 3) := by decide +kernel
theorem dX4_countBreaks_65 : decode cX4_countBreaks 65 = .ok (.iload_n 2, 1) := by decide +kernel
theorem dX4_countBreaks_66 : decode cX4_countBreaks 66 = .ok (.ireturn, 1) := by decide +kernel
theorem dX4_mirrored_0 : decode cX4_mirrored 0 = .ok (.new 12, 3) := by decide +kernel
theorem dX4_mirrored_3 : decode cX4_mirrored 3 = .ok (.dup, 1) := by decide +kernel
theorem dX4_mirrored_4 : decode cX4_mirrored 4 = .ok (.aload_n 0, 1) := by decide +kernel
theorem dX4_mirrored_5 : decode cX4_mirrored 5 = .ok (.getfield 17, 3) := by decide +kernel
theorem dX4_mirrored_8 : decode cX4_mirrored 8 = .ok (.invokevirtual 36, 3) := by decide +kernel
theorem dX4_mirrored_11 : decode cX4_mirrored 11 = .ok (.invokespecial 40, 3) := by decide +kernel
theorem dX4_mirrored_14 : decode cX4_mirrored 14 = .ok (.astore_n 1, 1) := by decide +kernel
theorem dX4_mirrored_15 : decode cX4_mirrored 15 = .ok (.iconst 0, 1) := by decide +kernel
theorem dX4_mirrored_16 : decode cX4_mirrored 16 = .ok (.istore_n 2, 1) := by decide +kernel
theorem dX4_mirrored_17 : decode cX4_mirrored 17 = .ok (.iload_n 2, 1) := by decide +kernel
theorem dX4_mirrored_18 : decode cX4_mirrored 18 = .ok (.aload_n 0, 1) := by decide +kernel
theorem dX4_mirrored_19 : decode cX4_mirrored 19 = .ok (.getfield 11, 3) := by decide +kernel
theorem dX4_mirrored_22 : decode cX4_mirrored 22 = .ok (.arraylength, 1) := by decide +kernel
theorem dX4_mirrored_23 : decode cX4_mirrored 23 = .ok (.if_icmp .ge 29, 3) := by decide +kernel
theorem dX4_mirrored_26 : decode cX4_mirrored 26 = .ok (.aload_n 0, 1) := by decide +kernel
theorem dX4_mirrored_27 : decode cX4_mirrored 27 = .ok (.getfield 11, 3) := by decide +kernel
theorem dX4_mirrored_30 : decode cX4_mirrored 30 = .ok (.iload_n 2, 1) := by decide +kernel
theorem dX4_mirrored_31 : decode cX4_mirrored 31 = .ok (.aaload, 1) := by decide +kernel
theorem dX4_mirrored_32 : decode cX4_mirrored 32 = .ok (.astore_n 3, 1) := by decide +kernel
theorem dX4_mirrored_33 : decode cX4_mirrored 33 = .ok (.aload_n 3, 1) := by decide +kernel
theorem dX4_mirrored_34 : decode cX4_mirrored 34 = .ok (.ifnull 12, 3) := by decide +kernel
theorem dX4_mirrored_37 : decode cX4_mirrored 37 = .ok (.aload_n 1, 1) := by decide +kernel
theorem dX4_mirrored_38 : decode cX4_mirrored 38 = .ok (.iload_n 2, 1) := by decide +kernel
theorem dX4_mirrored_39 : decode cX4_mirrored 39 = .ok (.aload_n 3, 1) := by decide +kernel
theorem dX4_mirrored_40 : decode cX4_mirrored 40 = .ok (.invokevirtual 43, 3) := by decide +kernel
theorem dX4_mirrored_43 : decode cX4_mirrored 43 = .ok (.invokevirtual 46, 3) := by decide +kernel
theorem dX4_mirrored_46 : decode cX4_mirrored 46 = .ok (.iinc 2 1, 3) := by decide +kernel
theorem dX4_mirrored_49 : decode cX4_mirrored 49 = .ok (.goto (-32), 3) := by decide +kernel
theorem dX4_mirrored_52 : decode cX4_mirrored 52 = .ok (.aload_n 1, 1) := by decide +kernel
theorem dX4_mirrored_53 : decode cX4_mirrored 53 = .ok (.areturn, 1) := by decide +kernel
theorem dX5_init_0 : decode cX5_init 0 = .ok (.aload_n 0, 1) := by decide +kernel
theorem dX5_init_1 : decode cX5_init 1 = .ok (.invokespecial 3, 3) := by decide +kernel
theorem dX5_init_4 : decode cX5_init 4 = .ok (.aload_n 0, 1) := by decide +kernel
theorem dX5_init_5 : decode cX5_init 5 = .ok (.bipush 8, 2) := by decide +kernel
theorem dX5_init_7 : decode cX5_init 7 = .ok (.newarray .int, 2) := by decide +kernel
theorem dX5_init_9 : decode cX5_init 9 = .ok (.putfield 9, 3) := by decide +kernel
theorem dX5_init_12 : decode cX5_init 12 = .ok (.aload_n 0, 1) := by decide +kernel
theorem dX5_init_13 : decode cX5_init 13 = .ok (.aload_n 1, 1) := by decide +kernel
theorem dX5_init_14 : decode cX5_init 14 = .ok (.putfield 15, 3) := by decide +kernel
theorem dX5_init_17 : decode cX5_init 17 = .ok (.aload_n 0, 1) := by decide +kernel
theorem dX5_init_18 : decode cX5_init 18 = .ok (.iload_n 2, 1) := by decide +kernel
theorem dX5_init_19 : decode cX5_init 19 = .ok (.putfield 19, 3) := by decide +kernel
theorem dX5_init_22 : decode cX5_init 22 = .ok (.aload_n 0, 1) := by decide +kernel
theorem dX5_init_23 : decode cX5_init 23 = .ok (.getfield 9, 3) := by decide +kernel
theorem dX5_init_26 : decode cX5_init 26 = .ok (.iconst (-1), 1) := by decide +kernel
theorem dX5_init_27 : decode cX5_init 27 = .ok (.invokestatic 23, 3) := by decide +kernel
theorem dX5_init_30 : decode cX5_init 30 = .ok (.return_, 1) := by decide +kernel
theorem dX5_of_0 : decode cX5_of 0 = .ok (.new 10, 3) := by decide +kernel
theorem dX5_of_3 : decode cX5_of 3 = .ok (.dup, 1) := by decide +kernel
theorem dX5_of_4 : decode cX5_of 4 = .ok (.aload_n 0, 1) := by decide +kernel
theorem dX5_of_5 : decode cX5_of 5 = .ok (.iload_n 1, 1) := by decide +kernel
theorem dX5_of_6 : decode cX5_of 6 = .ok (.invokespecial 29, 3) := by decide +kernel
theorem dX5_of_9 : decode cX5_of 9 = .ok (.astore_n 2, 1) := by decide +kernel
theorem dX5_of_10 : decode cX5_of 10 = .ok (.aload_n 2, 1) := by decide +kernel
theorem dX5_of_11 : decode cX5_of 11 = .ok (.aload_n 0, 1) := by decide +kernel
theorem dX5_of_12 : decode cX5_of 12 = .ok (.invokevirtual 32, 3) := by decide +kernel
theorem dX5_of_15 : decode cX5_of 15 = .ok (.iconst 0, 1) := by decide +kernel
theorem dX5_of_16 : decode cX5_of 16 = .ok (.invokestatic 38, 3) := by decide +kernel
theorem dX5_of_19 : decode cX5_of 19 = .ok (.aload_n 2, 1) := by decide +kernel
theorem dX5_of_20 : decode cX5_of 20 = .ok (.areturn, 1) := by decide +kernel
theorem dX5_panelAt_0 : decode cX5_panelAt 0 = .ok (.iload_n 1, 1) := by decide +kernel
theorem dX5_panelAt_1 : decode cX5_panelAt 1 = .ok (.ifCond .lt 21, 3) := by decide +kernel
theorem dX5_panelAt_4 : decode cX5_panelAt 4 = .ok (.iload_n 1, 1) := by decide +kernel
theorem dX5_panelAt_5 : decode cX5_panelAt 5 = .ok (.aload_n 0, 1) := by decide +kernel
theorem dX5_panelAt_6 : decode cX5_panelAt 6 = .ok (.getfield 9, 3) := by decide +kernel
theorem dX5_panelAt_9 : decode cX5_panelAt 9 = .ok (.arraylength, 1) := by decide +kernel
theorem dX5_panelAt_10 : decode cX5_panelAt 10 = .ok (.if_icmp .ge 12, 3) := by decide +kernel
theorem dX5_panelAt_13 : decode cX5_panelAt 13 = .ok (.aload_n 0, 1) := by decide +kernel
theorem dX5_panelAt_14 : decode cX5_panelAt 14 = .ok (.getfield 9, 3) := by decide +kernel
theorem dX5_panelAt_17 : decode cX5_panelAt 17 = .ok (.iload_n 1, 1) := by decide +kernel
theorem dX5_panelAt_18 : decode cX5_panelAt 18 = .ok (.iaload, 1) := by decide +kernel
theorem dX5_panelAt_19 : decode cX5_panelAt 19 = .ok (.goto 4, 3) := by decide +kernel
theorem dX5_panelAt_22 : decode cX5_panelAt 22 = .ok (.iconst (-1), 1) := by decide +kernel
theorem dX5_panelAt_23 : decode cX5_panelAt 23 = .ok (.ireturn, 1) := by decide +kernel
theorem dX5_keepsAhead_0 : decode cX5_keepsAhead 0 = .ok (.aload_n 0, 1) := by decide +kernel
theorem dX5_keepsAhead_1 : decode cX5_keepsAhead 1 = .ok (.getfield 15, 3) := by decide +kernel
theorem dX5_keepsAhead_4 : decode cX5_keepsAhead 4 = .ok (.invokevirtual 32, 3) := by decide +kernel
theorem dX5_keepsAhead_7 : decode cX5_keepsAhead 7 = .ok (.istore_n 1, 1) := by decide +kernel
theorem dX5_keepsAhead_8 : decode cX5_keepsAhead 8 = .ok (.iconst 0, 1) := by decide +kernel
theorem dX5_keepsAhead_9 : decode cX5_keepsAhead 9 = .ok (.istore_n 2, 1) := by decide +kernel
theorem dX5_keepsAhead_10 : decode cX5_keepsAhead 10 = .ok (.iload_n 2, 1) := by decide +kernel
theorem dX5_keepsAhead_11 : decode cX5_keepsAhead 11 = .ok (.aload_n 0, 1) := by decide +kernel
theorem dX5_keepsAhead_12 : decode cX5_keepsAhead 12 = .ok (.getfield 42, 3) := by decide +kernel
theorem dX5_keepsAhead_15 : decode cX5_keepsAhead 15 = .ok (.if_icmp .ge 41, 3) := by decide +kernel
theorem dX5_keepsAhead_18 : decode cX5_keepsAhead 18 = .ok (.aload_n 0, 1) := by decide +kernel
theorem dX5_keepsAhead_19 : decode cX5_keepsAhead 19 = .ok (.iload_n 2, 1) := by decide +kernel
theorem dX5_keepsAhead_20 : decode cX5_keepsAhead 20 = .ok (.invokevirtual 46, 3) := by decide +kernel
theorem dX5_keepsAhead_23 : decode cX5_keepsAhead 23 = .ok (.istore_n 3, 1) := by decide +kernel
theorem dX5_keepsAhead_24 : decode cX5_keepsAhead 24 = .ok (.aload_n 0, 1) := by decide +kernel
theorem dX5_keepsAhead_25 : decode cX5_keepsAhead 25 = .ok (.getfield 15, 3) := by decide +kernel
theorem dX5_keepsAhead_28 : decode cX5_keepsAhead 28 = .ok (.iload_n 3, 1) := by decide +kernel
theorem dX5_keepsAhead_29 : decode cX5_keepsAhead 29 = .ok (.iload_n 1, 1) := by decide +kernel
theorem dX5_keepsAhead_30 : decode cX5_keepsAhead 30 = .ok (.aload_n 0, 1) := by decide +kernel
theorem dX5_keepsAhead_31 : decode cX5_keepsAhead 31 = .ok (.getfield 19, 3) := by decide +kernel
theorem dX5_keepsAhead_34 : decode cX5_keepsAhead 34 = .ok (.invokevirtual 50, 3) := by decide +kernel
theorem dX5_keepsAhead_37 : decode cX5_keepsAhead 37 = .ok (.ifCond .eq 5, 3) := by decide +kernel
theorem dX5_keepsAhead_40 : decode cX5_keepsAhead 40 = .ok (.iconst 0, 1) := by decide +kernel
theorem dX5_keepsAhead_41 : decode cX5_keepsAhead 41 = .ok (.ireturn, 1) := by decide +kernel
theorem dX5_keepsAhead_42 : decode cX5_keepsAhead 42 = .ok (.iload_n 1, 1) := by decide +kernel
theorem dX5_keepsAhead_43 : decode cX5_keepsAhead 43 = .ok (.iconst 1, 1) := by decide +kernel
theorem dX5_keepsAhead_44 : decode cX5_keepsAhead 44 = .ok (.iload_n 3, 1) := by decide +kernel
theorem dX5_keepsAhead_45 : decode cX5_keepsAhead 45 = .ok (.ishl, 1) := by decide +kernel
theorem dX5_keepsAhead_46 : decode cX5_keepsAhead 46 = .ok (.iconst (-1), 1) := by decide +kernel
theorem dX5_keepsAhead_47 : decode cX5_keepsAhead 47 = .ok (.ixor, 1) := by decide +kernel
theorem dX5_keepsAhead_48 : decode cX5_keepsAhead 48 = .ok (.iand, 1) := by decide +kernel
theorem dX5_keepsAhead_49 : decode cX5_keepsAhead 49 = .ok (.istore_n 1, 1) := by decide +kernel
theorem dX5_keepsAhead_50 : decode cX5_keepsAhead 50 = .ok (.iinc 2 1, 3) := by decide +kernel
theorem dX5_keepsAhead_53 : decode cX5_keepsAhead 53 = .ok (.goto (-43), 3) := by decide +kernel
theorem dX5_keepsAhead_56 : decode cX5_keepsAhead 56 = .ok (.iconst 1, 1) := by decide +kernel
theorem dX5_keepsAhead_57 : decode cX5_keepsAhead 57 = .ok (.ireturn, 1) := by decide +kernel
theorem dX5_takeSet_0 : decode cX5_takeSet 0 = .ok (.iload_n 1, 1) := by decide +kernel
theorem dX5_takeSet_1 : decode cX5_takeSet 1 = .ok (.invokestatic 54, 3) := by decide +kernel
theorem dX5_takeSet_4 : decode cX5_takeSet 4 = .ok (.iconst 2, 1) := by decide +kernel
theorem dX5_takeSet_5 : decode cX5_takeSet 5 = .ok (.if_icmp .lt 9, 3) := by decide +kernel
theorem dX5_takeSet_8 : decode cX5_takeSet 8 = .ok (.iload_n 2, 1) := by decide +kernel
theorem dX5_takeSet_9 : decode cX5_takeSet 9 = .ok (.bipush 8, 2) := by decide +kernel
theorem dX5_takeSet_11 : decode cX5_takeSet 11 = .ok (.if_icmp .lt 9, 3) := by decide +kernel
theorem dX5_takeSet_14 : decode cX5_takeSet 14 = .ok (.aload_n 0, 1) := by decide +kernel
theorem dX5_takeSet_15 : decode cX5_takeSet 15 = .ok (.iload_n 1, 1) := by decide +kernel
theorem dX5_takeSet_16 : decode cX5_takeSet 16 = .ok (.invokevirtual 59, 3) := by decide +kernel
theorem dX5_takeSet_19 : decode cX5_takeSet 19 = .ok (.return_, 1) := by decide +kernel
theorem dX5_takeSet_20 : decode cX5_takeSet 20 = .ok (.aload_n 0, 1) := by decide +kernel
theorem dX5_takeSet_21 : decode cX5_takeSet 21 = .ok (.iload_n 1, 1) := by decide +kernel
theorem dX5_takeSet_22 : decode cX5_takeSet 22 = .ok (.iconst 1, 1) := by decide +kernel
theorem dX5_takeSet_23 : decode cX5_takeSet 23 = .ok (.invokevirtual 63, 3) := by decide +kernel
theorem dX5_takeSet_26 : decode cX5_takeSet 26 = .ok (.istore_n 3, 1) := by decide +kernel
theorem dX5_takeSet_27 : decode cX5_takeSet 27 = .ok (.aload_n 0, 1) := by decide +kernel
theorem dX5_takeSet_28 : decode cX5_takeSet 28 = .ok (.iload_n 1, 1) := by decide +kernel
theorem dX5_takeSet_29 : decode cX5_takeSet 29 = .ok (.iconst 0, 1) := by decide +kernel
theorem dX5_takeSet_30 : decode cX5_takeSet 30 = .ok (.invokevirtual 63, 3) := by decide +kernel
theorem dX5_takeSet_33 : decode cX5_takeSet 33 = .ok (.istore 4, 2) := by decide +kernel
theorem dX5_takeSet_35 : decode cX5_takeSet 35 = .ok (.aload_n 0, 1) := by decide +kernel
theorem dX5_takeSet_36 : decode cX5_takeSet 36 = .ok (.iload_n 1, 1) := by decide +kernel
theorem dX5_takeSet_37 : decode cX5_takeSet 37 = .ok (.iconst 1, 1) := by decide +kernel
theorem dX5_takeSet_38 : decode cX5_takeSet 38 = .ok (.iload_n 3, 1) := by decide +kernel
theorem dX5_takeSet_39 : decode cX5_takeSet 39 = .ok (.invokevirtual 67, 3) := by decide +kernel
theorem dX5_takeSet_42 : decode cX5_takeSet 42 = .ok (.istore 5, 2) := by decide +kernel
theorem dX5_takeSet_44 : decode cX5_takeSet 44 = .ok (.aload_n 0, 1) := by decide +kernel
theorem dX5_takeSet_45 : decode cX5_takeSet 45 = .ok (.iload_n 1, 1) := by decide +kernel
theorem dX5_takeSet_46 : decode cX5_takeSet 46 = .ok (.iconst 0, 1) := by decide +kernel
theorem dX5_takeSet_47 : decode cX5_takeSet 47 = .ok (.iload 4, 2) := by decide +kernel
theorem dX5_takeSet_49 : decode cX5_takeSet 49 = .ok (.invokevirtual 67, 3) := by decide +kernel
theorem dX5_takeSet_52 : decode cX5_takeSet 52 = .ok (.istore 6, 2) := by decide +kernel
theorem dX5_takeSet_54 : decode cX5_takeSet 54 = .ok (.iload 5, 2) := by decide +kernel
theorem dX5_takeSet_56 : decode cX5_takeSet 56 = .ok (.iload 6, 2) := by decide +kernel
theorem dX5_takeSet_58 : decode cX5_takeSet 58 = .ok (.if_icmp .ne 13, 3) := by decide +kernel
theorem dX5_takeSet_61 : decode cX5_takeSet 61 = .ok (.aload_n 0, 1) := by decide +kernel
theorem dX5_takeSet_62 : decode cX5_takeSet 62 = .ok (.dup, 1) := by decide +kernel
theorem dX5_takeSet_63 : decode cX5_takeSet 63 = .ok (.getfield 71, 3) := by decide +kernel
theorem dX5_takeSet_66 : decode cX5_takeSet 66 = .ok (.iconst 1, 1) := by decide +kernel
theorem dX5_takeSet_67 : decode cX5_takeSet 67 = .ok (.iadd, 1) := by decide +kernel
theorem dX5_takeSet_68 : decode cX5_takeSet 68 = .ok (.putfield 71, 3) := by decide +kernel
theorem dX5_takeSet_71 : decode cX5_takeSet 71 = .ok (.iload_n 3, 1) := by decide +kernel
theorem dX5_takeSet_72 : decode cX5_takeSet 72 = .ok (.iconst (-1), 1) := by decide +kernel
theorem dX5_takeSet_73 : decode cX5_takeSet 73 = .ok (.if_icmp .ne 17, 3) := by decide +kernel
theorem dX5_takeSet_76 : decode cX5_takeSet 76 = .ok (.iload 4, 2) := by decide +kernel
theorem dX5_takeSet_78 : decode cX5_takeSet 78 = .ok (.iconst (-1), 1) := by decide +kernel
theorem dX5_takeSet_79 : decode cX5_takeSet 79 = .ok (.if_icmp .ne 11, 3) := by decide +kernel
theorem dX5_takeSet_82 : decode cX5_takeSet 82 = .ok (.aload_n 0, 1) := by decide +kernel
theorem dX5_takeSet_83 : decode cX5_takeSet 83 = .ok (.iload_n 1, 1) := by decide +kernel
theorem dX5_takeSet_84 : decode cX5_takeSet 84 = .ok (.invokevirtual 59, 3) := by decide +kernel
theorem dX5_takeSet_87 : decode cX5_takeSet 87 = .ok (.goto 104, 3) := by decide +kernel
theorem dX5_takeSet_90 : decode cX5_takeSet 90 = .ok (.iload 5, 2) := by decide +kernel
theorem dX5_takeSet_92 : decode cX5_takeSet 92 = .ok (.iload 6, 2) := by decide +kernel
theorem dX5_takeSet_94 : decode cX5_takeSet 94 = .ok (.if_icmp .lt 37, 3) := by decide +kernel
theorem dX5_takeSet_97 : decode cX5_takeSet 97 = .ok (.aload_n 0, 1) := by decide +kernel
theorem dX5_takeSet_98 : decode cX5_takeSet 98 = .ok (.iload_n 1, 1) := by decide +kernel
theorem dX5_takeSet_99 : decode cX5_takeSet 99 = .ok (.iconst 1, 1) := by decide +kernel
theorem dX5_takeSet_100 : decode cX5_takeSet 100 = .ok (.iload_n 3, 1) := by decide +kernel
theorem dX5_takeSet_101 : decode cX5_takeSet 101 = .ok (.invokevirtual 74, 3) := by decide +kernel
theorem dX5_takeSet_104 : decode cX5_takeSet 104 = .ok (.istore 7, 2) := by decide +kernel
theorem dX5_takeSet_106 : decode cX5_takeSet 106 = .ok (.aload_n 0, 1) := by decide +kernel
theorem dX5_takeSet_107 : decode cX5_takeSet 107 = .ok (.iload 7, 2) := by decide +kernel
theorem dX5_takeSet_109 : decode cX5_takeSet 109 = .ok (.iload_n 2, 1) := by decide +kernel
theorem dX5_takeSet_110 : decode cX5_takeSet 110 = .ok (.iconst 1, 1) := by decide +kernel
theorem dX5_takeSet_111 : decode cX5_takeSet 111 = .ok (.iadd, 1) := by decide +kernel
theorem dX5_takeSet_112 : decode cX5_takeSet 112 = .ok (.invokestatic 38, 3) := by decide +kernel
theorem dX5_takeSet_115 : decode cX5_takeSet 115 = .ok (.aload_n 0, 1) := by decide +kernel
theorem dX5_takeSet_116 : decode cX5_takeSet 116 = .ok (.iload_n 1, 1) := by decide +kernel
theorem dX5_takeSet_117 : decode cX5_takeSet 117 = .ok (.iload 7, 2) := by decide +kernel
theorem dX5_takeSet_119 : decode cX5_takeSet 119 = .ok (.iconst (-1), 1) := by decide +kernel
theorem dX5_takeSet_120 : decode cX5_takeSet 120 = .ok (.ixor, 1) := by decide +kernel
theorem dX5_takeSet_121 : decode cX5_takeSet 121 = .ok (.iand, 1) := by decide +kernel
theorem dX5_takeSet_122 : decode cX5_takeSet 122 = .ok (.iload_n 2, 1) := by decide +kernel
theorem dX5_takeSet_123 : decode cX5_takeSet 123 = .ok (.iconst 1, 1) := by decide +kernel
theorem dX5_takeSet_124 : decode cX5_takeSet 124 = .ok (.iadd, 1) := by decide +kernel
theorem dX5_takeSet_125 : decode cX5_takeSet 125 = .ok (.invokestatic 38, 3) := by decide +kernel
theorem dX5_takeSet_128 : decode cX5_takeSet 128 = .ok (.goto 63, 3) := by decide +kernel
theorem dX5_takeSet_131 : decode cX5_takeSet 131 = .ok (.aload_n 0, 1) := by decide +kernel
theorem dX5_takeSet_132 : decode cX5_takeSet 132 = .ok (.iload_n 1, 1) := by decide +kernel
theorem dX5_takeSet_133 : decode cX5_takeSet 133 = .ok (.iconst 0, 1) := by decide +kernel
theorem dX5_takeSet_134 : decode cX5_takeSet 134 = .ok (.iload 4, 2) := by decide +kernel
theorem dX5_takeSet_136 : decode cX5_takeSet 136 = .ok (.invokevirtual 74, 3) := by decide +kernel
theorem dX5_takeSet_139 : decode cX5_takeSet 139 = .ok (.istore 7, 2) := by decide +kernel
theorem dX5_takeSet_141 : decode cX5_takeSet 141 = .ok (.aload_n 0, 1) := by decide +kernel
theorem dX5_takeSet_142 : decode cX5_takeSet 142 = .ok (.aload_n 0, 1) := by decide +kernel
theorem dX5_takeSet_143 : decode cX5_takeSet 143 = .ok (.getfield 19, 3) := by decide +kernel
theorem dX5_takeSet_146 : decode cX5_takeSet 146 = .ok (.ifCond .eq 12, 3) := by decide +kernel
theorem dX5_takeSet_149 : decode cX5_takeSet 149 = .ok (.iload_n 1, 1) := by decide +kernel
theorem dX5_takeSet_150 : decode cX5_takeSet 150 = .ok (.iload 7, 2) := by decide +kernel
theorem dX5_takeSet_152 : decode cX5_takeSet 152 = .ok (.iconst (-1), 1) := by decide +kernel
theorem dX5_takeSet_153 : decode cX5_takeSet 153 = .ok (.ixor, 1) := by decide +kernel
theorem dX5_takeSet_154 : decode cX5_takeSet 154 = .ok (.iand, 1) := by decide +kernel
theorem dX5_takeSet_155 : decode cX5_takeSet 155 = .ok (.goto 5, 3) := by decide +kernel
theorem dX5_takeSet_158 : decode cX5_takeSet 158 = .ok (.iload 7, 2) := by decide +kernel
theorem dX5_takeSet_160 : decode cX5_takeSet 160 = .ok (.iload_n 2, 1) := by decide +kernel
theorem dX5_takeSet_161 : decode cX5_takeSet 161 = .ok (.iconst 1, 1) := by decide +kernel
theorem dX5_takeSet_162 : decode cX5_takeSet 162 = .ok (.iadd, 1) := by decide +kernel
theorem dX5_takeSet_163 : decode cX5_takeSet 163 = .ok (.invokestatic 38, 3) := by decide +kernel
theorem dX5_takeSet_166 : decode cX5_takeSet 166 = .ok (.aload_n 0, 1) := by decide +kernel
theorem dX5_takeSet_167 : decode cX5_takeSet 167 = .ok (.aload_n 0, 1) := by decide +kernel
theorem dX5_takeSet_168 : decode cX5_takeSet 168 = .ok (.getfield 19, 3) := by decide +kernel
theorem dX5_takeSet_171 : decode cX5_takeSet 171 = .ok (.ifCond .eq 8, 3) := by decide +kernel
theorem dX5_takeSet_174 : decode cX5_takeSet 174 = .ok (.iload 7, 2) := by decide +kernel
theorem dX5_takeSet_176 : decode cX5_takeSet 176 = .ok (.goto 9, 3) := by decide +kernel
theorem dX5_takeSet_179 : decode cX5_takeSet 179 = .ok (.iload_n 1, 1) := by decide +kernel
theorem dX5_takeSet_180 : decode cX5_takeSet 180 = .ok (.iload 7, 2) := by decide +kernel
theorem dX5_takeSet_182 : decode cX5_takeSet 182 = .ok (.iconst (-1), 1) := by decide +kernel
theorem dX5_takeSet_183 : decode cX5_takeSet 183 = .ok (.ixor, 1) := by decide +kernel
theorem dX5_takeSet_184 : decode cX5_takeSet 184 = .ok (.iand, 1) := by decide +kernel
theorem dX5_takeSet_185 : decode cX5_takeSet 185 = .ok (.iload_n 2, 1) := by decide +kernel
theorem dX5_takeSet_186 : decode cX5_takeSet 186 = .ok (.iconst 1, 1) := by decide +kernel
theorem dX5_takeSet_187 : decode cX5_takeSet 187 = .ok (.iadd, 1) := by decide +kernel
theorem dX5_takeSet_188 : decode cX5_takeSet 188 = .ok (.invokestatic 38, 3) := by decide +kernel
theorem dX5_takeSet_191 : decode cX5_takeSet 191 = .ok (.return_, 1) := by decide +kernel
theorem dX5_takeByNumber_0 : decode cX5_takeByNumber 0 = .ok (.iconst 0, 1) := by decide +kernel
theorem dX5_takeByNumber_1 : decode cX5_takeByNumber 1 = .ok (.istore_n 2, 1) := by decide +kernel
theorem dX5_takeByNumber_2 : decode cX5_takeByNumber 2 = .ok (.iload_n 2, 1) := by decide +kernel
theorem dX5_takeByNumber_3 : decode cX5_takeByNumber 3 = .ok (.aload_n 0, 1) := by decide +kernel
theorem dX5_takeByNumber_4 : decode cX5_takeByNumber 4 = .ok (.getfield 15, 3) := by decide +kernel
theorem dX5_takeByNumber_7 : decode cX5_takeByNumber 7 = .ok (.getfield 77, 3) := by decide +kernel
theorem dX5_takeByNumber_10 : decode cX5_takeByNumber 10 = .ok (.invokevirtual 81, 3) := by decide +kernel
theorem dX5_takeByNumber_13 : decode cX5_takeByNumber 13 = .ok (.if_icmp .ge 49, 3) := by decide +kernel
theorem dX5_takeByNumber_16 : decode cX5_takeByNumber 16 = .ok (.iload_n 1, 1) := by decide +kernel
theorem dX5_takeByNumber_17 : decode cX5_takeByNumber 17 = .ok (.iload_n 2, 1) := by decide +kernel
theorem dX5_takeByNumber_18 : decode cX5_takeByNumber 18 = .ok (.invokestatic 86, 3) := by decide +kernel
theorem dX5_takeByNumber_21 : decode cX5_takeByNumber 21 = .ok (.ifCond .eq 35, 3) := by decide +kernel
theorem dX5_takeByNumber_24 : decode cX5_takeByNumber 24 = .ok (.aload_n 0, 1) := by decide +kernel
theorem dX5_takeByNumber_25 : decode cX5_takeByNumber 25 = .ok (.getfield 42, 3) := by decide +kernel
theorem dX5_takeByNumber_28 : decode cX5_takeByNumber 28 = .ok (.aload_n 0, 1) := by decide +kernel
theorem dX5_takeByNumber_29 : decode cX5_takeByNumber 29 = .ok (.getfield 9, 3) := by decide +kernel
theorem dX5_takeByNumber_32 : decode cX5_takeByNumber 32 = .ok (.arraylength, 1) := by decide +kernel
theorem dX5_takeByNumber_33 : decode cX5_takeByNumber 33 = .ok (.if_icmp .ge 23, 3) := by decide +kernel
theorem dX5_takeByNumber_36 : decode cX5_takeByNumber 36 = .ok (.aload_n 0, 1) := by decide +kernel
theorem dX5_takeByNumber_37 : decode cX5_takeByNumber 37 = .ok (.getfield 9, 3) := by decide +kernel
theorem dX5_takeByNumber_40 : decode cX5_takeByNumber 40 = .ok (.aload_n 0, 1) := by decide +kernel
theorem dX5_takeByNumber_41 : decode cX5_takeByNumber 41 = .ok (.getfield 42, 3) := by decide +kernel
theorem dX5_takeByNumber_44 : decode cX5_takeByNumber 44 = .ok (.iload_n 2, 1) := by decide +kernel
theorem dX5_takeByNumber_45 : decode cX5_takeByNumber 45 = .ok (.iastore, 1) := by decide +kernel
theorem dX5_takeByNumber_46 : decode cX5_takeByNumber 46 = .ok (.aload_n 0, 1) := by decide +kernel
theorem dX5_takeByNumber_47 : decode cX5_takeByNumber 47 = .ok (.dup, 1) := by decide +kernel
theorem dX5_takeByNumber_48 : decode cX5_takeByNumber 48 = .ok (.getfield 42, 3) := by decide +kernel
theorem dX5_takeByNumber_51 : decode cX5_takeByNumber 51 = .ok (.iconst 1, 1) := by decide +kernel
theorem dX5_takeByNumber_52 : decode cX5_takeByNumber 52 = .ok (.iadd, 1) := by decide +kernel
theorem dX5_takeByNumber_53 : decode cX5_takeByNumber 53 = .ok (.putfield 42, 3) := by decide +kernel
theorem dX5_takeByNumber_56 : decode cX5_takeByNumber 56 = .ok (.iinc 2 1, 3) := by decide +kernel
theorem dX5_takeByNumber_59 : decode cX5_takeByNumber 59 = .ok (.goto (-57), 3) := by decide +kernel
theorem dX5_takeByNumber_62 : decode cX5_takeByNumber 62 = .ok (.return_, 1) := by decide +kernel
theorem dX5_widestCut_0 : decode cX5_widestCut 0 = .ok (.aload_n 0, 1) := by decide +kernel
theorem dX5_widestCut_1 : decode cX5_widestCut 1 = .ok (.getfield 19, 3) := by decide +kernel
theorem dX5_widestCut_4 : decode cX5_widestCut 4 = .ok (.ifCond .eq 11, 3) := by decide +kernel
theorem dX5_widestCut_7 : decode cX5_widestCut 7 = .ok (.iload_n 2, 1) := by decide +kernel
theorem dX5_widestCut_8 : decode cX5_widestCut 8 = .ok (.ifCond .ne 7, 3) := by decide +kernel
theorem dX5_widestCut_11 : decode cX5_widestCut 11 = .ok (.iconst 1, 1) := by decide +kernel
theorem dX5_widestCut_12 : decode cX5_widestCut 12 = .ok (.goto 4, 3) := by decide +kernel
theorem dX5_widestCut_15 : decode cX5_widestCut 15 = .ok (.iconst 0, 1) := by decide +kernel
theorem dX5_widestCut_16 : decode cX5_widestCut 16 = .ok (.istore_n 3, 1) := by decide +kernel
theorem dX5_widestCut_17 : decode cX5_widestCut 17 = .ok (.iconst (-1), 1) := by decide +kernel
theorem dX5_widestCut_18 : decode cX5_widestCut 18 = .ok (.istore 4, 2) := by decide +kernel
theorem dX5_widestCut_20 : decode cX5_widestCut 20 = .ok (.iconst (-1), 1) := by decide +kernel
theorem dX5_widestCut_21 : decode cX5_widestCut 21 = .ok (.istore 5, 2) := by decide +kernel
theorem dX5_widestCut_23 : decode cX5_widestCut 23 = .ok (.iconst 0, 1) := by decide +kernel
theorem dX5_widestCut_24 : decode cX5_widestCut 24 = .ok (.istore 6, 2) := by decide +kernel
theorem dX5_widestCut_26 : decode cX5_widestCut 26 = .ok (.iload 6, 2) := by decide +kernel
theorem dX5_widestCut_28 : decode cX5_widestCut 28 = .ok (.aload_n 0, 1) := by decide +kernel
theorem dX5_widestCut_29 : decode cX5_widestCut 29 = .ok (.getfield 15, 3) := by decide +kernel
theorem dX5_widestCut_32 : decode cX5_widestCut 32 = .ok (.getfield 77, 3) := by decide +kernel
theorem dX5_widestCut_35 : decode cX5_widestCut 35 = .ok (.invokevirtual 81, 3) := by decide +kernel
theorem dX5_widestCut_38 : decode cX5_widestCut 38 = .ok (.if_icmp .ge 122, 3) := by decide +kernel
theorem dX5_widestCut_41 : decode cX5_widestCut 41 = .ok (.aload_n 0, 1) := by decide +kernel
theorem dX5_widestCut_42 : decode cX5_widestCut 42 = .ok (.getfield 15, 3) := by decide +kernel
theorem dX5_widestCut_45 : decode cX5_widestCut 45 = .ok (.getfield 77, 3) := by decide +kernel
theorem dX5_widestCut_48 : decode cX5_widestCut 48 = .ok (.iload 6, 2) := by decide +kernel
theorem dX5_widestCut_50 : decode cX5_widestCut 50 = .ok (.invokevirtual 90, 3) := by decide +kernel
theorem dX5_widestCut_53 : decode cX5_widestCut 53 = .ok (.checkcast 94, 3) := by decide +kernel
theorem dX5_widestCut_56 : decode cX5_widestCut 56 = .ok (.getfield 96, 3) := by decide +kernel
theorem dX5_widestCut_59 : decode cX5_widestCut 59 = .ok (.iload_n 2, 1) := by decide +kernel
theorem dX5_widestCut_60 : decode cX5_widestCut 60 = .ok (.invokevirtual 100, 3) := by decide +kernel
theorem dX5_widestCut_63 : decode cX5_widestCut 63 = .ok (.istore 7, 2) := by decide +kernel
theorem dX5_widestCut_65 : decode cX5_widestCut 65 = .ok (.iload_n 1, 1) := by decide +kernel
theorem dX5_widestCut_66 : decode cX5_widestCut 66 = .ok (.iload 6, 2) := by decide +kernel
theorem dX5_widestCut_68 : decode cX5_widestCut 68 = .ok (.invokestatic 86, 3) := by decide +kernel
theorem dX5_widestCut_71 : decode cX5_widestCut 71 = .ok (.ifCond .eq 14, 3) := by decide +kernel
theorem dX5_widestCut_74 : decode cX5_widestCut 74 = .ok (.aload_n 0, 1) := by decide +kernel
theorem dX5_widestCut_75 : decode cX5_widestCut 75 = .ok (.iload_n 1, 1) := by decide +kernel
theorem dX5_widestCut_76 : decode cX5_widestCut 76 = .ok (.iload_n 2, 1) := by decide +kernel
theorem dX5_widestCut_77 : decode cX5_widestCut 77 = .ok (.iload 7, 2) := by decide +kernel
theorem dX5_widestCut_79 : decode cX5_widestCut 79 = .ok (.invokevirtual 67, 3) := by decide +kernel
theorem dX5_widestCut_82 : decode cX5_widestCut 82 = .ok (.goto 4, 3) := by decide +kernel
theorem dX5_widestCut_85 : decode cX5_widestCut 85 = .ok (.iconst (-1), 1) := by decide +kernel
theorem dX5_widestCut_86 : decode cX5_widestCut 86 = .ok (.istore 8, 2) := by decide +kernel
theorem dX5_widestCut_88 : decode cX5_widestCut 88 = .ok (.iload_n 3, 1) := by decide +kernel
theorem dX5_widestCut_89 : decode cX5_widestCut 89 = .ok (.ifCond .eq 18, 3) := by decide +kernel
theorem dX5_widestCut_92 : decode cX5_widestCut 92 = .ok (.iload 7, 2) := by decide +kernel
theorem dX5_widestCut_94 : decode cX5_widestCut 94 = .ok (.iload 4, 2) := by decide +kernel
theorem dX5_widestCut_96 : decode cX5_widestCut 96 = .ok (.if_icmp .le 7, 3) := by decide +kernel
theorem dX5_widestCut_99 : decode cX5_widestCut 99 = .ok (.iconst 1, 1) := by decide +kernel
theorem dX5_widestCut_100 : decode cX5_widestCut 100 = .ok (.goto 19, 3) := by decide +kernel
theorem dX5_widestCut_103 : decode cX5_widestCut 103 = .ok (.iconst 0, 1) := by decide +kernel
theorem dX5_widestCut_104 : decode cX5_widestCut 104 = .ok (.goto 15, 3) := by decide +kernel
theorem dX5_widestCut_107 : decode cX5_widestCut 107 = .ok (.iload 7, 2) := by decide +kernel
theorem dX5_widestCut_109 : decode cX5_widestCut 109 = .ok (.iload 4, 2) := by decide +kernel
theorem dX5_widestCut_111 : decode cX5_widestCut 111 = .ok (.if_icmp .ge 7, 3) := by decide +kernel
theorem dX5_widestCut_114 : decode cX5_widestCut 114 = .ok (.iconst 1, 1) := by decide +kernel
theorem dX5_widestCut_115 : decode cX5_widestCut 115 = .ok (.goto 4, 3) := by decide +kernel
theorem dX5_widestCut_118 : decode cX5_widestCut 118 = .ok (.iconst 0, 1) := by decide +kernel
theorem dX5_widestCut_119 : decode cX5_widestCut 119 = .ok (.istore 9, 2) := by decide +kernel
theorem dX5_widestCut_121 : decode cX5_widestCut 121 = .ok (.iload 8, 2) := by decide +kernel
theorem dX5_widestCut_123 : decode cX5_widestCut 123 = .ok (.iload 5, 2) := by decide +kernel
theorem dX5_widestCut_125 : decode cX5_widestCut 125 = .ok (.if_icmp .gt 21, 3) := by decide +kernel
theorem dX5_widestCut_128 : decode cX5_widestCut 128 = .ok (.iload 8, 2) := by decide +kernel
theorem dX5_widestCut_130 : decode cX5_widestCut 130 = .ok (.iconst (-1), 1) := by decide +kernel
theorem dX5_widestCut_131 : decode cX5_widestCut 131 = .ok (.if_icmp .eq 23, 3) := by decide +kernel
theorem dX5_widestCut_134 : decode cX5_widestCut 134 = .ok (.iload 8, 2) := by decide +kernel
theorem dX5_widestCut_136 : decode cX5_widestCut 136 = .ok (.iload 5, 2) := by decide +kernel
theorem dX5_widestCut_138 : decode cX5_widestCut 138 = .ok (.if_icmp .ne 16, 3) := by decide +kernel
theorem dX5_widestCut_141 : decode cX5_widestCut 141 = .ok (.iload 9, 2) := by decide +kernel
theorem dX5_widestCut_143 : decode cX5_widestCut 143 = .ok (.ifCond .eq 11, 3) := by decide +kernel
theorem dX5_widestCut_146 : decode cX5_widestCut 146 = .ok (.iload 7, 2) := by decide +kernel
theorem dX5_widestCut_148 : decode cX5_widestCut 148 = .ok (.istore 4, 2) := by decide +kernel
theorem dX5_widestCut_150 : decode cX5_widestCut 150 = .ok (.iload 8, 2) := by decide +kernel
theorem dX5_widestCut_152 : decode cX5_widestCut 152 = .ok (.istore 5, 2) := by decide +kernel
theorem dX5_widestCut_154 : decode cX5_widestCut 154 = .ok (.iinc 6 1, 3) := by decide +kernel
theorem dX5_widestCut_157 : decode cX5_widestCut 157 = .ok (.goto (-131), 3) := by decide +kernel
theorem dX5_widestCut_160 : decode cX5_widestCut 160 = .ok (.iload 4, 2) := by decide +kernel
theorem dX5_widestCut_162 : decode cX5_widestCut 162 = .ok (.ireturn, 1) := by decide +kernel
theorem dX5_gutterAt_0 : decode cX5_gutterAt 0 = .ok (.iconst (-1), 1) := by decide +kernel
theorem dX5_gutterAt_1 : decode cX5_gutterAt 1 = .ok (.istore 4, 2) := by decide +kernel
theorem dX5_gutterAt_3 : decode cX5_gutterAt 3 = .ok (.iconst 0, 1) := by decide +kernel
theorem dX5_gutterAt_4 : decode cX5_gutterAt 4 = .ok (.istore 5, 2) := by decide +kernel
theorem dX5_gutterAt_6 : decode cX5_gutterAt 6 = .ok (.iload 5, 2) := by decide +kernel
theorem dX5_gutterAt_8 : decode cX5_gutterAt 8 = .ok (.aload_n 0, 1) := by decide +kernel
theorem dX5_gutterAt_9 : decode cX5_gutterAt 9 = .ok (.getfield 15, 3) := by decide +kernel
theorem dX5_gutterAt_12 : decode cX5_gutterAt 12 = .ok (.getfield 77, 3) := by decide +kernel
theorem dX5_gutterAt_15 : decode cX5_gutterAt 15 = .ok (.invokevirtual 81, 3) := by decide +kernel
theorem dX5_gutterAt_18 : decode cX5_gutterAt 18 = .ok (.if_icmp .ge 89, 3) := by decide +kernel
theorem dX5_gutterAt_21 : decode cX5_gutterAt 21 = .ok (.iload_n 3, 1) := by decide +kernel
theorem dX5_gutterAt_22 : decode cX5_gutterAt 22 = .ok (.iconst (-1), 1) := by decide +kernel
theorem dX5_gutterAt_23 : decode cX5_gutterAt 23 = .ok (.if_icmp .eq 84, 3) := by decide +kernel
theorem dX5_gutterAt_26 : decode cX5_gutterAt 26 = .ok (.aload_n 0, 1) := by decide +kernel
theorem dX5_gutterAt_27 : decode cX5_gutterAt 27 = .ok (.getfield 15, 3) := by decide +kernel
theorem dX5_gutterAt_30 : decode cX5_gutterAt 30 = .ok (.getfield 77, 3) := by decide +kernel
theorem dX5_gutterAt_33 : decode cX5_gutterAt 33 = .ok (.iload 5, 2) := by decide +kernel
theorem dX5_gutterAt_35 : decode cX5_gutterAt 35 = .ok (.invokevirtual 90, 3) := by decide +kernel
theorem dX5_gutterAt_38 : decode cX5_gutterAt 38 = .ok (.checkcast 94, 3) := by decide +kernel
theorem dX5_gutterAt_41 : decode cX5_gutterAt 41 = .ok (.getfield 96, 3) := by decide +kernel
theorem dX5_gutterAt_44 : decode cX5_gutterAt 44 = .ok (.astore 6, 2) := by decide +kernel
theorem dX5_gutterAt_46 : decode cX5_gutterAt 46 = .ok (.aload 6, 2) := by decide +kernel
theorem dX5_gutterAt_48 : decode cX5_gutterAt 48 = .ok (.iload_n 2, 1) := by decide +kernel
theorem dX5_gutterAt_49 : decode cX5_gutterAt 49 = .ok (.invokevirtual 106, 3) := by decide +kernel
theorem dX5_gutterAt_52 : decode cX5_gutterAt 52 = .ok (.istore 7, 2) := by decide +kernel
theorem dX5_gutterAt_54 : decode cX5_gutterAt 54 = .ok (.iload_n 1, 1) := by decide +kernel
theorem dX5_gutterAt_55 : decode cX5_gutterAt 55 = .ok (.iload 5, 2) := by decide +kernel
theorem dX5_gutterAt_57 : decode cX5_gutterAt 57 = .ok (.invokestatic 86, 3) := by decide +kernel
theorem dX5_gutterAt_60 : decode cX5_gutterAt 60 = .ok (.ifCond .eq 41, 3) := by decide +kernel
theorem dX5_gutterAt_63 : decode cX5_gutterAt 63 = .ok (.aload 6, 2) := by decide +kernel
theorem dX5_gutterAt_65 : decode cX5_gutterAt 65 = .ok (.iload_n 2, 1) := by decide +kernel
theorem dX5_gutterAt_66 : decode cX5_gutterAt 66 = .ok (.invokevirtual 100, 3) := by decide +kernel
theorem dX5_gutterAt_69 : decode cX5_gutterAt 69 = .ok (.iload_n 3, 1) := by decide +kernel
theorem dX5_gutterAt_70 : decode cX5_gutterAt 70 = .ok (.if_icmp .le 31, 3) := by decide +kernel
theorem dX5_gutterAt_73 : decode cX5_gutterAt 73 = .ok (.iload 7, 2) := by decide +kernel
theorem dX5_gutterAt_75 : decode cX5_gutterAt 75 = .ok (.iload_n 3, 1) := by decide +kernel
theorem dX5_gutterAt_76 : decode cX5_gutterAt 76 = .ok (.if_icmp .ge 5, 3) := by decide +kernel
theorem dX5_gutterAt_79 : decode cX5_gutterAt 79 = .ok (.iconst (-1), 1) := by decide +kernel
theorem dX5_gutterAt_80 : decode cX5_gutterAt 80 = .ok (.ireturn, 1) := by decide +kernel
theorem dX5_gutterAt_81 : decode cX5_gutterAt 81 = .ok (.iload 4, 2) := by decide +kernel
theorem dX5_gutterAt_83 : decode cX5_gutterAt 83 = .ok (.iconst (-1), 1) := by decide +kernel
theorem dX5_gutterAt_84 : decode cX5_gutterAt 84 = .ok (.if_icmp .ne 8, 3) := by decide +kernel
theorem dX5_gutterAt_87 : decode cX5_gutterAt 87 = .ok (.iload 7, 2) := by decide +kernel
theorem dX5_gutterAt_89 : decode cX5_gutterAt 89 = .ok (.goto 10, 3) := by decide +kernel
theorem dX5_gutterAt_92 : decode cX5_gutterAt 92 = .ok (.iload 4, 2) := by decide +kernel
theorem dX5_gutterAt_94 : decode cX5_gutterAt 94 = .ok (.iload 7, 2) := by decide +kernel
theorem dX5_gutterAt_96 : decode cX5_gutterAt 96 = .ok (.invokestatic 109, 3) := by decide +kernel
theorem dX5_gutterAt_99 : decode cX5_gutterAt 99 = .ok (.istore 4, 2) := by decide +kernel
theorem dX5_gutterAt_101 : decode cX5_gutterAt 101 = .ok (.iinc 5 1, 3) := by decide +kernel
theorem dX5_gutterAt_104 : decode cX5_gutterAt 104 = .ok (.goto (-98), 3) := by decide +kernel
theorem dX5_gutterAt_107 : decode cX5_gutterAt 107 = .ok (.iload 4, 2) := by decide +kernel
theorem dX5_gutterAt_109 : decode cX5_gutterAt 109 = .ok (.iconst (-1), 1) := by decide +kernel
theorem dX5_gutterAt_110 : decode cX5_gutterAt 110 = .ok (.if_icmp .ne 7, 3) := by decide +kernel
theorem dX5_gutterAt_113 : decode cX5_gutterAt 113 = .ok (.iconst (-1), 1) := by decide +kernel
theorem dX5_gutterAt_114 : decode cX5_gutterAt 114 = .ok (.goto 7, 3) := by decide +kernel
theorem dX5_gutterAt_117 : decode cX5_gutterAt 117 = .ok (.iload 4, 2) := by decide +kernel
theorem dX5_gutterAt_119 : decode cX5_gutterAt 119 = .ok (.iload_n 3, 1) := by decide +kernel
theorem dX5_gutterAt_120 : decode cX5_gutterAt 120 = .ok (.isub, 1) := by decide +kernel
theorem dX5_gutterAt_121 : decode cX5_gutterAt 121 = .ok (.ireturn, 1) := by decide +kernel
theorem dX5_endingBy_0 : decode cX5_endingBy 0 = .ok (.iconst 0, 1) := by decide +kernel
theorem dX5_endingBy_1 : decode cX5_endingBy 1 = .ok (.istore 4, 2) := by decide +kernel
theorem dX5_endingBy_3 : decode cX5_endingBy 3 = .ok (.iconst 0, 1) := by decide +kernel
theorem dX5_endingBy_4 : decode cX5_endingBy 4 = .ok (.istore 5, 2) := by decide +kernel
theorem dX5_endingBy_6 : decode cX5_endingBy 6 = .ok (.iload 5, 2) := by decide +kernel
theorem dX5_endingBy_8 : decode cX5_endingBy 8 = .ok (.aload_n 0, 1) := by decide +kernel
theorem dX5_endingBy_9 : decode cX5_endingBy 9 = .ok (.getfield 15, 3) := by decide +kernel
theorem dX5_endingBy_12 : decode cX5_endingBy 12 = .ok (.getfield 77, 3) := by decide +kernel
theorem dX5_endingBy_15 : decode cX5_endingBy 15 = .ok (.invokevirtual 81, 3) := by decide +kernel
theorem dX5_endingBy_18 : decode cX5_endingBy 18 = .ok (.if_icmp .ge 53, 3) := by decide +kernel
theorem dX5_endingBy_21 : decode cX5_endingBy 21 = .ok (.iload_n 1, 1) := by decide +kernel
theorem dX5_endingBy_22 : decode cX5_endingBy 22 = .ok (.iload 5, 2) := by decide +kernel
theorem dX5_endingBy_24 : decode cX5_endingBy 24 = .ok (.invokestatic 86, 3) := by decide +kernel
theorem dX5_endingBy_27 : decode cX5_endingBy 27 = .ok (.ifCond .eq 38, 3) := by decide +kernel
theorem dX5_endingBy_30 : decode cX5_endingBy 30 = .ok (.aload_n 0, 1) := by decide +kernel
theorem dX5_endingBy_31 : decode cX5_endingBy 31 = .ok (.getfield 15, 3) := by decide +kernel
theorem dX5_endingBy_34 : decode cX5_endingBy 34 = .ok (.getfield 77, 3) := by decide +kernel
theorem dX5_endingBy_37 : decode cX5_endingBy 37 = .ok (.iload 5, 2) := by decide +kernel
theorem dX5_endingBy_39 : decode cX5_endingBy 39 = .ok (.invokevirtual 90, 3) := by decide +kernel
theorem dX5_endingBy_42 : decode cX5_endingBy 42 = .ok (.checkcast 94, 3) := by decide +kernel
theorem dX5_endingBy_45 : decode cX5_endingBy 45 = .ok (.getfield 96, 3) := by decide +kernel
theorem dX5_endingBy_48 : decode cX5_endingBy 48 = .ok (.iload_n 2, 1) := by decide +kernel
theorem dX5_endingBy_49 : decode cX5_endingBy 49 = .ok (.invokevirtual 100, 3) := by decide +kernel
theorem dX5_endingBy_52 : decode cX5_endingBy 52 = .ok (.iload_n 3, 1) := by decide +kernel
theorem dX5_endingBy_53 : decode cX5_endingBy 53 = .ok (.if_icmp .gt 12, 3) := by decide +kernel
theorem dX5_endingBy_56 : decode cX5_endingBy 56 = .ok (.iload 4, 2) := by decide +kernel
theorem dX5_endingBy_58 : decode cX5_endingBy 58 = .ok (.iconst 1, 1) := by decide +kernel
theorem dX5_endingBy_59 : decode cX5_endingBy 59 = .ok (.iload 5, 2) := by decide +kernel
theorem dX5_endingBy_61 : decode cX5_endingBy 61 = .ok (.ishl, 1) := by decide +kernel
theorem dX5_endingBy_62 : decode cX5_endingBy 62 = .ok (.ior, 1) := by decide +kernel
theorem dX5_endingBy_63 : decode cX5_endingBy 63 = .ok (.istore 4, 2) := by decide +kernel
theorem dX5_endingBy_65 : decode cX5_endingBy 65 = .ok (.iinc 5 1, 3) := by decide +kernel
theorem dX5_endingBy_68 : decode cX5_endingBy 68 = .ok (.goto (-62), 3) := by decide +kernel
theorem dX5_endingBy_71 : decode cX5_endingBy 71 = .ok (.iload 4, 2) := by decide +kernel
theorem dX5_endingBy_73 : decode cX5_endingBy 73 = .ok (.ireturn, 1) := by decide +kernel
theorem dX6_init_0 : decode cX6_init 0 = .ok (.aload_n 0, 1) := by decide +kernel
theorem dX6_init_1 : decode cX6_init 1 = .ok (.invokespecial 1, 3) := by decide +kernel
theorem dX6_init_4 : decode cX6_init 4 = .ok (.aload_n 0, 1) := by decide +kernel
theorem dX6_init_5 : decode cX6_init 5 = .ok (.aload_n 1, 1) := by decide +kernel
theorem dX6_init_6 : decode cX6_init 6 = .ok (.invokevirtual 7, 3) := by decide +kernel
theorem dX6_init_9 : decode cX6_init 9 = .ok (.putfield 13, 3) := by decide +kernel
theorem dX6_init_12 : decode cX6_init 12 = .ok (.aload_n 0, 1) := by decide +kernel
theorem dX6_init_13 : decode cX6_init 13 = .ok (.aload_n 1, 1) := by decide +kernel
theorem dX6_init_14 : decode cX6_init 14 = .ok (.invokevirtual 19, 3) := by decide +kernel
theorem dX6_init_17 : decode cX6_init 17 = .ok (.putfield 22, 3) := by decide +kernel
theorem dX6_init_20 : decode cX6_init 20 = .ok (.aload_n 0, 1) := by decide +kernel
theorem dX6_init_21 : decode cX6_init 21 = .ok (.aload_n 2, 1) := by decide +kernel
theorem dX6_init_22 : decode cX6_init 22 = .ok (.invokevirtual 7, 3) := by decide +kernel
theorem dX6_init_25 : decode cX6_init 25 = .ok (.putfield 25, 3) := by decide +kernel
theorem dX6_init_28 : decode cX6_init 28 = .ok (.aload_n 0, 1) := by decide +kernel
theorem dX6_init_29 : decode cX6_init 29 = .ok (.aload_n 2, 1) := by decide +kernel
theorem dX6_init_30 : decode cX6_init 30 = .ok (.invokevirtual 19, 3) := by decide +kernel
theorem dX6_init_33 : decode cX6_init 33 = .ok (.putfield 28, 3) := by decide +kernel
theorem dX6_init_36 : decode cX6_init 36 = .ok (.return_, 1) := by decide +kernel
theorem dX6_meets_0 : decode cX6_meets 0 = .ok (.aload_n 0, 1) := by decide +kernel
theorem dX6_meets_1 : decode cX6_meets 1 = .ok (.getfield 13, 3) := by decide +kernel
theorem dX6_meets_4 : decode cX6_meets 4 = .ok (.aload_n 0, 1) := by decide +kernel
theorem dX6_meets_5 : decode cX6_meets 5 = .ok (.getfield 25, 3) := by decide +kernel
theorem dX6_meets_8 : decode cX6_meets 8 = .ok (.aload_n 1, 1) := by decide +kernel
theorem dX6_meets_9 : decode cX6_meets 9 = .ok (.getfield 13, 3) := by decide +kernel
theorem dX6_meets_12 : decode cX6_meets 12 = .ok (.aload_n 1, 1) := by decide +kernel
theorem dX6_meets_13 : decode cX6_meets 13 = .ok (.getfield 25, 3) := by decide +kernel
theorem dX6_meets_16 : decode cX6_meets 16 = .ok (.invokestatic 31, 3) := by decide +kernel
theorem dX6_meets_19 : decode cX6_meets 19 = .ok (.ifCond .eq 85, 3) := by decide +kernel
theorem dX6_meets_22 : decode cX6_meets 22 = .ok (.aload_n 0, 1) := by decide +kernel
theorem dX6_meets_23 : decode cX6_meets 23 = .ok (.getfield 22, 3) := by decide +kernel
theorem dX6_meets_26 : decode cX6_meets 26 = .ok (.aload_n 0, 1) := by decide +kernel
theorem dX6_meets_27 : decode cX6_meets 27 = .ok (.getfield 28, 3) := by decide +kernel
theorem dX6_meets_30 : decode cX6_meets 30 = .ok (.aload_n 1, 1) := by decide +kernel
theorem dX6_meets_31 : decode cX6_meets 31 = .ok (.getfield 22, 3) := by decide +kernel
theorem dX6_meets_34 : decode cX6_meets 34 = .ok (.aload_n 1, 1) := by decide +kernel
theorem dX6_meets_35 : decode cX6_meets 35 = .ok (.getfield 28, 3) := by decide +kernel
theorem dX6_meets_38 : decode cX6_meets 38 = .ok (.invokestatic 31, 3) := by decide +kernel
theorem dX6_meets_41 : decode cX6_meets 41 = .ok (.ifCond .eq 63, 3) := by decide +kernel
theorem dX6_meets_44 : decode cX6_meets 44 = .ok (.aload_n 0, 1) := by decide +kernel
theorem dX6_meets_45 : decode cX6_meets 45 = .ok (.aload_n 1, 1) := by decide +kernel
theorem dX6_meets_46 : decode cX6_meets 46 = .ok (.getfield 13, 3) := by decide +kernel
theorem dX6_meets_49 : decode cX6_meets 49 = .ok (.aload_n 1, 1) := by decide +kernel
theorem dX6_meets_50 : decode cX6_meets 50 = .ok (.getfield 22, 3) := by decide +kernel
theorem dX6_meets_53 : decode cX6_meets 53 = .ok (.invokevirtual 35, 3) := by decide +kernel
theorem dX6_meets_56 : decode cX6_meets 56 = .ok (.aload_n 0, 1) := by decide +kernel
theorem dX6_meets_57 : decode cX6_meets 57 = .ok (.aload_n 1, 1) := by decide +kernel
theorem dX6_meets_58 : decode cX6_meets 58 = .ok (.getfield 25, 3) := by decide +kernel
theorem dX6_meets_61 : decode cX6_meets 61 = .ok (.aload_n 1, 1) := by decide +kernel
theorem dX6_meets_62 : decode cX6_meets 62 = .ok (.getfield 28, 3) := by decide +kernel
theorem dX6_meets_65 : decode cX6_meets 65 = .ok (.invokevirtual 35, 3) := by decide +kernel
theorem dX6_meets_68 : decode cX6_meets 68 = .ok (.imul, 1) := by decide +kernel
theorem dX6_meets_69 : decode cX6_meets 69 = .ok (.ifCond .gt 35, 3) := by decide +kernel
theorem dX6_meets_72 : decode cX6_meets 72 = .ok (.aload_n 1, 1) := by decide +kernel
theorem dX6_meets_73 : decode cX6_meets 73 = .ok (.aload_n 0, 1) := by decide +kernel
theorem dX6_meets_74 : decode cX6_meets 74 = .ok (.getfield 13, 3) := by decide +kernel
theorem dX6_meets_77 : decode cX6_meets 77 = .ok (.aload_n 0, 1) := by decide +kernel
theorem dX6_meets_78 : decode cX6_meets 78 = .ok (.getfield 22, 3) := by decide +kernel
theorem dX6_meets_81 : decode cX6_meets 81 = .ok (.invokevirtual 35, 3) := by decide +kernel
theorem dX6_meets_84 : decode cX6_meets 84 = .ok (.aload_n 1, 1) := by decide +kernel
theorem dX6_meets_85 : decode cX6_meets 85 = .ok (.aload_n 0, 1) := by decide +kernel
theorem dX6_meets_86 : decode cX6_meets 86 = .ok (.getfield 25, 3) := by decide +kernel
theorem dX6_meets_89 : decode cX6_meets 89 = .ok (.aload_n 0, 1) := by decide +kernel
theorem dX6_meets_90 : decode cX6_meets 90 = .ok (.getfield 28, 3) := by decide +kernel
theorem dX6_meets_93 : decode cX6_meets 93 = .ok (.invokevirtual 35, 3) := by decide +kernel
theorem dX6_meets_96 : decode cX6_meets 96 = .ok (.imul, 1) := by decide +kernel
theorem dX6_meets_97 : decode cX6_meets 97 = .ok (.ifCond .gt 7, 3) := by decide +kernel
theorem dX6_meets_100 : decode cX6_meets 100 = .ok (.iconst 1, 1) := by decide +kernel
theorem dX6_meets_101 : decode cX6_meets 101 = .ok (.goto 4, 3) := by decide +kernel
theorem dX6_meets_104 : decode cX6_meets 104 = .ok (.iconst 0, 1) := by decide +kernel
theorem dX6_meets_105 : decode cX6_meets 105 = .ok (.ireturn, 1) := by decide +kernel
theorem dX6_runsAlong_0 : decode cX6_runsAlong 0 = .ok (.aload_n 0, 1) := by decide +kernel
theorem dX6_runsAlong_1 : decode cX6_runsAlong 1 = .ok (.getfield 13, 3) := by decide +kernel
theorem dX6_runsAlong_4 : decode cX6_runsAlong 4 = .ok (.aload_n 0, 1) := by decide +kernel
theorem dX6_runsAlong_5 : decode cX6_runsAlong 5 = .ok (.getfield 25, 3) := by decide +kernel
theorem dX6_runsAlong_8 : decode cX6_runsAlong 8 = .ok (.isub, 1) := by decide +kernel
theorem dX6_runsAlong_9 : decode cX6_runsAlong 9 = .ok (.aload_n 1, 1) := by decide +kernel
theorem dX6_runsAlong_10 : decode cX6_runsAlong 10 = .ok (.getfield 13, 3) := by decide +kernel
theorem dX6_runsAlong_13 : decode cX6_runsAlong 13 = .ok (.aload_n 1, 1) := by decide +kernel
theorem dX6_runsAlong_14 : decode cX6_runsAlong 14 = .ok (.getfield 25, 3) := by decide +kernel
theorem dX6_runsAlong_17 : decode cX6_runsAlong 17 = .ok (.isub, 1) := by decide +kernel
theorem dX6_runsAlong_18 : decode cX6_runsAlong 18 = .ok (.imul, 1) := by decide +kernel
theorem dX6_runsAlong_19 : decode cX6_runsAlong 19 = .ok (.aload_n 0, 1) := by decide +kernel
theorem dX6_runsAlong_20 : decode cX6_runsAlong 20 = .ok (.getfield 22, 3) := by decide +kernel
theorem dX6_runsAlong_23 : decode cX6_runsAlong 23 = .ok (.aload_n 0, 1) := by decide +kernel
theorem dX6_runsAlong_24 : decode cX6_runsAlong 24 = .ok (.getfield 28, 3) := by decide +kernel
theorem dX6_runsAlong_27 : decode cX6_runsAlong 27 = .ok (.isub, 1) := by decide +kernel
theorem dX6_runsAlong_28 : decode cX6_runsAlong 28 = .ok (.aload_n 1, 1) := by decide +kernel
theorem dX6_runsAlong_29 : decode cX6_runsAlong 29 = .ok (.getfield 22, 3) := by decide +kernel
theorem dX6_runsAlong_32 : decode cX6_runsAlong 32 = .ok (.aload_n 1, 1) := by decide +kernel
theorem dX6_runsAlong_33 : decode cX6_runsAlong 33 = .ok (.getfield 28, 3) := by decide +kernel
theorem dX6_runsAlong_36 : decode cX6_runsAlong 36 = .ok (.isub, 1) := by decide +kernel
theorem dX6_runsAlong_37 : decode cX6_runsAlong 37 = .ok (.imul, 1) := by decide +kernel
theorem dX6_runsAlong_38 : decode cX6_runsAlong 38 = .ok (.iadd, 1) := by decide +kernel
theorem dX6_runsAlong_39 : decode cX6_runsAlong 39 = .ok (.istore_n 2, 1) := by decide +kernel
theorem dX6_runsAlong_40 : decode cX6_runsAlong 40 = .ok (.iload_n 2, 1) := by decide +kernel
theorem dX6_runsAlong_41 : decode cX6_runsAlong 41 = .ok (.ifCond .le 22, 3) := by decide +kernel
theorem dX6_runsAlong_44 : decode cX6_runsAlong 44 = .ok (.aload_n 0, 1) := by decide +kernel
theorem dX6_runsAlong_45 : decode cX6_runsAlong 45 = .ok (.aload_n 1, 1) := by decide +kernel
theorem dX6_runsAlong_46 : decode cX6_runsAlong 46 = .ok (.getfield 13, 3) := by decide +kernel
theorem dX6_runsAlong_49 : decode cX6_runsAlong 49 = .ok (.aload_n 1, 1) := by decide +kernel
theorem dX6_runsAlong_50 : decode cX6_runsAlong 50 = .ok (.getfield 22, 3) := by decide +kernel
theorem dX6_runsAlong_53 : decode cX6_runsAlong 53 = .ok (.invokevirtual 35, 3) := by decide +kernel
theorem dX6_runsAlong_56 : decode cX6_runsAlong 56 = .ok (.ifCond .ne 7, 3) := by decide +kernel
theorem dX6_runsAlong_59 : decode cX6_runsAlong 59 = .ok (.iconst 1, 1) := by decide +kernel
theorem dX6_runsAlong_60 : decode cX6_runsAlong 60 = .ok (.goto 4, 3) := by decide +kernel
theorem dX6_runsAlong_63 : decode cX6_runsAlong 63 = .ok (.iconst 0, 1) := by decide +kernel
theorem dX6_runsAlong_64 : decode cX6_runsAlong 64 = .ok (.ireturn, 1) := by decide +kernel
theorem dX6_touches_0 : decode cX6_touches 0 = .ok (.aload_n 0, 1) := by decide +kernel
theorem dX6_touches_1 : decode cX6_touches 1 = .ok (.aload_n 1, 1) := by decide +kernel
theorem dX6_touches_2 : decode cX6_touches 2 = .ok (.getfield 39, 3) := by decide +kernel
theorem dX6_touches_5 : decode cX6_touches 5 = .ok (.aload_n 1, 1) := by decide +kernel
theorem dX6_touches_6 : decode cX6_touches 6 = .ok (.getfield 42, 3) := by decide +kernel
theorem dX6_touches_9 : decode cX6_touches 9 = .ok (.invokevirtual 35, 3) := by decide +kernel
theorem dX6_touches_12 : decode cX6_touches 12 = .ok (.aload_n 0, 1) := by decide +kernel
theorem dX6_touches_13 : decode cX6_touches 13 = .ok (.aload_n 1, 1) := by decide +kernel
theorem dX6_touches_14 : decode cX6_touches 14 = .ok (.invokevirtual 45, 3) := by decide +kernel
theorem dX6_touches_17 : decode cX6_touches 17 = .ok (.aload_n 1, 1) := by decide +kernel
theorem dX6_touches_18 : decode cX6_touches 18 = .ok (.getfield 42, 3) := by decide +kernel
theorem dX6_touches_21 : decode cX6_touches 21 = .ok (.invokevirtual 35, 3) := by decide +kernel
theorem dX6_touches_24 : decode cX6_touches 24 = .ok (.iadd, 1) := by decide +kernel
theorem dX6_touches_25 : decode cX6_touches 25 = .ok (.aload_n 0, 1) := by decide +kernel
theorem dX6_touches_26 : decode cX6_touches 26 = .ok (.aload_n 1, 1) := by decide +kernel
theorem dX6_touches_27 : decode cX6_touches 27 = .ok (.getfield 39, 3) := by decide +kernel
theorem dX6_touches_30 : decode cX6_touches 30 = .ok (.aload_n 1, 1) := by decide +kernel
theorem dX6_touches_31 : decode cX6_touches 31 = .ok (.invokevirtual 48, 3) := by decide +kernel
theorem dX6_touches_34 : decode cX6_touches 34 = .ok (.invokevirtual 35, 3) := by decide +kernel
theorem dX6_touches_37 : decode cX6_touches 37 = .ok (.iadd, 1) := by decide +kernel
theorem dX6_touches_38 : decode cX6_touches 38 = .ok (.aload_n 0, 1) := by decide +kernel
theorem dX6_touches_39 : decode cX6_touches 39 = .ok (.aload_n 1, 1) := by decide +kernel
theorem dX6_touches_40 : decode cX6_touches 40 = .ok (.invokevirtual 45, 3) := by decide +kernel
theorem dX6_touches_43 : decode cX6_touches 43 = .ok (.aload_n 1, 1) := by decide +kernel
theorem dX6_touches_44 : decode cX6_touches 44 = .ok (.invokevirtual 48, 3) := by decide +kernel
theorem dX6_touches_47 : decode cX6_touches 47 = .ok (.invokevirtual 35, 3) := by decide +kernel
theorem dX6_touches_50 : decode cX6_touches 50 = .ok (.iadd, 1) := by decide +kernel
theorem dX6_touches_51 : decode cX6_touches 51 = .ok (.istore_n 2, 1) := by decide +kernel
theorem dX6_touches_52 : decode cX6_touches 52 = .ok (.iload_n 2, 1) := by decide +kernel
theorem dX6_touches_53 : decode cX6_touches 53 = .ok (.iconst 4, 1) := by decide +kernel
theorem dX6_touches_54 : decode cX6_touches 54 = .ok (.if_icmp .eq 9, 3) := by decide +kernel
theorem dX6_touches_57 : decode cX6_touches 57 = .ok (.iload_n 2, 1) := by decide +kernel
theorem dX6_touches_58 : decode cX6_touches 58 = .ok (.bipush (-4), 2) := by decide +kernel
theorem dX6_touches_60 : decode cX6_touches 60 = .ok (.if_icmp .ne 7, 3) := by decide +kernel
theorem dX6_touches_63 : decode cX6_touches 63 = .ok (.iconst 1, 1) := by decide +kernel
theorem dX6_touches_64 : decode cX6_touches 64 = .ok (.goto 4, 3) := by decide +kernel
theorem dX6_touches_67 : decode cX6_touches 67 = .ok (.iconst 0, 1) := by decide +kernel
theorem dX6_touches_68 : decode cX6_touches 68 = .ok (.istore_n 3, 1) := by decide +kernel
theorem dX6_touches_69 : decode cX6_touches 69 = .ok (.iload_n 3, 1) := by decide +kernel
theorem dX6_touches_70 : decode cX6_touches 70 = .ok (.ifCond .ne 51, 3) := by decide +kernel
theorem dX6_touches_73 : decode cX6_touches 73 = .ok (.aload_n 0, 1) := by decide +kernel
theorem dX6_touches_74 : decode cX6_touches 74 = .ok (.getfield 13, 3) := by decide +kernel
theorem dX6_touches_77 : decode cX6_touches 77 = .ok (.aload_n 0, 1) := by decide +kernel
theorem dX6_touches_78 : decode cX6_touches 78 = .ok (.getfield 25, 3) := by decide +kernel
theorem dX6_touches_81 : decode cX6_touches 81 = .ok (.aload_n 1, 1) := by decide +kernel
theorem dX6_touches_82 : decode cX6_touches 82 = .ok (.getfield 39, 3) := by decide +kernel
theorem dX6_touches_85 : decode cX6_touches 85 = .ok (.aload_n 1, 1) := by decide +kernel
theorem dX6_touches_86 : decode cX6_touches 86 = .ok (.invokevirtual 45, 3) := by decide +kernel
theorem dX6_touches_89 : decode cX6_touches 89 = .ok (.invokestatic 31, 3) := by decide +kernel
theorem dX6_touches_92 : decode cX6_touches 92 = .ok (.ifCond .eq 29, 3) := by decide +kernel
theorem dX6_touches_95 : decode cX6_touches 95 = .ok (.aload_n 0, 1) := by decide +kernel
theorem dX6_touches_96 : decode cX6_touches 96 = .ok (.getfield 22, 3) := by decide +kernel
theorem dX6_touches_99 : decode cX6_touches 99 = .ok (.aload_n 0, 1) := by decide +kernel
theorem dX6_touches_100 : decode cX6_touches 100 = .ok (.getfield 28, 3) := by decide +kernel
theorem dX6_touches_103 : decode cX6_touches 103 = .ok (.aload_n 1, 1) := by decide +kernel
theorem dX6_touches_104 : decode cX6_touches 104 = .ok (.getfield 42, 3) := by decide +kernel
theorem dX6_touches_107 : decode cX6_touches 107 = .ok (.aload_n 1, 1) := by decide +kernel
theorem dX6_touches_108 : decode cX6_touches 108 = .ok (.invokevirtual 48, 3) := by decide +kernel
theorem dX6_touches_111 : decode cX6_touches 111 = .ok (.invokestatic 31, 3) := by decide +kernel
theorem dX6_touches_114 : decode cX6_touches 114 = .ok (.ifCond .eq 7, 3) := by decide +kernel
theorem dX6_touches_117 : decode cX6_touches 117 = .ok (.iconst 1, 1) := by decide +kernel
theorem dX6_touches_118 : decode cX6_touches 118 = .ok (.goto 4, 3) := by decide +kernel
theorem dX6_touches_121 : decode cX6_touches 121 = .ok (.iconst 0, 1) := by decide +kernel
theorem dX6_touches_122 : decode cX6_touches 122 = .ok (.ireturn, 1) := by decide +kernel
theorem dX6_sideOf_0 : decode cX6_sideOf 0 = .ok (.aload_n 0, 1) := by decide +kernel
theorem dX6_sideOf_1 : decode cX6_sideOf 1 = .ok (.getfield 25, 3) := by decide +kernel
theorem dX6_sideOf_4 : decode cX6_sideOf 4 = .ok (.aload_n 0, 1) := by decide +kernel
theorem dX6_sideOf_5 : decode cX6_sideOf 5 = .ok (.getfield 13, 3) := by decide +kernel
theorem dX6_sideOf_8 : decode cX6_sideOf 8 = .ok (.isub, 1) := by decide +kernel
theorem dX6_sideOf_9 : decode cX6_sideOf 9 = .ok (.iload_n 2, 1) := by decide +kernel
theorem dX6_sideOf_10 : decode cX6_sideOf 10 = .ok (.aload_n 0, 1) := by decide +kernel
theorem dX6_sideOf_11 : decode cX6_sideOf 11 = .ok (.getfield 22, 3) := by decide +kernel
theorem dX6_sideOf_14 : decode cX6_sideOf 14 = .ok (.isub, 1) := by decide +kernel
theorem dX6_sideOf_15 : decode cX6_sideOf 15 = .ok (.imul, 1) := by decide +kernel
theorem dX6_sideOf_16 : decode cX6_sideOf 16 = .ok (.aload_n 0, 1) := by decide +kernel
theorem dX6_sideOf_17 : decode cX6_sideOf 17 = .ok (.getfield 28, 3) := by decide +kernel
theorem dX6_sideOf_20 : decode cX6_sideOf 20 = .ok (.aload_n 0, 1) := by decide +kernel
theorem dX6_sideOf_21 : decode cX6_sideOf 21 = .ok (.getfield 22, 3) := by decide +kernel
theorem dX6_sideOf_24 : decode cX6_sideOf 24 = .ok (.isub, 1) := by decide +kernel
theorem dX6_sideOf_25 : decode cX6_sideOf 25 = .ok (.iload_n 1, 1) := by decide +kernel
theorem dX6_sideOf_26 : decode cX6_sideOf 26 = .ok (.aload_n 0, 1) := by decide +kernel
theorem dX6_sideOf_27 : decode cX6_sideOf 27 = .ok (.getfield 13, 3) := by decide +kernel
theorem dX6_sideOf_30 : decode cX6_sideOf 30 = .ok (.isub, 1) := by decide +kernel
theorem dX6_sideOf_31 : decode cX6_sideOf 31 = .ok (.imul, 1) := by decide +kernel
theorem dX6_sideOf_32 : decode cX6_sideOf 32 = .ok (.invokestatic 51, 3) := by decide +kernel
theorem dX6_sideOf_35 : decode cX6_sideOf 35 = .ok (.ireturn, 1) := by decide +kernel
theorem dX6_isSpanMet_0 : decode cX6_isSpanMet 0 = .ok (.iload_n 0, 1) := by decide +kernel
theorem dX6_isSpanMet_1 : decode cX6_isSpanMet 1 = .ok (.iload_n 1, 1) := by decide +kernel
theorem dX6_isSpanMet_2 : decode cX6_isSpanMet 2 = .ok (.invokestatic 56, 3) := by decide +kernel
theorem dX6_isSpanMet_5 : decode cX6_isSpanMet 5 = .ok (.iload_n 2, 1) := by decide +kernel
theorem dX6_isSpanMet_6 : decode cX6_isSpanMet 6 = .ok (.iload_n 3, 1) := by decide +kernel
theorem dX6_isSpanMet_7 : decode cX6_isSpanMet 7 = .ok (.invokestatic 61, 3) := by decide +kernel
theorem dX6_isSpanMet_10 : decode cX6_isSpanMet 10 = .ok (.if_icmp .gt 20, 3) := by decide +kernel
theorem dX6_isSpanMet_13 : decode cX6_isSpanMet 13 = .ok (.iload_n 2, 1) := by decide +kernel
theorem dX6_isSpanMet_14 : decode cX6_isSpanMet 14 = .ok (.iload_n 3, 1) := by decide +kernel
theorem dX6_isSpanMet_15 : decode cX6_isSpanMet 15 = .ok (.invokestatic 56, 3) := by decide +kernel
theorem dX6_isSpanMet_18 : decode cX6_isSpanMet 18 = .ok (.iload_n 0, 1) := by decide +kernel
theorem dX6_isSpanMet_19 : decode cX6_isSpanMet 19 = .ok (.iload_n 1, 1) := by decide +kernel
theorem dX6_isSpanMet_20 : decode cX6_isSpanMet 20 = .ok (.invokestatic 61, 3) := by decide +kernel
theorem dX6_isSpanMet_23 : decode cX6_isSpanMet 23 = .ok (.if_icmp .gt 7, 3) := by decide +kernel
theorem dX6_isSpanMet_26 : decode cX6_isSpanMet 26 = .ok (.iconst 1, 1) := by decide +kernel
theorem dX6_isSpanMet_27 : decode cX6_isSpanMet 27 = .ok (.goto 4, 3) := by decide +kernel
theorem dX6_isSpanMet_30 : decode cX6_isSpanMet 30 = .ok (.iconst 0, 1) := by decide +kernel
theorem dX6_isSpanMet_31 : decode cX6_isSpanMet 31 = .ok (.ireturn, 1) := by decide +kernel
theorem dX7_init_0 : decode cX7_init 0 = .ok (.aload_n 0, 1) := by decide +kernel
theorem dX7_init_1 : decode cX7_init 1 = .ok (.invokespecial 1, 3) := by decide +kernel
theorem dX7_init_4 : decode cX7_init 4 = .ok (.aload_n 0, 1) := by decide +kernel
theorem dX7_init_5 : decode cX7_init 5 = .ok (.iload_n 1, 1) := by decide +kernel
theorem dX7_init_6 : decode cX7_init 6 = .ok (.putfield 7, 3) := by decide +kernel
theorem dX7_init_9 : decode cX7_init 9 = .ok (.aload_n 0, 1) := by decide +kernel
theorem dX7_init_10 : decode cX7_init 10 = .ok (.iload_n 2, 1) := by decide +kernel
theorem dX7_init_11 : decode cX7_init 11 = .ok (.putfield 13, 3) := by decide +kernel
theorem dX7_init_14 : decode cX7_init 14 = .ok (.aload_n 0, 1) := by decide +kernel
theorem dX7_init_15 : decode cX7_init 15 = .ok (.iload_n 3, 1) := by decide +kernel
theorem dX7_init_16 : decode cX7_init 16 = .ok (.putfield 16, 3) := by decide +kernel
theorem dX7_init_19 : decode cX7_init 19 = .ok (.aload_n 0, 1) := by decide +kernel
theorem dX7_init_20 : decode cX7_init 20 = .ok (.iload 4, 2) := by decide +kernel
theorem dX7_init_22 : decode cX7_init 22 = .ok (.putfield 19, 3) := by decide +kernel
theorem dX7_init_25 : decode cX7_init 25 = .ok (.aload_n 0, 1) := by decide +kernel
theorem dX7_init_26 : decode cX7_init 26 = .ok (.iload 5, 2) := by decide +kernel
theorem dX7_init_28 : decode cX7_init 28 = .ok (.putfield 23, 3) := by decide +kernel
theorem dX7_init_31 : decode cX7_init 31 = .ok (.return_, 1) := by decide +kernel
theorem dX7_isHeard_0 : decode cX7_isHeard 0 = .ok (.aload_n 0, 1) := by decide +kernel
theorem dX7_isHeard_1 : decode cX7_isHeard 1 = .ok (.getfield 7, 3) := by decide +kernel
theorem dX7_isHeard_4 : decode cX7_isHeard 4 = .ok (.iload_n 1, 1) := by decide +kernel
theorem dX7_isHeard_5 : decode cX7_isHeard 5 = .ok (.if_icmp .ne 23, 3) := by decide +kernel
theorem dX7_isHeard_8 : decode cX7_isHeard 8 = .ok (.aload_n 0, 1) := by decide +kernel
theorem dX7_isHeard_9 : decode cX7_isHeard 9 = .ok (.getfield 13, 3) := by decide +kernel
theorem dX7_isHeard_12 : decode cX7_isHeard 12 = .ok (.iload_n 2, 1) := by decide +kernel
theorem dX7_isHeard_13 : decode cX7_isHeard 13 = .ok (.if_icmp .gt 15, 3) := by decide +kernel
theorem dX7_isHeard_16 : decode cX7_isHeard 16 = .ok (.aload_n 0, 1) := by decide +kernel
theorem dX7_isHeard_17 : decode cX7_isHeard 17 = .ok (.getfield 23, 3) := by decide +kernel
theorem dX7_isHeard_20 : decode cX7_isHeard 20 = .ok (.iload_n 3, 1) := by decide +kernel
theorem dX7_isHeard_21 : decode cX7_isHeard 21 = .ok (.if_icmp .gt 7, 3) := by decide +kernel
theorem dX7_isHeard_24 : decode cX7_isHeard 24 = .ok (.iconst 1, 1) := by decide +kernel
theorem dX7_isHeard_25 : decode cX7_isHeard 25 = .ok (.goto 4, 3) := by decide +kernel
theorem dX7_isHeard_28 : decode cX7_isHeard 28 = .ok (.iconst 0, 1) := by decide +kernel
theorem dX7_isHeard_29 : decode cX7_isHeard 29 = .ok (.ireturn, 1) := by decide +kernel
theorem dX7_replaces_0 : decode cX7_replaces 0 = .ok (.aload_n 0, 1) := by decide +kernel
theorem dX7_replaces_1 : decode cX7_replaces 1 = .ok (.getfield 13, 3) := by decide +kernel
theorem dX7_replaces_4 : decode cX7_replaces 4 = .ok (.aload_n 1, 1) := by decide +kernel
theorem dX7_replaces_5 : decode cX7_replaces 5 = .ok (.getfield 13, 3) := by decide +kernel
theorem dX7_replaces_8 : decode cX7_replaces 8 = .ok (.if_icmp .eq 20, 3) := by decide +kernel
theorem dX7_replaces_11 : decode cX7_replaces 11 = .ok (.aload_n 0, 1) := by decide +kernel
theorem dX7_replaces_12 : decode cX7_replaces 12 = .ok (.getfield 13, 3) := by decide +kernel
theorem dX7_replaces_15 : decode cX7_replaces 15 = .ok (.aload_n 1, 1) := by decide +kernel
theorem dX7_replaces_16 : decode cX7_replaces 16 = .ok (.getfield 13, 3) := by decide +kernel
theorem dX7_replaces_19 : decode cX7_replaces 19 = .ok (.if_icmp .le 7, 3) := by decide +kernel
theorem dX7_replaces_22 : decode cX7_replaces 22 = .ok (.iconst 1, 1) := by decide +kernel
theorem dX7_replaces_23 : decode cX7_replaces 23 = .ok (.goto 4, 3) := by decide +kernel
theorem dX7_replaces_26 : decode cX7_replaces 26 = .ok (.iconst 0, 1) := by decide +kernel
theorem dX7_replaces_27 : decode cX7_replaces 27 = .ok (.ireturn, 1) := by decide +kernel
theorem dX7_replaces_28 : decode cX7_replaces 28 = .ok (.aload_n 0, 1) := by decide +kernel
theorem dX7_replaces_29 : decode cX7_replaces 29 = .ok (.getfield 19, 3) := by decide +kernel
theorem dX7_replaces_32 : decode cX7_replaces 32 = .ok (.ifCond .ne 10, 3) := by decide +kernel
theorem dX7_replaces_35 : decode cX7_replaces 35 = .ok (.aload_n 1, 1) := by decide +kernel
theorem dX7_replaces_36 : decode cX7_replaces 36 = .ok (.getfield 19, 3) := by decide +kernel
theorem dX7_replaces_39 : decode cX7_replaces 39 = .ok (.ifCond .ne 7, 3) := by decide +kernel
theorem dX7_replaces_42 : decode cX7_replaces 42 = .ok (.iconst 1, 1) := by decide +kernel
theorem dX7_replaces_43 : decode cX7_replaces 43 = .ok (.goto 4, 3) := by decide +kernel
theorem dX7_replaces_46 : decode cX7_replaces 46 = .ok (.iconst 0, 1) := by decide +kernel
theorem dX7_replaces_47 : decode cX7_replaces 47 = .ok (.ireturn, 1) := by decide +kernel
theorem dX7_contradicts_0 : decode cX7_contradicts 0 = .ok (.aload_n 0, 1) := by decide +kernel
theorem dX7_contradicts_1 : decode cX7_contradicts 1 = .ok (.getfield 7, 3) := by decide +kernel
theorem dX7_contradicts_4 : decode cX7_contradicts 4 = .ok (.aload_n 1, 1) := by decide +kernel
theorem dX7_contradicts_5 : decode cX7_contradicts 5 = .ok (.getfield 7, 3) := by decide +kernel
theorem dX7_contradicts_8 : decode cX7_contradicts 8 = .ok (.if_icmp .ne 36, 3) := by decide +kernel
theorem dX7_contradicts_11 : decode cX7_contradicts 11 = .ok (.aload_n 0, 1) := by decide +kernel
theorem dX7_contradicts_12 : decode cX7_contradicts 12 = .ok (.getfield 13, 3) := by decide +kernel
theorem dX7_contradicts_15 : decode cX7_contradicts 15 = .ok (.aload_n 1, 1) := by decide +kernel
theorem dX7_contradicts_16 : decode cX7_contradicts 16 = .ok (.getfield 13, 3) := by decide +kernel
theorem dX7_contradicts_19 : decode cX7_contradicts 19 = .ok (.if_icmp .ne 25, 3) := by decide +kernel
theorem dX7_contradicts_22 : decode cX7_contradicts 22 = .ok (.aload_n 0, 1) := by decide +kernel
theorem dX7_contradicts_23 : decode cX7_contradicts 23 = .ok (.getfield 16, 3) := by decide +kernel
theorem dX7_contradicts_26 : decode cX7_contradicts 26 = .ok (.aload_n 1, 1) := by decide +kernel
theorem dX7_contradicts_27 : decode cX7_contradicts 27 = .ok (.getfield 16, 3) := by decide +kernel
theorem dX7_contradicts_30 : decode cX7_contradicts 30 = .ok (.if_icmp .eq 14, 3) := by decide +kernel
theorem dX7_contradicts_33 : decode cX7_contradicts 33 = .ok (.aload_n 0, 1) := by decide +kernel
theorem dX7_contradicts_34 : decode cX7_contradicts 34 = .ok (.getfield 19, 3) := by decide +kernel
theorem dX7_contradicts_37 : decode cX7_contradicts 37 = .ok (.ifCond .ne 7, 3) := by decide +kernel
theorem dX7_contradicts_40 : decode cX7_contradicts 40 = .ok (.iconst 1, 1) := by decide +kernel
theorem dX7_contradicts_41 : decode cX7_contradicts 41 = .ok (.goto 4, 3) := by decide +kernel
theorem dX7_contradicts_44 : decode cX7_contradicts 44 = .ok (.iconst 0, 1) := by decide +kernel
theorem dX7_contradicts_45 : decode cX7_contradicts 45 = .ok (.ireturn, 1) := by decide +kernel
theorem dX8_init_0 : decode cX8_init 0 = .ok (.aload_n 0, 1) := by decide +kernel
theorem dX8_init_1 : decode cX8_init 1 = .ok (.invokespecial 3, 3) := by decide +kernel
theorem dX8_init_4 : decode cX8_init 4 = .ok (.aload_n 0, 1) := by decide +kernel
theorem dX8_init_5 : decode cX8_init 5 = .ok (.new 9, 3) := by decide +kernel
theorem dX8_init_8 : decode cX8_init 8 = .ok (.dup, 1) := by decide +kernel
theorem dX8_init_9 : decode cX8_init 9 = .ok (.invokespecial 11, 3) := by decide +kernel
theorem dX8_init_12 : decode cX8_init 12 = .ok (.putfield 12, 3) := by decide +kernel
theorem dX8_init_15 : decode cX8_init 15 = .ok (.aload_n 0, 1) := by decide +kernel
theorem dX8_init_16 : decode cX8_init 16 = .ok (.new 9, 3) := by decide +kernel
theorem dX8_init_19 : decode cX8_init 19 = .ok (.dup, 1) := by decide +kernel
theorem dX8_init_20 : decode cX8_init 20 = .ok (.invokespecial 11, 3) := by decide +kernel
theorem dX8_init_23 : decode cX8_init 23 = .ok (.putfield 16, 3) := by decide +kernel
theorem dX8_init_26 : decode cX8_init 26 = .ok (.aload_n 0, 1) := by decide +kernel
theorem dX8_init_27 : decode cX8_init 27 = .ok (.iconst 1, 1) := by decide +kernel
theorem dX8_init_28 : decode cX8_init 28 = .ok (.putfield 19, 3) := by decide +kernel
theorem dX8_init_31 : decode cX8_init 31 = .ok (.return_, 1) := by decide +kernel
theorem dX8_page_0 : decode cX8_page 0 = .ok (.aload_n 0, 1) := by decide +kernel
theorem dX8_page_1 : decode cX8_page 1 = .ok (.invokevirtual 23, 3) := by decide +kernel
theorem dX8_page_4 : decode cX8_page 4 = .ok (.aload_n 0, 1) := by decide +kernel
theorem dX8_page_5 : decode cX8_page 5 = .ok (.new 26, 3) := by decide +kernel
theorem dX8_page_8 : decode cX8_page 8 = .ok (.dup, 1) := by decide +kernel
theorem dX8_page_9 : decode cX8_page 9 = .ok (.iload_n 1, 1) := by decide +kernel
theorem dX8_page_10 : decode cX8_page 10 = .ok (.invokespecial 28, 3) := by decide +kernel
theorem dX8_page_13 : decode cX8_page 13 = .ok (.invokevirtual 31, 3) := by decide +kernel
theorem dX8_page_16 : decode cX8_page 16 = .ok (.ireturn, 1) := by decide +kernel
theorem dX8_panel_0 : decode cX8_panel 0 = .ok (.aload_n 0, 1) := by decide +kernel
theorem dX8_panel_1 : decode cX8_panel 1 = .ok (.iload_n 1, 1) := by decide +kernel
theorem dX8_panel_2 : decode cX8_panel 2 = .ok (.invokevirtual 35, 3) := by decide +kernel
theorem dX8_panel_5 : decode cX8_panel 5 = .ok (.astore 6, 2) := by decide +kernel
theorem dX8_panel_7 : decode cX8_panel 7 = .ok (.iload_n 2, 1) := by decide +kernel
theorem dX8_panel_8 : decode cX8_panel 8 = .ok (.iconst 0, 1) := by decide +kernel
theorem dX8_panel_9 : decode cX8_panel 9 = .ok (.bipush 59, 2) := by decide +kernel
theorem dX8_panel_11 : decode cX8_panel 11 = .ok (.invokestatic 39, 3) := by decide +kernel
theorem dX8_panel_14 : decode cX8_panel 14 = .ok (.iload_n 3, 1) := by decide +kernel
theorem dX8_panel_15 : decode cX8_panel 15 = .ok (.iconst 0, 1) := by decide +kernel
theorem dX8_panel_16 : decode cX8_panel 16 = .ok (.bipush 79, 2) := by decide +kernel
theorem dX8_panel_18 : decode cX8_panel 18 = .ok (.invokestatic 39, 3) := by decide +kernel
theorem dX8_panel_21 : decode cX8_panel 21 = .ok (.iload 4, 2) := by decide +kernel
theorem dX8_panel_23 : decode cX8_panel 23 = .ok (.iconst 4, 1) := by decide +kernel
theorem dX8_panel_24 : decode cX8_panel 24 = .ok (.bipush 60, 2) := by decide +kernel
theorem dX8_panel_26 : decode cX8_panel 26 = .ok (.invokestatic 39, 3) := by decide +kernel
theorem dX8_panel_29 : decode cX8_panel 29 = .ok (.iload 5, 2) := by decide +kernel
theorem dX8_panel_31 : decode cX8_panel 31 = .ok (.iconst 4, 1) := by decide +kernel
theorem dX8_panel_32 : decode cX8_panel 32 = .ok (.bipush 80, 2) := by decide +kernel
theorem dX8_panel_34 : decode cX8_panel 34 = .ok (.invokestatic 39, 3) := by decide +kernel
theorem dX8_panel_37 : decode cX8_panel 37 = .ok (.new 43, 3) := by decide +kernel
theorem dX8_panel_40 : decode cX8_panel 40 = .ok (.dup, 1) := by decide +kernel
theorem dX8_panel_41 : decode cX8_panel 41 = .ok (.iload_n 2, 1) := by decide +kernel
theorem dX8_panel_42 : decode cX8_panel 42 = .ok (.iload_n 3, 1) := by decide +kernel
theorem dX8_panel_43 : decode cX8_panel 43 = .ok (.iload 4, 2) := by decide +kernel
theorem dX8_panel_45 : decode cX8_panel 45 = .ok (.iload 5, 2) := by decide +kernel
theorem dX8_panel_47 : decode cX8_panel 47 = .ok (.invokespecial 45, 3) := by decide +kernel
theorem dX8_panel_50 : decode cX8_panel 50 = .ok (.astore 7, 2) := by decide +kernel
theorem dX8_panel_52 : decode cX8_panel 52 = .ok (.aload 7, 2) := by decide +kernel
theorem dX8_panel_54 : decode cX8_panel 54 = .ok (.invokevirtual 48, 3) := by decide +kernel
theorem dX8_panel_57 : decode cX8_panel 57 = .ok (.ifCond .ne 13, 3) := by decide +kernel
theorem dX8_panel_60 : decode cX8_panel 60 = .ok (.new 52, 3) := by decide +kernel
theorem dX8_panel_63 : decode cX8_panel 63 = .ok (.dup, 1) := by decide +kernel
theorem dX8_panel_64 : decode cX8_panel 64 = .ok (.ldc 54, 2) := by decide +kernel
theorem dX8_panel_66 : decode cX8_panel 66 = .ok (.invokespecial 56, 3) := by decide +kernel
theorem dX8_panel_69 : decode cX8_panel 69 = .ok (.athrow, 1) := by decide +kernel
theorem dX8_panel_70 : decode cX8_panel 70 = .ok (.aload 6, 2) := by decide +kernel
theorem dX8_panel_72 : decode cX8_panel 72 = .ok (.invokestatic 59, 3) := by decide +kernel
theorem dX8_panel_75 : decode cX8_panel 75 = .ok (.aload 6, 2) := by decide +kernel
theorem dX8_panel_77 : decode cX8_panel 77 = .ok (.getfield 63, 3) := by decide +kernel
theorem dX8_panel_80 : decode cX8_panel 80 = .ok (.invokevirtual 66, 3) := by decide +kernel
theorem dX8_panel_83 : decode cX8_panel 83 = .ok (.bipush 8, 2) := by decide +kernel
theorem dX8_panel_85 : decode cX8_panel 85 = .ok (.if_icmp .lt 13, 3) := by decide +kernel
theorem dX8_panel_88 : decode cX8_panel 88 = .ok (.new 70, 3) := by decide +kernel
theorem dX8_panel_91 : decode cX8_panel 91 = .ok (.dup, 1) := by decide +kernel
theorem dX8_panel_92 : decode cX8_panel 92 = .ok (.ldc 72, 2) := by decide +kernel
theorem dX8_panel_94 : decode cX8_panel 94 = .ok (.invokespecial 74, 3) := by decide +kernel
theorem dX8_panel_97 : decode cX8_panel 97 = .ok (.athrow, 1) := by decide +kernel
theorem dX8_panel_98 : decode cX8_panel 98 = .ok (.aload 6, 2) := by decide +kernel
theorem dX8_panel_100 : decode cX8_panel 100 = .ok (.aload 7, 2) := by decide +kernel
theorem dX8_panel_102 : decode cX8_panel 102 = .ok (.invokevirtual 75, 3) := by decide +kernel
theorem dX8_panel_105 : decode cX8_panel 105 = .ok (.ifCond .eq 13, 3) := by decide +kernel
theorem dX8_panel_108 : decode cX8_panel 108 = .ok (.new 70, 3) := by decide +kernel
theorem dX8_panel_111 : decode cX8_panel 111 = .ok (.dup, 1) := by decide +kernel
theorem dX8_panel_112 : decode cX8_panel 112 = .ok (.ldc 79, 2) := by decide +kernel
theorem dX8_panel_114 : decode cX8_panel 114 = .ok (.invokespecial 74, 3) := by decide +kernel
theorem dX8_panel_117 : decode cX8_panel 117 = .ok (.athrow, 1) := by decide +kernel
theorem dX8_panel_118 : decode cX8_panel 118 = .ok (.aload 6, 2) := by decide +kernel
theorem dX8_panel_120 : decode cX8_panel 120 = .ok (.getfield 63, 3) := by decide +kernel
theorem dX8_panel_123 : decode cX8_panel 123 = .ok (.new 81, 3) := by decide +kernel
theorem dX8_panel_126 : decode cX8_panel 126 = .ok (.dup, 1) := by decide +kernel
theorem dX8_panel_127 : decode cX8_panel 127 = .ok (.aload 7, 2) := by decide +kernel
theorem dX8_panel_129 : decode cX8_panel 129 = .ok (.invokespecial 83, 3) := by decide +kernel
theorem dX8_panel_132 : decode cX8_panel 132 = .ok (.invokevirtual 86, 3) := by decide +kernel
theorem dX8_panel_135 : decode cX8_panel 135 = .ok (.pop, 1) := by decide +kernel
theorem dX8_panel_136 : decode cX8_panel 136 = .ok (.aload 6, 2) := by decide +kernel
theorem dX8_panel_138 : decode cX8_panel 138 = .ok (.getfield 63, 3) := by decide +kernel
theorem dX8_panel_141 : decode cX8_panel 141 = .ok (.invokevirtual 66, 3) := by decide +kernel
theorem dX8_panel_144 : decode cX8_panel 144 = .ok (.iconst 1, 1) := by decide +kernel
theorem dX8_panel_145 : decode cX8_panel 145 = .ok (.isub, 1) := by decide +kernel
theorem dX8_panel_146 : decode cX8_panel 146 = .ok (.ireturn, 1) := by decide +kernel
theorem dX8_turn_0 : decode cX8_turn 0 = .ok (.aload_n 0, 1) := by decide +kernel
theorem dX8_turn_1 : decode cX8_turn 1 = .ok (.iload_n 1, 1) := by decide +kernel
theorem dX8_turn_2 : decode cX8_turn 2 = .ok (.invokevirtual 35, 3) := by decide +kernel
theorem dX8_turn_5 : decode cX8_turn 5 = .ok (.astore_n 3, 1) := by decide +kernel
theorem dX8_turn_6 : decode cX8_turn 6 = .ok (.aload_n 3, 1) := by decide +kernel
theorem dX8_turn_7 : decode cX8_turn 7 = .ok (.invokestatic 59, 3) := by decide +kernel
theorem dX8_turn_10 : decode cX8_turn 10 = .ok (.aload_n 3, 1) := by decide +kernel
theorem dX8_turn_11 : decode cX8_turn 11 = .ok (.getfield 90, 3) := by decide +kernel
theorem dX8_turn_14 : decode cX8_turn 14 = .ok (.istore 4, 2) := by decide +kernel
theorem dX8_turn_16 : decode cX8_turn 16 = .ok (.aload_n 3, 1) := by decide +kernel
theorem dX8_turn_17 : decode cX8_turn 17 = .ok (.iload_n 2, 1) := by decide +kernel
theorem dX8_turn_18 : decode cX8_turn 18 = .ok (.putfield 90, 3) := by decide +kernel
theorem dX8_turn_21 : decode cX8_turn 21 = .ok (.iload 4, 2) := by decide +kernel
theorem dX8_turn_23 : decode cX8_turn 23 = .ok (.ireturn, 1) := by decide +kernel
theorem dX8_read_0 : decode cX8_read 0 = .ok (.aload_n 0, 1) := by decide +kernel
theorem dX8_read_1 : decode cX8_read 1 = .ok (.iload_n 1, 1) := by decide +kernel
theorem dX8_read_2 : decode cX8_read 2 = .ok (.invokevirtual 35, 3) := by decide +kernel
theorem dX8_read_5 : decode cX8_read 5 = .ok (.astore 4, 2) := by decide +kernel
theorem dX8_read_7 : decode cX8_read 7 = .ok (.iload_n 3, 1) := by decide +kernel
theorem dX8_read_8 : decode cX8_read 8 = .ok (.ifCond .lt 15, 3) := by decide +kernel
theorem dX8_read_11 : decode cX8_read 11 = .ok (.iload_n 3, 1) := by decide +kernel
theorem dX8_read_12 : decode cX8_read 12 = .ok (.aload 4, 2) := by decide +kernel
theorem dX8_read_14 : decode cX8_read 14 = .ok (.getfield 63, 3) := by decide +kernel
theorem dX8_read_17 : decode cX8_read 17 = .ok (.invokevirtual 66, 3) := by decide +kernel
theorem dX8_read_20 : decode cX8_read 20 = .ok (.if_icmp .lt 13, 3) := by decide +kernel
theorem dX8_read_23 : decode cX8_read 23 = .ok (.new 94, 3) := by decide +kernel
theorem dX8_read_26 : decode cX8_read 26 = .ok (.dup, 1) := by decide +kernel
theorem dX8_read_27 : decode cX8_read 27 = .ok (.ldc 96, 2) := by decide +kernel
theorem dX8_read_29 : decode cX8_read 29 = .ok (.invokespecial 98, 3) := by decide +kernel
theorem dX8_read_32 : decode cX8_read 32 = .ok (.athrow, 1) := by decide +kernel
theorem dX8_read_33 : decode cX8_read 33 = .ok (.aload 4, 2) := by decide +kernel
theorem dX8_read_35 : decode cX8_read 35 = .ok (.iload_n 2, 1) := by decide +kernel
theorem dX8_read_36 : decode cX8_read 36 = .ok (.invokestatic 99, 3) := by decide +kernel
theorem dX8_read_39 : decode cX8_read 39 = .ok (.iload_n 3, 1) := by decide +kernel
theorem dX8_read_40 : decode cX8_read 40 = .ok (.invokevirtual 105, 3) := by decide +kernel
theorem dX8_read_43 : decode cX8_read 43 = .ok (.ireturn, 1) := by decide +kernel
theorem dX8_doubts_0 : decode cX8_doubts 0 = .ok (.aload_n 0, 1) := by decide +kernel
theorem dX8_doubts_1 : decode cX8_doubts 1 = .ok (.iload_n 1, 1) := by decide +kernel
theorem dX8_doubts_2 : decode cX8_doubts 2 = .ok (.invokevirtual 35, 3) := by decide +kernel
theorem dX8_doubts_5 : decode cX8_doubts 5 = .ok (.astore_n 2, 1) := by decide +kernel
theorem dX8_doubts_6 : decode cX8_doubts 6 = .ok (.aload_n 2, 1) := by decide +kernel
theorem dX8_doubts_7 : decode cX8_doubts 7 = .ok (.aload_n 2, 1) := by decide +kernel
theorem dX8_doubts_8 : decode cX8_doubts 8 = .ok (.getfield 90, 3) := by decide +kernel
theorem dX8_doubts_11 : decode cX8_doubts 11 = .ok (.invokestatic 99, 3) := by decide +kernel
theorem dX8_doubts_14 : decode cX8_doubts 14 = .ok (.getfield 109, 3) := by decide +kernel
theorem dX8_doubts_17 : decode cX8_doubts 17 = .ok (.ireturn, 1) := by decide +kernel
theorem dX8_orders_0 : decode cX8_orders 0 = .ok (.aload_n 0, 1) := by decide +kernel
theorem dX8_orders_1 : decode cX8_orders 1 = .ok (.iload_n 1, 1) := by decide +kernel
theorem dX8_orders_2 : decode cX8_orders 2 = .ok (.invokevirtual 35, 3) := by decide +kernel
theorem dX8_orders_5 : decode cX8_orders 5 = .ok (.astore_n 3, 1) := by decide +kernel
theorem dX8_orders_6 : decode cX8_orders 6 = .ok (.aload_n 3, 1) := by decide +kernel
theorem dX8_orders_7 : decode cX8_orders 7 = .ok (.aload_n 3, 1) := by decide +kernel
theorem dX8_orders_8 : decode cX8_orders 8 = .ok (.invokevirtual 112, 3) := by decide +kernel
theorem dX8_orders_11 : decode cX8_orders 11 = .ok (.iload_n 2, 1) := by decide +kernel
theorem dX8_orders_12 : decode cX8_orders 12 = .ok (.iconst 0, 1) := by decide +kernel
theorem dX8_orders_13 : decode cX8_orders 13 = .ok (.invokestatic 115, 3) := by decide +kernel
theorem dX8_orders_16 : decode cX8_orders 16 = .ok (.ireturn, 1) := by decide +kernel
theorem dX8_isOne_0 : decode cX8_isOne 0 = .ok (.aload_n 0, 1) := by decide +kernel
theorem dX8_isOne_1 : decode cX8_isOne 1 = .ok (.iload_n 1, 1) := by decide +kernel
theorem dX8_isOne_2 : decode cX8_isOne 2 = .ok (.invokevirtual 35, 3) := by decide +kernel
theorem dX8_isOne_5 : decode cX8_isOne 5 = .ok (.iload_n 2, 1) := by decide +kernel
theorem dX8_isOne_6 : decode cX8_isOne 6 = .ok (.invokestatic 99, 3) := by decide +kernel
theorem dX8_isOne_9 : decode cX8_isOne 9 = .ok (.invokevirtual 119, 3) := by decide +kernel
theorem dX8_isOne_12 : decode cX8_isOne 12 = .ok (.ireturn, 1) := by decide +kernel
theorem dX8_mirror_0 : decode cX8_mirror 0 = .ok (.aload_n 0, 1) := by decide +kernel
theorem dX8_mirror_1 : decode cX8_mirror 1 = .ok (.iload_n 1, 1) := by decide +kernel
theorem dX8_mirror_2 : decode cX8_mirror 2 = .ok (.invokevirtual 35, 3) := by decide +kernel
theorem dX8_mirror_5 : decode cX8_mirror 5 = .ok (.astore_n 2, 1) := by decide +kernel
theorem dX8_mirror_6 : decode cX8_mirror 6 = .ok (.aload_n 0, 1) := by decide +kernel
theorem dX8_mirror_7 : decode cX8_mirror 7 = .ok (.invokevirtual 23, 3) := by decide +kernel
theorem dX8_mirror_10 : decode cX8_mirror 10 = .ok (.aload_n 0, 1) := by decide +kernel
theorem dX8_mirror_11 : decode cX8_mirror 11 = .ok (.aload_n 2, 1) := by decide +kernel
theorem dX8_mirror_12 : decode cX8_mirror 12 = .ok (.invokevirtual 122, 3) := by decide +kernel
theorem dX8_mirror_15 : decode cX8_mirror 15 = .ok (.invokevirtual 31, 3) := by decide +kernel
theorem dX8_mirror_18 : decode cX8_mirror 18 = .ok (.ireturn, 1) := by decide +kernel
theorem dX8_figure_0 : decode cX8_figure 0 = .ok (.aload_n 0, 1) := by decide +kernel
theorem dX8_figure_1 : decode cX8_figure 1 = .ok (.getfield 126, 3) := by decide +kernel
theorem dX8_figure_4 : decode cX8_figure 4 = .ok (.bipush 12, 2) := by decide +kernel
theorem dX8_figure_6 : decode cX8_figure 6 = .ok (.if_icmp .lt 13, 3) := by decide +kernel
theorem dX8_figure_9 : decode cX8_figure 9 = .ok (.new 70, 3) := by decide +kernel
theorem dX8_figure_12 : decode cX8_figure 12 = .ok (.dup, 1) := by decide +kernel
theorem dX8_figure_13 : decode cX8_figure 13 = .ok (.ldc 129, 2) := by decide +kernel
theorem dX8_figure_15 : decode cX8_figure 15 = .ok (.invokespecial 74, 3) := by decide +kernel
theorem dX8_figure_18 : decode cX8_figure 18 = .ok (.athrow, 1) := by decide +kernel
theorem dX8_figure_19 : decode cX8_figure 19 = .ok (.aload_n 0, 1) := by decide +kernel
theorem dX8_figure_20 : decode cX8_figure 20 = .ok (.dup, 1) := by decide +kernel
theorem dX8_figure_21 : decode cX8_figure 21 = .ok (.getfield 126, 3) := by decide +kernel
theorem dX8_figure_24 : decode cX8_figure 24 = .ok (.iconst 1, 1) := by decide +kernel
theorem dX8_figure_25 : decode cX8_figure 25 = .ok (.iadd, 1) := by decide +kernel
theorem dX8_figure_26 : decode cX8_figure 26 = .ok (.putfield 126, 3) := by decide +kernel
theorem dX8_figure_29 : decode cX8_figure 29 = .ok (.aload_n 0, 1) := by decide +kernel
theorem dX8_figure_30 : decode cX8_figure 30 = .ok (.getfield 126, 3) := by decide +kernel
theorem dX8_figure_33 : decode cX8_figure 33 = .ok (.iconst 1, 1) := by decide +kernel
theorem dX8_figure_34 : decode cX8_figure 34 = .ok (.isub, 1) := by decide +kernel
theorem dX8_figure_35 : decode cX8_figure 35 = .ok (.ireturn, 1) := by decide +kernel
theorem dX8_draw_0 : decode cX8_draw 0 = .ok (.aload_n 0, 1) := by decide +kernel
theorem dX8_draw_1 : decode cX8_draw 1 = .ok (.iload_n 1, 1) := by decide +kernel
theorem dX8_draw_2 : decode cX8_draw 2 = .ok (.invokevirtual 35, 3) := by decide +kernel
theorem dX8_draw_5 : decode cX8_draw 5 = .ok (.astore 9, 2) := by decide +kernel
theorem dX8_draw_7 : decode cX8_draw 7 = .ok (.aload 9, 2) := by decide +kernel
theorem dX8_draw_9 : decode cX8_draw 9 = .ok (.iload_n 2, 1) := by decide +kernel
theorem dX8_draw_10 : decode cX8_draw 10 = .ok (.invokestatic 131, 3) := by decide +kernel
theorem dX8_draw_13 : decode cX8_draw 13 = .ok (.astore 10, 2) := by decide +kernel
theorem dX8_draw_15 : decode cX8_draw 15 = .ok (.aload_n 0, 1) := by decide +kernel
theorem dX8_draw_16 : decode cX8_draw 16 = .ok (.iload_n 3, 1) := by decide +kernel
theorem dX8_draw_17 : decode cX8_draw 17 = .ok (.invokevirtual 135, 3) := by decide +kernel
theorem dX8_draw_20 : decode cX8_draw 20 = .ok (.iload 6, 2) := by decide +kernel
theorem dX8_draw_22 : decode cX8_draw 22 = .ok (.iconst 2, 1) := by decide +kernel
theorem dX8_draw_23 : decode cX8_draw 23 = .ok (.bipush 20, 2) := by decide +kernel
theorem dX8_draw_25 : decode cX8_draw 25 = .ok (.invokestatic 39, 3) := by decide +kernel
theorem dX8_draw_28 : decode cX8_draw 28 = .ok (.iload 7, 2) := by decide +kernel
theorem dX8_draw_30 : decode cX8_draw 30 = .ok (.iconst 0, 1) := by decide +kernel
theorem dX8_draw_31 : decode cX8_draw 31 = .ok (.bipush 9, 2) := by decide +kernel
theorem dX8_draw_33 : decode cX8_draw 33 = .ok (.invokestatic 39, 3) := by decide +kernel
theorem dX8_draw_36 : decode cX8_draw 36 = .ok (.new 43, 3) := by decide +kernel
theorem dX8_draw_39 : decode cX8_draw 39 = .ok (.dup, 1) := by decide +kernel
theorem dX8_draw_40 : decode cX8_draw 40 = .ok (.iload 4, 2) := by decide +kernel
theorem dX8_draw_42 : decode cX8_draw 42 = .ok (.iload 5, 2) := by decide +kernel
theorem dX8_draw_44 : decode cX8_draw 44 = .ok (.iload 6, 2) := by decide +kernel
theorem dX8_draw_46 : decode cX8_draw 46 = .ok (.iload 6, 2) := by decide +kernel
theorem dX8_draw_48 : decode cX8_draw 48 = .ok (.invokespecial 45, 3) := by decide +kernel
theorem dX8_draw_51 : decode cX8_draw 51 = .ok (.astore 11, 2) := by decide +kernel
theorem dX8_draw_53 : decode cX8_draw 53 = .ok (.aload 10, 2) := by decide +kernel
theorem dX8_draw_55 : decode cX8_draw 55 = .ok (.getfield 139, 3) := by decide +kernel
theorem dX8_draw_58 : decode cX8_draw 58 = .ok (.aload 11, 2) := by decide +kernel
theorem dX8_draw_60 : decode cX8_draw 60 = .ok (.invokevirtual 143, 3) := by decide +kernel
theorem dX8_draw_63 : decode cX8_draw 63 = .ok (.ifCond .ne 13, 3) := by decide +kernel
theorem dX8_draw_66 : decode cX8_draw 66 = .ok (.new 52, 3) := by decide +kernel
theorem dX8_draw_69 : decode cX8_draw 69 = .ok (.dup, 1) := by decide +kernel
theorem dX8_draw_70 : decode cX8_draw 70 = .ok (.ldc 146, 2) := by decide +kernel
theorem dX8_draw_72 : decode cX8_draw 72 = .ok (.invokespecial 56, 3) := by decide +kernel
theorem dX8_draw_75 : decode cX8_draw 75 = .ok (.athrow, 1) := by decide +kernel
theorem dX8_draw_76 : decode cX8_draw 76 = .ok (.aload 9, 2) := by decide +kernel
theorem dX8_draw_78 : decode cX8_draw 78 = .ok (.invokestatic 59, 3) := by decide +kernel
theorem dX8_draw_81 : decode cX8_draw 81 = .ok (.aload 10, 2) := by decide +kernel
theorem dX8_draw_83 : decode cX8_draw 83 = .ok (.iload_n 3, 1) := by decide +kernel
theorem dX8_draw_84 : decode cX8_draw 84 = .ok (.new 148, 3) := by decide +kernel
theorem dX8_draw_87 : decode cX8_draw 87 = .ok (.dup, 1) := by decide +kernel
theorem dX8_draw_88 : decode cX8_draw 88 = .ok (.aload 11, 2) := by decide +kernel
theorem dX8_draw_90 : decode cX8_draw 90 = .ok (.iload 7, 2) := by decide +kernel
theorem dX8_draw_92 : decode cX8_draw 92 = .ok (.iload 8, 2) := by decide +kernel
theorem dX8_draw_94 : decode cX8_draw 94 = .ok (.invokespecial 150, 3) := by decide +kernel
theorem dX8_draw_97 : decode cX8_draw 97 = .ok (.invokevirtual 153, 3) := by decide +kernel
theorem dX8_draw_100 : decode cX8_draw 100 = .ok (.return_, 1) := by decide +kernel
theorem dX8_balloon_0 : decode cX8_balloon 0 = .ok (.aload_n 0, 1) := by decide +kernel
theorem dX8_balloon_1 : decode cX8_balloon 1 = .ok (.iload_n 1, 1) := by decide +kernel
theorem dX8_balloon_2 : decode cX8_balloon 2 = .ok (.invokevirtual 35, 3) := by decide +kernel
theorem dX8_balloon_5 : decode cX8_balloon 5 = .ok (.astore 9, 2) := by decide +kernel
theorem dX8_balloon_7 : decode cX8_balloon 7 = .ok (.aload 9, 2) := by decide +kernel
theorem dX8_balloon_9 : decode cX8_balloon 9 = .ok (.iload_n 2, 1) := by decide +kernel
theorem dX8_balloon_10 : decode cX8_balloon 10 = .ok (.invokestatic 131, 3) := by decide +kernel
theorem dX8_balloon_13 : decode cX8_balloon 13 = .ok (.pop, 1) := by decide +kernel
theorem dX8_balloon_14 : decode cX8_balloon 14 = .ok (.iload 7, 2) := by decide +kernel
theorem dX8_balloon_16 : decode cX8_balloon 16 = .ok (.iconst (-1), 1) := by decide +kernel
theorem dX8_balloon_17 : decode cX8_balloon 17 = .ok (.if_icmp .eq 9, 3) := by decide +kernel
theorem dX8_balloon_20 : decode cX8_balloon 20 = .ok (.aload_n 0, 1) := by decide +kernel
theorem dX8_balloon_21 : decode cX8_balloon 21 = .ok (.iload 7, 2) := by decide +kernel
theorem dX8_balloon_23 : decode cX8_balloon 23 = .ok (.invokevirtual 135, 3) := by decide +kernel
theorem dX8_balloon_26 : decode cX8_balloon 26 = .ok (.iload_n 3, 1) := by decide +kernel
theorem dX8_balloon_27 : decode cX8_balloon 27 = .ok (.iconst 0, 1) := by decide +kernel
theorem dX8_balloon_28 : decode cX8_balloon 28 = .ok (.bipush 59, 2) := by decide +kernel
theorem dX8_balloon_30 : decode cX8_balloon 30 = .ok (.invokestatic 39, 3) := by decide +kernel
theorem dX8_balloon_33 : decode cX8_balloon 33 = .ok (.iload 4, 2) := by decide +kernel
theorem dX8_balloon_35 : decode cX8_balloon 35 = .ok (.iconst 0, 1) := by decide +kernel
theorem dX8_balloon_36 : decode cX8_balloon 36 = .ok (.bipush 79, 2) := by decide +kernel
theorem dX8_balloon_38 : decode cX8_balloon 38 = .ok (.invokestatic 39, 3) := by decide +kernel
theorem dX8_balloon_41 : decode cX8_balloon 41 = .ok (.iload 5, 2) := by decide +kernel
theorem dX8_balloon_43 : decode cX8_balloon 43 = .ok (.iconst 2, 1) := by decide +kernel
theorem dX8_balloon_44 : decode cX8_balloon 44 = .ok (.bipush 60, 2) := by decide +kernel
theorem dX8_balloon_46 : decode cX8_balloon 46 = .ok (.invokestatic 39, 3) := by decide +kernel
theorem dX8_balloon_49 : decode cX8_balloon 49 = .ok (.iload 6, 2) := by decide +kernel
theorem dX8_balloon_51 : decode cX8_balloon 51 = .ok (.iconst 2, 1) := by decide +kernel
theorem dX8_balloon_52 : decode cX8_balloon 52 = .ok (.bipush 80, 2) := by decide +kernel
theorem dX8_balloon_54 : decode cX8_balloon 54 = .ok (.invokestatic 39, 3) := by decide +kernel
theorem dX8_balloon_57 : decode cX8_balloon 57 = .ok (.iload 8, 2) := by decide +kernel
theorem dX8_balloon_59 : decode cX8_balloon 59 = .ok (.iconst 1, 1) := by decide +kernel
theorem dX8_balloon_60 : decode cX8_balloon 60 = .ok (.sipush 200, 3) := by decide +kernel
theorem dX8_balloon_63 : decode cX8_balloon 63 = .ok (.invokestatic 39, 3) := by decide +kernel
theorem dX8_balloon_66 : decode cX8_balloon 66 = .ok (.aload 9, 2) := by decide +kernel
theorem dX8_balloon_68 : decode cX8_balloon 68 = .ok (.invokestatic 59, 3) := by decide +kernel
theorem dX8_balloon_71 : decode cX8_balloon 71 = .ok (.aload 9, 2) := by decide +kernel
theorem dX8_balloon_73 : decode cX8_balloon 73 = .ok (.getfield 157, 3) := by decide +kernel
theorem dX8_balloon_76 : decode cX8_balloon 76 = .ok (.invokevirtual 66, 3) := by decide +kernel
theorem dX8_balloon_79 : decode cX8_balloon 79 = .ok (.bipush 20, 2) := by decide +kernel
theorem dX8_balloon_81 : decode cX8_balloon 81 = .ok (.if_icmp .lt 13, 3) := by decide +kernel
theorem dX8_balloon_84 : decode cX8_balloon 84 = .ok (.new 70, 3) := by decide +kernel
theorem dX8_balloon_87 : decode cX8_balloon 87 = .ok (.dup, 1) := by decide +kernel
theorem dX8_balloon_88 : decode cX8_balloon 88 = .ok (.ldc 160, 2) := by decide +kernel
theorem dX8_balloon_90 : decode cX8_balloon 90 = .ok (.invokespecial 74, 3) := by decide +kernel
theorem dX8_balloon_93 : decode cX8_balloon 93 = .ok (.athrow, 1) := by decide +kernel
theorem dX8_balloon_94 : decode cX8_balloon 94 = .ok (.aload 9, 2) := by decide +kernel
theorem dX8_balloon_96 : decode cX8_balloon 96 = .ok (.getfield 157, 3) := by decide +kernel
theorem dX8_balloon_99 : decode cX8_balloon 99 = .ok (.new 162, 3) := by decide +kernel
theorem dX8_balloon_102 : decode cX8_balloon 102 = .ok (.dup, 1) := by decide +kernel
theorem dX8_balloon_103 : decode cX8_balloon 103 = .ok (.iload_n 2, 1) := by decide +kernel
theorem dX8_balloon_104 : decode cX8_balloon 104 = .ok (.new 43, 3) := by decide +kernel
theorem dX8_balloon_107 : decode cX8_balloon 107 = .ok (.dup, 1) := by decide +kernel
theorem dX8_balloon_108 : decode cX8_balloon 108 = .ok (.iload_n 3, 1) := by decide +kernel
theorem dX8_balloon_109 : decode cX8_balloon 109 = .ok (.iload 4, 2) := by decide +kernel
theorem dX8_balloon_111 : decode cX8_balloon 111 = .ok (.iload 5, 2) := by decide +kernel
theorem dX8_balloon_113 : decode cX8_balloon 113 = .ok (.iload 6, 2) := by decide +kernel
theorem dX8_balloon_115 : decode cX8_balloon 115 = .ok (.invokespecial 45, 3) := by decide +kernel
theorem dX8_balloon_118 : decode cX8_balloon 118 = .ok (.iload 7, 2) := by decide +kernel
theorem dX8_balloon_120 : decode cX8_balloon 120 = .ok (.iload 8, 2) := by decide +kernel
theorem dX8_balloon_122 : decode cX8_balloon 122 = .ok (.invokespecial 164, 3) := by decide +kernel
theorem dX8_balloon_125 : decode cX8_balloon 125 = .ok (.invokevirtual 86, 3) := by decide +kernel
theorem dX8_balloon_128 : decode cX8_balloon 128 = .ok (.pop, 1) := by decide +kernel
theorem dX8_balloon_129 : decode cX8_balloon 129 = .ok (.aload 9, 2) := by decide +kernel
theorem dX8_balloon_131 : decode cX8_balloon 131 = .ok (.getfield 157, 3) := by decide +kernel
theorem dX8_balloon_134 : decode cX8_balloon 134 = .ok (.invokevirtual 66, 3) := by decide +kernel
theorem dX8_balloon_137 : decode cX8_balloon 137 = .ok (.iconst 1, 1) := by decide +kernel
theorem dX8_balloon_138 : decode cX8_balloon 138 = .ok (.isub, 1) := by decide +kernel
theorem dX8_balloon_139 : decode cX8_balloon 139 = .ok (.ireturn, 1) := by decide +kernel
theorem dX8_move_0 : decode cX8_move 0 = .ok (.aload_n 0, 1) := by decide +kernel
theorem dX8_move_1 : decode cX8_move 1 = .ok (.iload_n 1, 1) := by decide +kernel
theorem dX8_move_2 : decode cX8_move 2 = .ok (.invokevirtual 35, 3) := by decide +kernel
theorem dX8_move_5 : decode cX8_move 5 = .ok (.astore 5, 2) := by decide +kernel
theorem dX8_move_7 : decode cX8_move 7 = .ok (.aload 5, 2) := by decide +kernel
theorem dX8_move_9 : decode cX8_move 9 = .ok (.iload_n 2, 1) := by decide +kernel
theorem dX8_move_10 : decode cX8_move 10 = .ok (.invokestatic 167, 3) := by decide +kernel
theorem dX8_move_13 : decode cX8_move 13 = .ok (.astore 6, 2) := by decide +kernel
theorem dX8_move_15 : decode cX8_move 15 = .ok (.iload_n 3, 1) := by decide +kernel
theorem dX8_move_16 : decode cX8_move 16 = .ok (.iconst 0, 1) := by decide +kernel
theorem dX8_move_17 : decode cX8_move 17 = .ok (.bipush 59, 2) := by decide +kernel
theorem dX8_move_19 : decode cX8_move 19 = .ok (.invokestatic 39, 3) := by decide +kernel
theorem dX8_move_22 : decode cX8_move 22 = .ok (.iload 4, 2) := by decide +kernel
theorem dX8_move_24 : decode cX8_move 24 = .ok (.iconst 0, 1) := by decide +kernel
theorem dX8_move_25 : decode cX8_move 25 = .ok (.bipush 79, 2) := by decide +kernel
theorem dX8_move_27 : decode cX8_move 27 = .ok (.invokestatic 39, 3) := by decide +kernel
theorem dX8_move_30 : decode cX8_move 30 = .ok (.aload 5, 2) := by decide +kernel
theorem dX8_move_32 : decode cX8_move 32 = .ok (.invokestatic 59, 3) := by decide +kernel
theorem dX8_move_35 : decode cX8_move 35 = .ok (.aload 6, 2) := by decide +kernel
theorem dX8_move_37 : decode cX8_move 37 = .ok (.new 43, 3) := by decide +kernel
theorem dX8_move_40 : decode cX8_move 40 = .ok (.dup, 1) := by decide +kernel
theorem dX8_move_41 : decode cX8_move 41 = .ok (.iload_n 3, 1) := by decide +kernel
theorem dX8_move_42 : decode cX8_move 42 = .ok (.iload 4, 2) := by decide +kernel
theorem dX8_move_44 : decode cX8_move 44 = .ok (.aload 6, 2) := by decide +kernel
theorem dX8_move_46 : decode cX8_move 46 = .ok (.getfield 171, 3) := by decide +kernel
theorem dX8_move_49 : decode cX8_move 49 = .ok (.getfield 172, 3) := by decide +kernel
theorem dX8_move_52 : decode cX8_move 52 = .ok (.aload 6, 2) := by decide +kernel
theorem dX8_move_54 : decode cX8_move 54 = .ok (.getfield 171, 3) := by decide +kernel
theorem dX8_move_57 : decode cX8_move 57 = .ok (.getfield 175, 3) := by decide +kernel
theorem dX8_move_60 : decode cX8_move 60 = .ok (.invokespecial 45, 3) := by decide +kernel
theorem dX8_move_63 : decode cX8_move 63 = .ok (.putfield 171, 3) := by decide +kernel
theorem dX8_move_66 : decode cX8_move 66 = .ok (.return_, 1) := by decide +kernel
theorem dX8_faults_0 : decode cX8_faults 0 = .ok (.aload_n 0, 1) := by decide +kernel
theorem dX8_faults_1 : decode cX8_faults 1 = .ok (.iload_n 1, 1) := by decide +kernel
theorem dX8_faults_2 : decode cX8_faults 2 = .ok (.invokevirtual 35, 3) := by decide +kernel
theorem dX8_faults_5 : decode cX8_faults 5 = .ok (.astore_n 3, 1) := by decide +kernel
theorem dX8_faults_6 : decode cX8_faults 6 = .ok (.aload_n 3, 1) := by decide +kernel
theorem dX8_faults_7 : decode cX8_faults 7 = .ok (.iload_n 2, 1) := by decide +kernel
theorem dX8_faults_8 : decode cX8_faults 8 = .ok (.invokestatic 167, 3) := by decide +kernel
theorem dX8_faults_11 : decode cX8_faults 11 = .ok (.astore 4, 2) := by decide +kernel
theorem dX8_faults_13 : decode cX8_faults 13 = .ok (.aload_n 3, 1) := by decide +kernel
theorem dX8_faults_14 : decode cX8_faults 14 = .ok (.aload 4, 2) := by decide +kernel
theorem dX8_faults_16 : decode cX8_faults 16 = .ok (.getfield 178, 3) := by decide +kernel
theorem dX8_faults_19 : decode cX8_faults 19 = .ok (.invokestatic 131, 3) := by decide +kernel
theorem dX8_faults_22 : decode cX8_faults 22 = .ok (.astore 5, 2) := by decide +kernel
theorem dX8_faults_24 : decode cX8_faults 24 = .ok (.iconst 0, 1) := by decide +kernel
theorem dX8_faults_25 : decode cX8_faults 25 = .ok (.istore 6, 2) := by decide +kernel
theorem dX8_faults_27 : decode cX8_faults 27 = .ok (.iload 6, 2) := by decide +kernel
theorem dX8_faults_29 : decode cX8_faults 29 = .ok (.aload 5, 2) := by decide +kernel
theorem dX8_faults_31 : decode cX8_faults 31 = .ok (.getfield 139, 3) := by decide +kernel
theorem dX8_faults_34 : decode cX8_faults 34 = .ok (.aload 4, 2) := by decide +kernel
theorem dX8_faults_36 : decode cX8_faults 36 = .ok (.getfield 171, 3) := by decide +kernel
theorem dX8_faults_39 : decode cX8_faults 39 = .ok (.invokevirtual 143, 3) := by decide +kernel
theorem dX8_faults_42 : decode cX8_faults 42 = .ok (.ifCond .eq 7, 3) := by decide +kernel
theorem dX8_faults_45 : decode cX8_faults 45 = .ok (.iconst 0, 1) := by decide +kernel
theorem dX8_faults_46 : decode cX8_faults 46 = .ok (.goto 4, 3) := by decide +kernel
theorem dX8_faults_49 : decode cX8_faults 49 = .ok (.iconst 1, 1) := by decide +kernel
theorem dX8_faults_50 : decode cX8_faults 50 = .ok (.ior, 1) := by decide +kernel
theorem dX8_faults_51 : decode cX8_faults 51 = .ok (.istore 6, 2) := by decide +kernel
theorem dX8_faults_53 : decode cX8_faults 53 = .ok (.iload 6, 2) := by decide +kernel
theorem dX8_faults_55 : decode cX8_faults 55 = .ok (.aload_n 3, 1) := by decide +kernel
theorem dX8_faults_56 : decode cX8_faults 56 = .ok (.iload_n 2, 1) := by decide +kernel
theorem dX8_faults_57 : decode cX8_faults 57 = .ok (.aload 4, 2) := by decide +kernel
theorem dX8_faults_59 : decode cX8_faults 59 = .ok (.invokevirtual 181, 3) := by decide +kernel
theorem dX8_faults_62 : decode cX8_faults 62 = .ok (.ifCond .eq 7, 3) := by decide +kernel
theorem dX8_faults_65 : decode cX8_faults 65 = .ok (.iconst 2, 1) := by decide +kernel
theorem dX8_faults_66 : decode cX8_faults 66 = .ok (.goto 4, 3) := by decide +kernel
theorem dX8_faults_69 : decode cX8_faults 69 = .ok (.iconst 0, 1) := by decide +kernel
theorem dX8_faults_70 : decode cX8_faults 70 = .ok (.ior, 1) := by decide +kernel
theorem dX8_faults_71 : decode cX8_faults 71 = .ok (.istore 6, 2) := by decide +kernel
theorem dX8_faults_73 : decode cX8_faults 73 = .ok (.iload 6, 2) := by decide +kernel
theorem dX8_faults_75 : decode cX8_faults 75 = .ok (.aload 5, 2) := by decide +kernel
theorem dX8_faults_77 : decode cX8_faults 77 = .ok (.aload 4, 2) := by decide +kernel
theorem dX8_faults_79 : decode cX8_faults 79 = .ok (.getfield 171, 3) := by decide +kernel
theorem dX8_faults_82 : decode cX8_faults 82 = .ok (.invokevirtual 185, 3) := by decide +kernel
theorem dX8_faults_85 : decode cX8_faults 85 = .ok (.ifCond .eq 7, 3) := by decide +kernel
theorem dX8_faults_88 : decode cX8_faults 88 = .ok (.iconst 4, 1) := by decide +kernel
theorem dX8_faults_89 : decode cX8_faults 89 = .ok (.goto 4, 3) := by decide +kernel
theorem dX8_faults_92 : decode cX8_faults 92 = .ok (.iconst 0, 1) := by decide +kernel
theorem dX8_faults_93 : decode cX8_faults 93 = .ok (.ior, 1) := by decide +kernel
theorem dX8_faults_94 : decode cX8_faults 94 = .ok (.istore 6, 2) := by decide +kernel
theorem dX8_faults_96 : decode cX8_faults 96 = .ok (.iload 6, 2) := by decide +kernel
theorem dX8_faults_98 : decode cX8_faults 98 = .ok (.aload 4, 2) := by decide +kernel
theorem dX8_faults_100 : decode cX8_faults 100 = .ok (.getfield 188, 3) := by decide +kernel
theorem dX8_faults_103 : decode cX8_faults 103 = .ok (.iconst (-1), 1) := by decide +kernel
theorem dX8_faults_104 : decode cX8_faults 104 = .ok (.if_icmp .eq 21, 3) := by decide +kernel
theorem dX8_faults_107 : decode cX8_faults 107 = .ok (.aload 5, 2) := by decide +kernel
theorem dX8_faults_109 : decode cX8_faults 109 = .ok (.aload 4, 2) := by decide +kernel
theorem dX8_faults_111 : decode cX8_faults 111 = .ok (.getfield 188, 3) := by decide +kernel
theorem dX8_faults_114 : decode cX8_faults 114 = .ok (.invokevirtual 191, 3) := by decide +kernel
theorem dX8_faults_117 : decode cX8_faults 117 = .ok (.ifnonnull 8, 3) := by decide +kernel
theorem dX8_faults_120 : decode cX8_faults 120 = .ok (.bipush 8, 2) := by decide +kernel
theorem dX8_faults_122 : decode cX8_faults 122 = .ok (.goto 4, 3) := by decide +kernel
theorem dX8_faults_125 : decode cX8_faults 125 = .ok (.iconst 0, 1) := by decide +kernel
theorem dX8_faults_126 : decode cX8_faults 126 = .ok (.ior, 1) := by decide +kernel
theorem dX8_faults_127 : decode cX8_faults 127 = .ok (.istore 6, 2) := by decide +kernel
theorem dX8_faults_129 : decode cX8_faults 129 = .ok (.iload 6, 2) := by decide +kernel
theorem dX8_faults_131 : decode cX8_faults 131 = .ok (.aload_n 3, 1) := by decide +kernel
theorem dX8_faults_132 : decode cX8_faults 132 = .ok (.iload_n 2, 1) := by decide +kernel
theorem dX8_faults_133 : decode cX8_faults 133 = .ok (.aload 4, 2) := by decide +kernel
theorem dX8_faults_135 : decode cX8_faults 135 = .ok (.aload 5, 2) := by decide +kernel
theorem dX8_faults_137 : decode cX8_faults 137 = .ok (.invokevirtual 195, 3) := by decide +kernel
theorem dX8_faults_140 : decode cX8_faults 140 = .ok (.ifCond .eq 8, 3) := by decide +kernel
theorem dX8_faults_143 : decode cX8_faults 143 = .ok (.bipush 16, 2) := by decide +kernel
theorem dX8_faults_145 : decode cX8_faults 145 = .ok (.goto 4, 3) := by decide +kernel
theorem dX8_faults_148 : decode cX8_faults 148 = .ok (.iconst 0, 1) := by decide +kernel
theorem dX8_faults_149 : decode cX8_faults 149 = .ok (.ior, 1) := by decide +kernel
theorem dX8_faults_150 : decode cX8_faults 150 = .ok (.istore 6, 2) := by decide +kernel
theorem dX8_faults_152 : decode cX8_faults 152 = .ok (.iload 6, 2) := by decide +kernel
theorem dX8_faults_154 : decode cX8_faults 154 = .ok (.aload 4, 2) := by decide +kernel
theorem dX8_faults_156 : decode cX8_faults 156 = .ok (.invokevirtual 199, 3) := by decide +kernel
theorem dX8_faults_159 : decode cX8_faults 159 = .ok (.ifCond .eq 7, 3) := by decide +kernel
theorem dX8_faults_162 : decode cX8_faults 162 = .ok (.iconst 0, 1) := by decide +kernel
theorem dX8_faults_163 : decode cX8_faults 163 = .ok (.goto 5, 3) := by decide +kernel
theorem dX8_faults_166 : decode cX8_faults 166 = .ok (.bipush 32, 2) := by decide +kernel
theorem dX8_faults_168 : decode cX8_faults 168 = .ok (.ior, 1) := by decide +kernel
theorem dX8_faults_169 : decode cX8_faults 169 = .ok (.istore 6, 2) := by decide +kernel
theorem dX8_faults_171 : decode cX8_faults 171 = .ok (.iload 6, 2) := by decide +kernel
theorem dX8_faults_173 : decode cX8_faults 173 = .ok (.aload_n 3, 1) := by decide +kernel
theorem dX8_faults_174 : decode cX8_faults 174 = .ok (.iload_n 2, 1) := by decide +kernel
theorem dX8_faults_175 : decode cX8_faults 175 = .ok (.aload 4, 2) := by decide +kernel
theorem dX8_faults_177 : decode cX8_faults 177 = .ok (.invokevirtual 202, 3) := by decide +kernel
theorem dX8_faults_180 : decode cX8_faults 180 = .ok (.ifCond .eq 8, 3) := by decide +kernel
theorem dX8_faults_183 : decode cX8_faults 183 = .ok (.bipush 64, 2) := by decide +kernel
theorem dX8_faults_185 : decode cX8_faults 185 = .ok (.goto 4, 3) := by decide +kernel
theorem dX8_faults_188 : decode cX8_faults 188 = .ok (.iconst 0, 1) := by decide +kernel
theorem dX8_faults_189 : decode cX8_faults 189 = .ok (.ior, 1) := by decide +kernel
theorem dX8_faults_190 : decode cX8_faults 190 = .ok (.istore 6, 2) := by decide +kernel
theorem dX8_faults_192 : decode cX8_faults 192 = .ok (.iload 6, 2) := by decide +kernel
theorem dX8_faults_194 : decode cX8_faults 194 = .ok (.ireturn, 1) := by decide +kernel
theorem dX8_breaks_0 : decode cX8_breaks 0 = .ok (.bipush 12, 2) := by decide +kernel
theorem dX8_breaks_2 : decode cX8_breaks 2 = .ok (.newarray .int, 2) := by decide +kernel
theorem dX8_breaks_4 : decode cX8_breaks 4 = .ok (.astore_n 1, 1) := by decide +kernel
theorem dX8_breaks_5 : decode cX8_breaks 5 = .ok (.aload_n 1, 1) := by decide +kernel
theorem dX8_breaks_6 : decode cX8_breaks 6 = .ok (.iconst (-1), 1) := by decide +kernel
theorem dX8_breaks_7 : decode cX8_breaks 7 = .ok (.invokestatic 205, 3) := by decide +kernel
theorem dX8_breaks_10 : decode cX8_breaks 10 = .ok (.iconst 0, 1) := by decide +kernel
theorem dX8_breaks_11 : decode cX8_breaks 11 = .ok (.istore_n 2, 1) := by decide +kernel
theorem dX8_breaks_12 : decode cX8_breaks 12 = .ok (.iconst 0, 1) := by decide +kernel
theorem dX8_breaks_13 : decode cX8_breaks 13 = .ok (.istore_n 3, 1) := by decide +kernel
theorem dX8_breaks_14 : decode cX8_breaks 14 = .ok (.iload_n 3, 1) := by decide +kernel
theorem dX8_breaks_15 : decode cX8_breaks 15 = .ok (.aload_n 0, 1) := by decide +kernel
theorem dX8_breaks_16 : decode cX8_breaks 16 = .ok (.getfield 12, 3) := by decide +kernel
theorem dX8_breaks_19 : decode cX8_breaks 19 = .ok (.invokevirtual 66, 3) := by decide +kernel
theorem dX8_breaks_22 : decode cX8_breaks 22 = .ok (.if_icmp .ge 27, 3) := by decide +kernel
theorem dX8_breaks_25 : decode cX8_breaks 25 = .ok (.iload_n 2, 1) := by decide +kernel
theorem dX8_breaks_26 : decode cX8_breaks 26 = .ok (.aload_n 0, 1) := by decide +kernel
theorem dX8_breaks_27 : decode cX8_breaks 27 = .ok (.getfield 12, 3) := by decide +kernel
theorem dX8_breaks_30 : decode cX8_breaks 30 = .ok (.iload_n 3, 1) := by decide +kernel
theorem dX8_breaks_31 : decode cX8_breaks 31 = .ok (.invokevirtual 211, 3) := by decide +kernel
theorem dX8_breaks_34 : decode cX8_breaks 34 = .ok (.checkcast 26, 3) := by decide +kernel
theorem dX8_breaks_37 : decode cX8_breaks 37 = .ok (.aload_n 1, 1) := by decide +kernel
theorem dX8_breaks_38 : decode cX8_breaks 38 = .ok (.invokevirtual 215, 3) := by decide +kernel
theorem dX8_breaks_41 : decode cX8_breaks 41 = .ok (.iadd, 1) := by decide +kernel
theorem dX8_breaks_42 : decode cX8_breaks 42 = .ok (.istore_n 2, 1) := by decide +kernel
theorem dX8_breaks_43 : decode cX8_breaks 43 = .ok (.iinc 3 1, 3) := by decide +kernel
theorem dX8_breaks_46 : decode cX8_breaks 46 = .ok (.goto (-32), 3) := by decide +kernel
theorem dX8_breaks_49 : decode cX8_breaks 49 = .ok (.iload_n 2, 1) := by decide +kernel
theorem dX8_breaks_50 : decode cX8_breaks 50 = .ok (.ireturn, 1) := by decide +kernel
theorem dX8_tell_0 : decode cX8_tell 0 = .ok (.iload_n 1, 1) := by decide +kernel
theorem dX8_tell_1 : decode cX8_tell 1 = .ok (.invokestatic 219, 3) := by decide +kernel
theorem dX8_tell_4 : decode cX8_tell 4 = .ok (.iload_n 2, 1) := by decide +kernel
theorem dX8_tell_5 : decode cX8_tell 5 = .ok (.iconst 0, 1) := by decide +kernel
theorem dX8_tell_6 : decode cX8_tell 6 = .ok (.bipush 99, 2) := by decide +kernel
theorem dX8_tell_8 : decode cX8_tell 8 = .ok (.invokestatic 39, 3) := by decide +kernel
theorem dX8_tell_11 : decode cX8_tell 11 = .ok (.iload_n 3, 1) := by decide +kernel
theorem dX8_tell_12 : decode cX8_tell 12 = .ok (.iconst 0, 1) := by decide +kernel
theorem dX8_tell_13 : decode cX8_tell 13 = .ok (.bipush 9, 2) := by decide +kernel
theorem dX8_tell_15 : decode cX8_tell 15 = .ok (.invokestatic 39, 3) := by decide +kernel
theorem dX8_tell_18 : decode cX8_tell 18 = .ok (.aload_n 0, 1) := by decide +kernel
theorem dX8_tell_19 : decode cX8_tell 19 = .ok (.getfield 16, 3) := by decide +kernel
theorem dX8_tell_22 : decode cX8_tell 22 = .ok (.invokevirtual 66, 3) := by decide +kernel
theorem dX8_tell_25 : decode cX8_tell 25 = .ok (.bipush 40, 2) := by decide +kernel
theorem dX8_tell_27 : decode cX8_tell 27 = .ok (.if_icmp .lt 13, 3) := by decide +kernel
theorem dX8_tell_30 : decode cX8_tell 30 = .ok (.new 70, 3) := by decide +kernel
theorem dX8_tell_33 : decode cX8_tell 33 = .ok (.dup, 1) := by decide +kernel
theorem dX8_tell_34 : decode cX8_tell 34 = .ok (.ldc 222, 2) := by decide +kernel
theorem dX8_tell_36 : decode cX8_tell 36 = .ok (.invokespecial 74, 3) := by decide +kernel
theorem dX8_tell_39 : decode cX8_tell 39 = .ok (.athrow, 1) := by decide +kernel
theorem dX8_tell_40 : decode cX8_tell 40 = .ok (.aload_n 0, 1) := by decide +kernel
theorem dX8_tell_41 : decode cX8_tell 41 = .ok (.getfield 16, 3) := by decide +kernel
theorem dX8_tell_44 : decode cX8_tell 44 = .ok (.new 224, 3) := by decide +kernel
theorem dX8_tell_47 : decode cX8_tell 47 = .ok (.dup, 1) := by decide +kernel
theorem dX8_tell_48 : decode cX8_tell 48 = .ok (.iload_n 1, 1) := by decide +kernel
theorem dX8_tell_49 : decode cX8_tell 49 = .ok (.iload_n 2, 1) := by decide +kernel
theorem dX8_tell_50 : decode cX8_tell 50 = .ok (.iload_n 3, 1) := by decide +kernel
theorem dX8_tell_51 : decode cX8_tell 51 = .ok (.iload 4, 2) := by decide +kernel
theorem dX8_tell_53 : decode cX8_tell 53 = .ok (.aload_n 0, 1) := by decide +kernel
theorem dX8_tell_54 : decode cX8_tell 54 = .ok (.getfield 226, 3) := by decide +kernel
theorem dX8_tell_57 : decode cX8_tell 57 = .ok (.invokespecial 229, 3) := by decide +kernel
theorem dX8_tell_60 : decode cX8_tell 60 = .ok (.invokevirtual 86, 3) := by decide +kernel
theorem dX8_tell_63 : decode cX8_tell 63 = .ok (.pop, 1) := by decide +kernel
theorem dX8_tell_64 : decode cX8_tell 64 = .ok (.aload_n 0, 1) := by decide +kernel
theorem dX8_tell_65 : decode cX8_tell 65 = .ok (.getfield 16, 3) := by decide +kernel
theorem dX8_tell_68 : decode cX8_tell 68 = .ok (.invokevirtual 66, 3) := by decide +kernel
theorem dX8_tell_71 : decode cX8_tell 71 = .ok (.iconst 1, 1) := by decide +kernel
theorem dX8_tell_72 : decode cX8_tell 72 = .ok (.isub, 1) := by decide +kernel
theorem dX8_tell_73 : decode cX8_tell 73 = .ok (.ireturn, 1) := by decide +kernel
theorem dX8_known_0 : decode cX8_known 0 = .ok (.iload_n 1, 1) := by decide +kernel
theorem dX8_known_1 : decode cX8_known 1 = .ok (.invokestatic 219, 3) := by decide +kernel
theorem dX8_known_4 : decode cX8_known 4 = .ok (.iload_n 2, 1) := by decide +kernel
theorem dX8_known_5 : decode cX8_known 5 = .ok (.iconst 0, 1) := by decide +kernel
theorem dX8_known_6 : decode cX8_known 6 = .ok (.bipush 99, 2) := by decide +kernel
theorem dX8_known_8 : decode cX8_known 8 = .ok (.invokestatic 39, 3) := by decide +kernel
theorem dX8_known_11 : decode cX8_known 11 = .ok (.iload_n 3, 1) := by decide +kernel
theorem dX8_known_12 : decode cX8_known 12 = .ok (.iconst 0, 1) := by decide +kernel
theorem dX8_known_13 : decode cX8_known 13 = .ok (.sipush 200, 3) := by decide +kernel
theorem dX8_known_16 : decode cX8_known 16 = .ok (.invokestatic 39, 3) := by decide +kernel
theorem dX8_known_19 : decode cX8_known 19 = .ok (.aconst_null, 1) := by decide +kernel
theorem dX8_known_20 : decode cX8_known 20 = .ok (.astore 4, 2) := by decide +kernel
theorem dX8_known_22 : decode cX8_known 22 = .ok (.iconst 0, 1) := by decide +kernel
theorem dX8_known_23 : decode cX8_known 23 = .ok (.istore 5, 2) := by decide +kernel
theorem dX8_known_25 : decode cX8_known 25 = .ok (.iload 5, 2) := by decide +kernel
theorem dX8_known_27 : decode cX8_known 27 = .ok (.aload_n 0, 1) := by decide +kernel
theorem dX8_known_28 : decode cX8_known 28 = .ok (.getfield 16, 3) := by decide +kernel
theorem dX8_known_31 : decode cX8_known 31 = .ok (.invokevirtual 66, 3) := by decide +kernel
theorem dX8_known_34 : decode cX8_known 34 = .ok (.if_icmp .ge 53, 3) := by decide +kernel
theorem dX8_known_37 : decode cX8_known 37 = .ok (.aload_n 0, 1) := by decide +kernel
theorem dX8_known_38 : decode cX8_known 38 = .ok (.getfield 16, 3) := by decide +kernel
theorem dX8_known_41 : decode cX8_known 41 = .ok (.iload 5, 2) := by decide +kernel
theorem dX8_known_43 : decode cX8_known 43 = .ok (.invokevirtual 211, 3) := by decide +kernel
theorem dX8_known_46 : decode cX8_known 46 = .ok (.checkcast 224, 3) := by decide +kernel
theorem dX8_known_49 : decode cX8_known 49 = .ok (.astore 6, 2) := by decide +kernel
theorem dX8_known_51 : decode cX8_known 51 = .ok (.aload 6, 2) := by decide +kernel
theorem dX8_known_53 : decode cX8_known 53 = .ok (.iload_n 1, 1) := by decide +kernel
theorem dX8_known_54 : decode cX8_known 54 = .ok (.iload_n 2, 1) := by decide +kernel
theorem dX8_known_55 : decode cX8_known 55 = .ok (.iload_n 3, 1) := by decide +kernel
theorem dX8_known_56 : decode cX8_known 56 = .ok (.invokevirtual 232, 3) := by decide +kernel
theorem dX8_known_59 : decode cX8_known 59 = .ok (.ifCond .eq 22, 3) := by decide +kernel
theorem dX8_known_62 : decode cX8_known 62 = .ok (.aload 4, 2) := by decide +kernel
theorem dX8_known_64 : decode cX8_known 64 = .ok (.ifnull 13, 3) := by decide +kernel
theorem dX8_known_67 : decode cX8_known 67 = .ok (.aload 6, 2) := by decide +kernel
theorem dX8_known_69 : decode cX8_known 69 = .ok (.aload 4, 2) := by decide +kernel
theorem dX8_known_71 : decode cX8_known 71 = .ok (.invokevirtual 236, 3) := by decide +kernel
theorem dX8_known_74 : decode cX8_known 74 = .ok (.ifCond .eq 7, 3) := by decide +kernel
theorem dX8_known_77 : decode cX8_known 77 = .ok (.aload 6, 2) := by decide +kernel
theorem dX8_known_79 : decode cX8_known 79 = .ok (.astore 4, 2) := by decide +kernel
theorem dX8_known_81 : decode cX8_known 81 = .ok (.iinc 5 1, 3) := by decide +kernel
theorem dX8_known_84 : decode cX8_known 84 = .ok (.goto (-59), 3) := by decide +kernel
theorem dX8_known_87 : decode cX8_known 87 = .ok (.aload 4, 2) := by decide +kernel
theorem dX8_known_89 : decode cX8_known 89 = .ok (.ifnonnull 7, 3) := by decide +kernel
theorem dX8_known_92 : decode cX8_known 92 = .ok (.iconst (-1), 1) := by decide +kernel
theorem dX8_known_93 : decode cX8_known 93 = .ok (.goto 8, 3) := by decide +kernel
theorem dX8_known_96 : decode cX8_known 96 = .ok (.aload 4, 2) := by decide +kernel
theorem dX8_known_98 : decode cX8_known 98 = .ok (.getfield 240, 3) := by decide +kernel
theorem dX8_known_101 : decode cX8_known 101 = .ok (.ireturn, 1) := by decide +kernel
theorem dX8_contradictions_0 : decode cX8_contradictions 0 = .ok (.iload_n 1, 1) := by decide +kernel
theorem dX8_contradictions_1 : decode cX8_contradictions 1 = .ok (.invokestatic 219, 3) := by decide +kernel
theorem dX8_contradictions_4 : decode cX8_contradictions 4 = .ok (.iconst 0, 1) := by decide +kernel
theorem dX8_contradictions_5 : decode cX8_contradictions 5 = .ok (.istore_n 2, 1) := by decide +kernel
theorem dX8_contradictions_6 : decode cX8_contradictions 6 = .ok (.iconst 0, 1) := by decide +kernel
theorem dX8_contradictions_7 : decode cX8_contradictions 7 = .ok (.istore_n 3, 1) := by decide +kernel
theorem dX8_contradictions_8 : decode cX8_contradictions 8 = .ok (.iload_n 3, 1) := by decide +kernel
theorem dX8_contradictions_9 : decode cX8_contradictions 9 = .ok (.aload_n 0, 1) := by decide +kernel
theorem dX8_contradictions_10 : decode cX8_contradictions 10 = .ok (.getfield 16, 3) := by decide +kernel
theorem dX8_contradictions_13 : decode cX8_contradictions 13 = .ok (.invokevirtual 66, 3) := by decide +kernel
theorem dX8_contradictions_16 : decode cX8_contradictions 16 = .ok (.if_icmp .ge 74, 3) := by decide +kernel
theorem dX8_contradictions_19 : decode cX8_contradictions 19 = .ok (.aload_n 0, 1) := by decide +kernel
theorem dX8_contradictions_20 : decode cX8_contradictions 20 = .ok (.getfield 16, 3) := by decide +kernel
theorem dX8_contradictions_23 : decode cX8_contradictions 23 = .ok (.iload_n 3, 1) := by decide +kernel
theorem dX8_contradictions_24 : decode cX8_contradictions 24 = .ok (.invokevirtual 211, 3) := by decide +kernel
theorem dX8_contradictions_27 : decode cX8_contradictions 27 = .ok (.checkcast 224, 3) := by decide +kernel
theorem dX8_contradictions_30 : decode cX8_contradictions 30 = .ok (.astore 4, 2) := by decide +kernel
theorem dX8_contradictions_32 : decode cX8_contradictions 32 = .ok (.iconst 0, 1) := by decide +kernel
theorem dX8_contradictions_33 : decode cX8_contradictions 33 = .ok (.istore 5, 2) := by decide +kernel
theorem dX8_contradictions_35 : decode cX8_contradictions 35 = .ok (.iload 5, 2) := by decide +kernel
theorem dX8_contradictions_37 : decode cX8_contradictions 37 = .ok (.iload_n 3, 1) := by decide +kernel
theorem dX8_contradictions_38 : decode cX8_contradictions 38 = .ok (.if_icmp .ge 46, 3) := by decide +kernel
theorem dX8_contradictions_41 : decode cX8_contradictions 41 = .ok (.iload_n 2, 1) := by decide +kernel
theorem dX8_contradictions_42 : decode cX8_contradictions 42 = .ok (.aload 4, 2) := by decide +kernel
theorem dX8_contradictions_44 : decode cX8_contradictions 44 = .ok (.getfield 243, 3) := by decide +kernel
theorem dX8_contradictions_47 : decode cX8_contradictions 47 = .ok (.iload_n 1, 1) := by decide +kernel
theorem dX8_contradictions_48 : decode cX8_contradictions 48 = .ok (.if_icmp .ne 27, 3) := by decide +kernel
theorem dX8_contradictions_51 : decode cX8_contradictions 51 = .ok (.aload 4, 2) := by decide +kernel
theorem dX8_contradictions_53 : decode cX8_contradictions 53 = .ok (.aload_n 0, 1) := by decide +kernel
theorem dX8_contradictions_54 : decode cX8_contradictions 54 = .ok (.getfield 16, 3) := by decide +kernel
theorem dX8_contradictions_57 : decode cX8_contradictions 57 = .ok (.iload 5, 2) := by decide +kernel
theorem dX8_contradictions_59 : decode cX8_contradictions 59 = .ok (.invokevirtual 211, 3) := by decide +kernel
theorem dX8_contradictions_62 : decode cX8_contradictions 62 = .ok (.checkcast 224, 3) := by decide +kernel
theorem dX8_contradictions_65 : decode cX8_contradictions 65 = .ok (.invokevirtual 246, 3) := by decide +kernel
theorem dX8_contradictions_68 : decode cX8_contradictions 68 = .ok (.ifCond .eq 7, 3) := by decide +kernel
theorem dX8_contradictions_71 : decode cX8_contradictions 71 = .ok (.iconst 1, 1) := by decide +kernel
theorem dX8_contradictions_72 : decode cX8_contradictions 72 = .ok (.goto 4, 3) := by decide +kernel
theorem dX8_contradictions_75 : decode cX8_contradictions 75 = .ok (.iconst 0, 1) := by decide +kernel
theorem dX8_contradictions_76 : decode cX8_contradictions 76 = .ok (.iadd, 1) := by decide +kernel
theorem dX8_contradictions_77 : decode cX8_contradictions 77 = .ok (.istore_n 2, 1) := by decide +kernel
theorem dX8_contradictions_78 : decode cX8_contradictions 78 = .ok (.iinc 5 1, 3) := by decide +kernel
theorem dX8_contradictions_81 : decode cX8_contradictions 81 = .ok (.goto (-46), 3) := by decide +kernel
theorem dX8_contradictions_84 : decode cX8_contradictions 84 = .ok (.iinc 3 1, 3) := by decide +kernel
theorem dX8_contradictions_87 : decode cX8_contradictions 87 = .ok (.goto (-79), 3) := by decide +kernel
theorem dX8_contradictions_90 : decode cX8_contradictions 90 = .ok (.iload_n 2, 1) := by decide +kernel
theorem dX8_contradictions_91 : decode cX8_contradictions 91 = .ok (.ireturn, 1) := by decide +kernel
theorem dX8_workers_0 : decode cX8_workers 0 = .ok (.iload_n 1, 1) := by decide +kernel
theorem dX8_workers_1 : decode cX8_workers 1 = .ok (.iconst 1, 1) := by decide +kernel
theorem dX8_workers_2 : decode cX8_workers 2 = .ok (.iconst 5, 1) := by decide +kernel
theorem dX8_workers_3 : decode cX8_workers 3 = .ok (.invokestatic 39, 3) := by decide +kernel
theorem dX8_workers_6 : decode cX8_workers 6 = .ok (.aload_n 0, 1) := by decide +kernel
theorem dX8_workers_7 : decode cX8_workers 7 = .ok (.getfield 19, 3) := by decide +kernel
theorem dX8_workers_10 : decode cX8_workers 10 = .ok (.istore_n 2, 1) := by decide +kernel
theorem dX8_workers_11 : decode cX8_workers 11 = .ok (.aload_n 0, 1) := by decide +kernel
theorem dX8_workers_12 : decode cX8_workers 12 = .ok (.iload_n 1, 1) := by decide +kernel
theorem dX8_workers_13 : decode cX8_workers 13 = .ok (.putfield 19, 3) := by decide +kernel
theorem dX8_workers_16 : decode cX8_workers 16 = .ok (.iload_n 2, 1) := by decide +kernel
theorem dX8_workers_17 : decode cX8_workers 17 = .ok (.ireturn, 1) := by decide +kernel
theorem dX8_pass_0 : decode cX8_pass 0 = .ok (.iload_n 1, 1) := by decide +kernel
theorem dX8_pass_1 : decode cX8_pass 1 = .ok (.iconst 1, 1) := by decide +kernel
theorem dX8_pass_2 : decode cX8_pass 2 = .ok (.bipush 50, 2) := by decide +kernel
theorem dX8_pass_4 : decode cX8_pass 4 = .ok (.invokestatic 39, 3) := by decide +kernel
theorem dX8_pass_7 : decode cX8_pass 7 = .ok (.aload_n 0, 1) := by decide +kernel
theorem dX8_pass_8 : decode cX8_pass 8 = .ok (.getfield 226, 3) := by decide +kernel
theorem dX8_pass_11 : decode cX8_pass 11 = .ok (.iload_n 1, 1) := by decide +kernel
theorem dX8_pass_12 : decode cX8_pass 12 = .ok (.iadd, 1) := by decide +kernel
theorem dX8_pass_13 : decode cX8_pass 13 = .ok (.sipush 200, 3) := by decide +kernel
theorem dX8_pass_16 : decode cX8_pass 16 = .ok (.if_icmp .le 13, 3) := by decide +kernel
theorem dX8_pass_19 : decode cX8_pass 19 = .ok (.new 70, 3) := by decide +kernel
theorem dX8_pass_22 : decode cX8_pass 22 = .ok (.dup, 1) := by decide +kernel
theorem dX8_pass_23 : decode cX8_pass 23 = .ok (.ldc 249, 2) := by decide +kernel
theorem dX8_pass_25 : decode cX8_pass 25 = .ok (.invokespecial 74, 3) := by decide +kernel
theorem dX8_pass_28 : decode cX8_pass 28 = .ok (.athrow, 1) := by decide +kernel
theorem dX8_pass_29 : decode cX8_pass 29 = .ok (.iconst 0, 1) := by decide +kernel
theorem dX8_pass_30 : decode cX8_pass 30 = .ok (.istore_n 2, 1) := by decide +kernel
theorem dX8_pass_31 : decode cX8_pass 31 = .ok (.iload_n 2, 1) := by decide +kernel
theorem dX8_pass_32 : decode cX8_pass 32 = .ok (.iload_n 1, 1) := by decide +kernel
theorem dX8_pass_33 : decode cX8_pass 33 = .ok (.if_icmp .ge 13, 3) := by decide +kernel
theorem dX8_pass_36 : decode cX8_pass 36 = .ok (.aload_n 0, 1) := by decide +kernel
theorem dX8_pass_37 : decode cX8_pass 37 = .ok (.invokevirtual 251, 3) := by decide +kernel
theorem dX8_pass_40 : decode cX8_pass 40 = .ok (.iinc 2 1, 3) := by decide +kernel
theorem dX8_pass_43 : decode cX8_pass 43 = .ok (.goto (-12), 3) := by decide +kernel
theorem dX8_pass_46 : decode cX8_pass 46 = .ok (.aload_n 0, 1) := by decide +kernel
theorem dX8_pass_47 : decode cX8_pass 47 = .ok (.getfield 226, 3) := by decide +kernel
theorem dX8_pass_50 : decode cX8_pass 50 = .ok (.ireturn, 1) := by decide +kernel
theorem dX8_stage_0 : decode cX8_stage 0 = .ok (.aload_n 0, 1) := by decide +kernel
theorem dX8_stage_1 : decode cX8_stage 1 = .ok (.iload_n 1, 1) := by decide +kernel
theorem dX8_stage_2 : decode cX8_stage 2 = .ok (.invokevirtual 35, 3) := by decide +kernel
theorem dX8_stage_5 : decode cX8_stage 5 = .ok (.getfield 254, 3) := by decide +kernel
theorem dX8_stage_8 : decode cX8_stage 8 = .ok (.ireturn, 1) := by decide +kernel
theorem dX8_press_0 : decode cX8_press 0 = .ok (.aload_n 0, 1) := by decide +kernel
theorem dX8_press_1 : decode cX8_press 1 = .ok (.iload_n 1, 1) := by decide +kernel
theorem dX8_press_2 : decode cX8_press 2 = .ok (.invokevirtual 35, 3) := by decide +kernel
theorem dX8_press_5 : decode cX8_press 5 = .ok (.astore_n 2, 1) := by decide +kernel
theorem dX8_press_6 : decode cX8_press 6 = .ok (.aload_n 2, 1) := by decide +kernel
theorem dX8_press_7 : decode cX8_press 7 = .ok (.getfield 254, 3) := by decide +kernel
theorem dX8_press_10 : decode cX8_press 10 = .ok (.iconst 4, 1) := by decide +kernel
theorem dX8_press_11 : decode cX8_press 11 = .ok (.if_icmp .ge 14, 3) := by decide +kernel
theorem dX8_press_14 : decode cX8_press 14 = .ok (.new 70, 3) := by decide +kernel
theorem dX8_press_17 : decode cX8_press 17 = .ok (.dup, 1) := by decide +kernel
theorem dX8_press_18 : decode cX8_press 18 = .ok (.ldc_w 257, 3) := by decide +kernel
theorem dX8_press_21 : decode cX8_press 21 = .ok (.invokespecial 74, 3) := by decide +kernel
theorem dX8_press_24 : decode cX8_press 24 = .ok (.athrow, 1) := by decide +kernel
theorem dX8_press_25 : decode cX8_press 25 = .ok (.aload_n 2, 1) := by decide +kernel
theorem dX8_press_26 : decode cX8_press 26 = .ok (.invokestatic 59, 3) := by decide +kernel
theorem dX8_press_29 : decode cX8_press 29 = .ok (.aload_n 2, 1) := by decide +kernel
theorem dX8_press_30 : decode cX8_press 30 = .ok (.aload_n 2, 1) := by decide +kernel
theorem dX8_press_31 : decode cX8_press 31 = .ok (.aload_n 0, 1) := by decide +kernel
theorem dX8_press_32 : decode cX8_press 32 = .ok (.getfield 226, 3) := by decide +kernel
theorem dX8_press_35 : decode cX8_press 35 = .ok (.invokevirtual 259, 3) := by decide +kernel
theorem dX8_press_38 : decode cX8_press 38 = .ok (.putfield 263, 3) := by decide +kernel
theorem dX8_press_41 : decode cX8_press 41 = .ok (.aload_n 2, 1) := by decide +kernel
theorem dX8_press_42 : decode cX8_press 42 = .ok (.getfield 63, 3) := by decide +kernel
theorem dX8_press_45 : decode cX8_press 45 = .ok (.invokevirtual 66, 3) := by decide +kernel
theorem dX8_press_48 : decode cX8_press 48 = .ok (.ireturn, 1) := by decide +kernel
theorem dX8_printed_0 : decode cX8_printed 0 = .ok (.aload_n 0, 1) := by decide +kernel
theorem dX8_printed_1 : decode cX8_printed 1 = .ok (.iload_n 1, 1) := by decide +kernel
theorem dX8_printed_2 : decode cX8_printed 2 = .ok (.invokevirtual 35, 3) := by decide +kernel
theorem dX8_printed_5 : decode cX8_printed 5 = .ok (.getfield 263, 3) := by decide +kernel
theorem dX8_printed_8 : decode cX8_printed 8 = .ok (.astore_n 3, 1) := by decide +kernel
theorem dX8_printed_9 : decode cX8_printed 9 = .ok (.iload_n 2, 1) := by decide +kernel
theorem dX8_printed_10 : decode cX8_printed 10 = .ok (.iconst 0, 1) := by decide +kernel
theorem dX8_printed_11 : decode cX8_printed 11 = .ok (.bipush 10, 2) := by decide +kernel
theorem dX8_printed_13 : decode cX8_printed 13 = .ok (.invokestatic 39, 3) := by decide +kernel
theorem dX8_printed_16 : decode cX8_printed 16 = .ok (.aload_n 3, 1) := by decide +kernel
theorem dX8_printed_17 : decode cX8_printed 17 = .ok (.ifnull 9, 3) := by decide +kernel
theorem dX8_printed_20 : decode cX8_printed 20 = .ok (.iload_n 2, 1) := by decide +kernel
theorem dX8_printed_21 : decode cX8_printed 21 = .ok (.aload_n 3, 1) := by decide +kernel
theorem dX8_printed_22 : decode cX8_printed 22 = .ok (.arraylength, 1) := by decide +kernel
theorem dX8_printed_23 : decode cX8_printed 23 = .ok (.if_icmp .lt 7, 3) := by decide +kernel
theorem dX8_printed_26 : decode cX8_printed 26 = .ok (.iconst (-1), 1) := by decide +kernel
theorem dX8_printed_27 : decode cX8_printed 27 = .ok (.goto 6, 3) := by decide +kernel
theorem dX8_printed_30 : decode cX8_printed 30 = .ok (.aload_n 3, 1) := by decide +kernel
theorem dX8_printed_31 : decode cX8_printed 31 = .ok (.iload_n 2, 1) := by decide +kernel
theorem dX8_printed_32 : decode cX8_printed 32 = .ok (.iaload, 1) := by decide +kernel
theorem dX8_printed_33 : decode cX8_printed 33 = .ok (.ireturn, 1) := by decide +kernel
theorem dX8_requireRange_0 : decode cX8_requireRange 0 = .ok (.iload_n 0, 1) := by decide +kernel
theorem dX8_requireRange_1 : decode cX8_requireRange 1 = .ok (.iload_n 1, 1) := by decide +kernel
theorem dX8_requireRange_2 : decode cX8_requireRange 2 = .ok (.if_icmp .lt 8, 3) := by decide +kernel
theorem dX8_requireRange_5 : decode cX8_requireRange 5 = .ok (.iload_n 0, 1) := by decide +kernel
theorem dX8_requireRange_6 : decode cX8_requireRange 6 = .ok (.iload_n 2, 1) := by decide +kernel
theorem dX8_requireRange_7 : decode cX8_requireRange 7 = .ok (.if_icmp .le 14, 3) := by decide +kernel
theorem dX8_requireRange_10 : decode cX8_requireRange 10 = .ok (.new 52, 3) := by decide +kernel
theorem dX8_requireRange_13 : decode cX8_requireRange 13 = .ok (.dup, 1) := by decide +kernel
theorem dX8_requireRange_14 : decode cX8_requireRange 14 = .ok (.ldc_w 267, 3) := by decide +kernel
theorem dX8_requireRange_17 : decode cX8_requireRange 17 = .ok (.invokespecial 56, 3) := by decide +kernel
theorem dX8_requireRange_20 : decode cX8_requireRange 20 = .ok (.athrow, 1) := by decide +kernel
theorem dX8_requireRange_21 : decode cX8_requireRange 21 = .ok (.return_, 1) := by decide +kernel
theorem dX8_requireUnprinted_0 : decode cX8_requireUnprinted 0 = .ok (.aload_n 0, 1) := by decide +kernel
theorem dX8_requireUnprinted_1 : decode cX8_requireUnprinted 1 = .ok (.getfield 263, 3) := by decide +kernel
theorem dX8_requireUnprinted_4 : decode cX8_requireUnprinted 4 = .ok (.ifnull 14, 3) := by decide +kernel
theorem dX8_requireUnprinted_7 : decode cX8_requireUnprinted 7 = .ok (.new 70, 3) := by decide +kernel
theorem dX8_requireUnprinted_10 : decode cX8_requireUnprinted 10 = .ok (.dup, 1) := by decide +kernel
theorem dX8_requireUnprinted_11 : decode cX8_requireUnprinted 11 = .ok (.ldc_w 269, 3) := by decide +kernel
theorem dX8_requireUnprinted_14 : decode cX8_requireUnprinted 14 = .ok (.invokespecial 74, 3) := by decide +kernel
theorem dX8_requireUnprinted_17 : decode cX8_requireUnprinted 17 = .ok (.athrow, 1) := by decide +kernel
theorem dX8_requireUnprinted_18 : decode cX8_requireUnprinted 18 = .ok (.return_, 1) := by decide +kernel
theorem dX8_requireFact_0 : decode cX8_requireFact 0 = .ok (.iload_n 0, 1) := by decide +kernel
theorem dX8_requireFact_1 : decode cX8_requireFact 1 = .ok (.ifCond .lt 9, 3) := by decide +kernel
theorem dX8_requireFact_4 : decode cX8_requireFact 4 = .ok (.iload_n 0, 1) := by decide +kernel
theorem dX8_requireFact_5 : decode cX8_requireFact 5 = .ok (.bipush 9, 2) := by decide +kernel
theorem dX8_requireFact_7 : decode cX8_requireFact 7 = .ok (.if_icmp .le 14, 3) := by decide +kernel
theorem dX8_requireFact_10 : decode cX8_requireFact 10 = .ok (.new 94, 3) := by decide +kernel
theorem dX8_requireFact_13 : decode cX8_requireFact 13 = .ok (.dup, 1) := by decide +kernel
theorem dX8_requireFact_14 : decode cX8_requireFact 14 = .ok (.ldc_w 271, 3) := by decide +kernel
theorem dX8_requireFact_17 : decode cX8_requireFact 17 = .ok (.invokespecial 98, 3) := by decide +kernel
theorem dX8_requireFact_20 : decode cX8_requireFact 20 = .ok (.athrow, 1) := by decide +kernel
theorem dX8_requireFact_21 : decode cX8_requireFact 21 = .ok (.return_, 1) := by decide +kernel
theorem dX8_requireFigure_0 : decode cX8_requireFigure 0 = .ok (.iload_n 1, 1) := by decide +kernel
theorem dX8_requireFigure_1 : decode cX8_requireFigure 1 = .ok (.ifCond .lt 11, 3) := by decide +kernel
theorem dX8_requireFigure_4 : decode cX8_requireFigure 4 = .ok (.iload_n 1, 1) := by decide +kernel
theorem dX8_requireFigure_5 : decode cX8_requireFigure 5 = .ok (.aload_n 0, 1) := by decide +kernel
theorem dX8_requireFigure_6 : decode cX8_requireFigure 6 = .ok (.getfield 126, 3) := by decide +kernel
theorem dX8_requireFigure_9 : decode cX8_requireFigure 9 = .ok (.if_icmp .lt 14, 3) := by decide +kernel
theorem dX8_requireFigure_12 : decode cX8_requireFigure 12 = .ok (.new 94, 3) := by decide +kernel
theorem dX8_requireFigure_15 : decode cX8_requireFigure 15 = .ok (.dup, 1) := by decide +kernel
theorem dX8_requireFigure_16 : decode cX8_requireFigure 16 = .ok (.ldc_w 273, 3) := by decide +kernel
theorem dX8_requireFigure_19 : decode cX8_requireFigure 19 = .ok (.invokespecial 98, 3) := by decide +kernel
theorem dX8_requireFigure_22 : decode cX8_requireFigure 22 = .ok (.athrow, 1) := by decide +kernel
theorem dX8_requireFigure_23 : decode cX8_requireFigure 23 = .ok (.return_, 1) := by decide +kernel
theorem dX8_existingPage_0 : decode cX8_existingPage 0 = .ok (.iload_n 1, 1) := by decide +kernel
theorem dX8_existingPage_1 : decode cX8_existingPage 1 = .ok (.ifCond .lt 14, 3) := by decide +kernel
theorem dX8_existingPage_4 : decode cX8_existingPage 4 = .ok (.iload_n 1, 1) := by decide +kernel
theorem dX8_existingPage_5 : decode cX8_existingPage 5 = .ok (.aload_n 0, 1) := by decide +kernel
theorem dX8_existingPage_6 : decode cX8_existingPage 6 = .ok (.getfield 12, 3) := by decide +kernel
theorem dX8_existingPage_9 : decode cX8_existingPage 9 = .ok (.invokevirtual 66, 3) := by decide +kernel
theorem dX8_existingPage_12 : decode cX8_existingPage 12 = .ok (.if_icmp .lt 14, 3) := by decide +kernel
theorem dX8_existingPage_15 : decode cX8_existingPage 15 = .ok (.new 94, 3) := by decide +kernel
theorem dX8_existingPage_18 : decode cX8_existingPage 18 = .ok (.dup, 1) := by decide +kernel
theorem dX8_existingPage_19 : decode cX8_existingPage 19 = .ok (.ldc_w 275, 3) := by decide +kernel
theorem dX8_existingPage_22 : decode cX8_existingPage 22 = .ok (.invokespecial 98, 3) := by decide +kernel
theorem dX8_existingPage_25 : decode cX8_existingPage 25 = .ok (.athrow, 1) := by decide +kernel
theorem dX8_existingPage_26 : decode cX8_existingPage 26 = .ok (.aload_n 0, 1) := by decide +kernel
theorem dX8_existingPage_27 : decode cX8_existingPage 27 = .ok (.getfield 12, 3) := by decide +kernel
theorem dX8_existingPage_30 : decode cX8_existingPage 30 = .ok (.iload_n 1, 1) := by decide +kernel
theorem dX8_existingPage_31 : decode cX8_existingPage 31 = .ok (.invokevirtual 211, 3) := by decide +kernel
theorem dX8_existingPage_34 : decode cX8_existingPage 34 = .ok (.checkcast 26, 3) := by decide +kernel
theorem dX8_existingPage_37 : decode cX8_existingPage 37 = .ok (.areturn, 1) := by decide +kernel
theorem dX8_existingPanel_0 : decode cX8_existingPanel 0 = .ok (.iload_n 1, 1) := by decide +kernel
theorem dX8_existingPanel_1 : decode cX8_existingPanel 1 = .ok (.ifCond .lt 14, 3) := by decide +kernel
theorem dX8_existingPanel_4 : decode cX8_existingPanel 4 = .ok (.iload_n 1, 1) := by decide +kernel
theorem dX8_existingPanel_5 : decode cX8_existingPanel 5 = .ok (.aload_n 0, 1) := by decide +kernel
theorem dX8_existingPanel_6 : decode cX8_existingPanel 6 = .ok (.getfield 63, 3) := by decide +kernel
theorem dX8_existingPanel_9 : decode cX8_existingPanel 9 = .ok (.invokevirtual 66, 3) := by decide +kernel
theorem dX8_existingPanel_12 : decode cX8_existingPanel 12 = .ok (.if_icmp .lt 14, 3) := by decide +kernel
theorem dX8_existingPanel_15 : decode cX8_existingPanel 15 = .ok (.new 94, 3) := by decide +kernel
theorem dX8_existingPanel_18 : decode cX8_existingPanel 18 = .ok (.dup, 1) := by decide +kernel
theorem dX8_existingPanel_19 : decode cX8_existingPanel 19 = .ok (.ldc_w 277, 3) := by decide +kernel
theorem dX8_existingPanel_22 : decode cX8_existingPanel 22 = .ok (.invokespecial 98, 3) := by decide +kernel
theorem dX8_existingPanel_25 : decode cX8_existingPanel 25 = .ok (.athrow, 1) := by decide +kernel
theorem dX8_existingPanel_26 : decode cX8_existingPanel 26 = .ok (.aload_n 0, 1) := by decide +kernel
theorem dX8_existingPanel_27 : decode cX8_existingPanel 27 = .ok (.getfield 63, 3) := by decide +kernel
theorem dX8_existingPanel_30 : decode cX8_existingPanel 30 = .ok (.iload_n 1, 1) := by decide +kernel
theorem dX8_existingPanel_31 : decode cX8_existingPanel 31 = .ok (.invokevirtual 211, 3) := by decide +kernel
theorem dX8_existingPanel_34 : decode cX8_existingPanel 34 = .ok (.checkcast 81, 3) := by decide +kernel
theorem dX8_existingPanel_37 : decode cX8_existingPanel 37 = .ok (.areturn, 1) := by decide +kernel
theorem dX8_existingBalloon_0 : decode cX8_existingBalloon 0 = .ok (.iload_n 1, 1) := by decide +kernel
theorem dX8_existingBalloon_1 : decode cX8_existingBalloon 1 = .ok (.ifCond .lt 14, 3) := by decide +kernel
theorem dX8_existingBalloon_4 : decode cX8_existingBalloon 4 = .ok (.iload_n 1, 1) := by decide +kernel
theorem dX8_existingBalloon_5 : decode cX8_existingBalloon 5 = .ok (.aload_n 0, 1) := by decide +kernel
theorem dX8_existingBalloon_6 : decode cX8_existingBalloon 6 = .ok (.getfield 157, 3) := by decide +kernel
theorem dX8_existingBalloon_9 : decode cX8_existingBalloon 9 = .ok (.invokevirtual 66, 3) := by decide +kernel
theorem dX8_existingBalloon_12 : decode cX8_existingBalloon 12 = .ok (.if_icmp .lt 14, 3) := by decide +kernel
theorem dX8_existingBalloon_15 : decode cX8_existingBalloon 15 = .ok (.new 94, 3) := by decide +kernel
theorem dX8_existingBalloon_18 : decode cX8_existingBalloon 18 = .ok (.dup, 1) := by decide +kernel
theorem dX8_existingBalloon_19 : decode cX8_existingBalloon 19 = .ok (.ldc_w 279, 3) := by decide +kernel
theorem dX8_existingBalloon_22 : decode cX8_existingBalloon 22 = .ok (.invokespecial 98, 3) := by decide +kernel
theorem dX8_existingBalloon_25 : decode cX8_existingBalloon 25 = .ok (.athrow, 1) := by decide +kernel
theorem dX8_existingBalloon_26 : decode cX8_existingBalloon 26 = .ok (.aload_n 0, 1) := by decide +kernel
theorem dX8_existingBalloon_27 : decode cX8_existingBalloon 27 = .ok (.getfield 157, 3) := by decide +kernel
theorem dX8_existingBalloon_30 : decode cX8_existingBalloon 30 = .ok (.iload_n 1, 1) := by decide +kernel
theorem dX8_existingBalloon_31 : decode cX8_existingBalloon 31 = .ok (.invokevirtual 211, 3) := by decide +kernel
theorem dX8_existingBalloon_34 : decode cX8_existingBalloon 34 = .ok (.checkcast 162, 3) := by decide +kernel
theorem dX8_existingBalloon_37 : decode cX8_existingBalloon 37 = .ok (.areturn, 1) := by decide +kernel
theorem dX8_requireRoomForPage_0 : decode cX8_requireRoomForPage 0 = .ok (.aload_n 0, 1) := by decide +kernel
theorem dX8_requireRoomForPage_1 : decode cX8_requireRoomForPage 1 = .ok (.getfield 12, 3) := by decide +kernel
theorem dX8_requireRoomForPage_4 : decode cX8_requireRoomForPage 4 = .ok (.invokevirtual 66, 3) := by decide +kernel
theorem dX8_requireRoomForPage_7 : decode cX8_requireRoomForPage 7 = .ok (.bipush 8, 2) := by decide +kernel
theorem dX8_requireRoomForPage_9 : decode cX8_requireRoomForPage 9 = .ok (.if_icmp .lt 14, 3) := by decide +kernel
theorem dX8_requireRoomForPage_12 : decode cX8_requireRoomForPage 12 = .ok (.new 70, 3) := by decide +kernel
theorem dX8_requireRoomForPage_15 : decode cX8_requireRoomForPage 15 = .ok (.dup, 1) := by decide +kernel
theorem dX8_requireRoomForPage_16 : decode cX8_requireRoomForPage 16 = .ok (.ldc_w 281, 3) := by decide +kernel
theorem dX8_requireRoomForPage_19 : decode cX8_requireRoomForPage 19 = .ok (.invokespecial 74, 3) := by decide +kernel
theorem dX8_requireRoomForPage_22 : decode cX8_requireRoomForPage 22 = .ok (.athrow, 1) := by decide +kernel
theorem dX8_requireRoomForPage_23 : decode cX8_requireRoomForPage 23 = .ok (.return_, 1) := by decide +kernel
theorem dX8_addPage_0 : decode cX8_addPage 0 = .ok (.aload_n 0, 1) := by decide +kernel
theorem dX8_addPage_1 : decode cX8_addPage 1 = .ok (.getfield 12, 3) := by decide +kernel
theorem dX8_addPage_4 : decode cX8_addPage 4 = .ok (.aload_n 1, 1) := by decide +kernel
theorem dX8_addPage_5 : decode cX8_addPage 5 = .ok (.invokevirtual 86, 3) := by decide +kernel
theorem dX8_addPage_8 : decode cX8_addPage 8 = .ok (.pop, 1) := by decide +kernel
theorem dX8_addPage_9 : decode cX8_addPage 9 = .ok (.aload_n 0, 1) := by decide +kernel
theorem dX8_addPage_10 : decode cX8_addPage 10 = .ok (.getfield 12, 3) := by decide +kernel
theorem dX8_addPage_13 : decode cX8_addPage 13 = .ok (.invokevirtual 66, 3) := by decide +kernel
theorem dX8_addPage_16 : decode cX8_addPage 16 = .ok (.iconst 1, 1) := by decide +kernel
theorem dX8_addPage_17 : decode cX8_addPage 17 = .ok (.isub, 1) := by decide +kernel
theorem dX8_addPage_18 : decode cX8_addPage 18 = .ok (.ireturn, 1) := by decide +kernel
theorem dX8_countOrders_0 : decode cX8_countOrders 0 = .ok (.iload_n 1, 1) := by decide +kernel
theorem dX8_countOrders_1 : decode cX8_countOrders 1 = .ok (.ifCond .ne 5, 3) := by decide +kernel
theorem dX8_countOrders_4 : decode cX8_countOrders 4 = .ok (.iconst 1, 1) := by decide +kernel
theorem dX8_countOrders_5 : decode cX8_countOrders 5 = .ok (.ireturn, 1) := by decide +kernel
theorem dX8_countOrders_6 : decode cX8_countOrders 6 = .ok (.iload_n 3, 1) := by decide +kernel
theorem dX8_countOrders_7 : decode cX8_countOrders 7 = .ok (.bipush 8, 2) := by decide +kernel
theorem dX8_countOrders_9 : decode cX8_countOrders 9 = .ok (.if_icmp .lt 5, 3) := by decide +kernel
theorem dX8_countOrders_12 : decode cX8_countOrders 12 = .ok (.iconst 0, 1) := by decide +kernel
theorem dX8_countOrders_13 : decode cX8_countOrders 13 = .ok (.ireturn, 1) := by decide +kernel
theorem dX8_countOrders_14 : decode cX8_countOrders 14 = .ok (.iconst 0, 1) := by decide +kernel
theorem dX8_countOrders_15 : decode cX8_countOrders 15 = .ok (.istore 4, 2) := by decide +kernel
theorem dX8_countOrders_17 : decode cX8_countOrders 17 = .ok (.iconst 0, 1) := by decide +kernel
theorem dX8_countOrders_18 : decode cX8_countOrders 18 = .ok (.istore 5, 2) := by decide +kernel
theorem dX8_countOrders_20 : decode cX8_countOrders 20 = .ok (.iload 5, 2) := by decide +kernel
theorem dX8_countOrders_22 : decode cX8_countOrders 22 = .ok (.aload_n 0, 1) := by decide +kernel
theorem dX8_countOrders_23 : decode cX8_countOrders 23 = .ok (.getfield 63, 3) := by decide +kernel
theorem dX8_countOrders_26 : decode cX8_countOrders 26 = .ok (.invokevirtual 66, 3) := by decide +kernel
theorem dX8_countOrders_29 : decode cX8_countOrders 29 = .ok (.if_icmp .ge 50, 3) := by decide +kernel
theorem dX8_countOrders_32 : decode cX8_countOrders 32 = .ok (.iload_n 1, 1) := by decide +kernel
theorem dX8_countOrders_33 : decode cX8_countOrders 33 = .ok (.iload 5, 2) := by decide +kernel
theorem dX8_countOrders_35 : decode cX8_countOrders 35 = .ok (.invokestatic 283, 3) := by decide +kernel
theorem dX8_countOrders_38 : decode cX8_countOrders 38 = .ok (.ifCond .eq 35, 3) := by decide +kernel
theorem dX8_countOrders_41 : decode cX8_countOrders 41 = .ok (.aload_n 0, 1) := by decide +kernel
theorem dX8_countOrders_42 : decode cX8_countOrders 42 = .ok (.iload 5, 2) := by decide +kernel
theorem dX8_countOrders_44 : decode cX8_countOrders 44 = .ok (.iload_n 1, 1) := by decide +kernel
theorem dX8_countOrders_45 : decode cX8_countOrders 45 = .ok (.iload_n 2, 1) := by decide +kernel
theorem dX8_countOrders_46 : decode cX8_countOrders 46 = .ok (.invokevirtual 287, 3) := by decide +kernel
theorem dX8_countOrders_49 : decode cX8_countOrders 49 = .ok (.ifCond .ne 24, 3) := by decide +kernel
theorem dX8_countOrders_52 : decode cX8_countOrders 52 = .ok (.iload 4, 2) := by decide +kernel
theorem dX8_countOrders_54 : decode cX8_countOrders 54 = .ok (.aload_n 0, 1) := by decide +kernel
theorem dX8_countOrders_55 : decode cX8_countOrders 55 = .ok (.iload_n 1, 1) := by decide +kernel
theorem dX8_countOrders_56 : decode cX8_countOrders 56 = .ok (.iconst 1, 1) := by decide +kernel
theorem dX8_countOrders_57 : decode cX8_countOrders 57 = .ok (.iload 5, 2) := by decide +kernel
theorem dX8_countOrders_59 : decode cX8_countOrders 59 = .ok (.ishl, 1) := by decide +kernel
theorem dX8_countOrders_60 : decode cX8_countOrders 60 = .ok (.iconst (-1), 1) := by decide +kernel
theorem dX8_countOrders_61 : decode cX8_countOrders 61 = .ok (.ixor, 1) := by decide +kernel
theorem dX8_countOrders_62 : decode cX8_countOrders 62 = .ok (.iand, 1) := by decide +kernel
theorem dX8_countOrders_63 : decode cX8_countOrders 63 = .ok (.iload_n 2, 1) := by decide +kernel
theorem dX8_countOrders_64 : decode cX8_countOrders 64 = .ok (.iload_n 3, 1) := by decide +kernel
theorem dX8_countOrders_65 : decode cX8_countOrders 65 = .ok (.iconst 1, 1) := by decide +kernel
theorem dX8_countOrders_66 : decode cX8_countOrders 66 = .ok (.iadd, 1) := by decide +kernel
theorem dX8_countOrders_67 : decode cX8_countOrders 67 = .ok (.invokestatic 115, 3) := by decide +kernel
theorem dX8_countOrders_70 : decode cX8_countOrders 70 = .ok (.iadd, 1) := by decide +kernel
theorem dX8_countOrders_71 : decode cX8_countOrders 71 = .ok (.istore 4, 2) := by decide +kernel
theorem dX8_countOrders_73 : decode cX8_countOrders 73 = .ok (.iinc 5 1, 3) := by decide +kernel
theorem dX8_countOrders_76 : decode cX8_countOrders 76 = .ok (.goto (-56), 3) := by decide +kernel
theorem dX8_countOrders_79 : decode cX8_countOrders 79 = .ok (.iload 4, 2) := by decide +kernel
theorem dX8_countOrders_81 : decode cX8_countOrders 81 = .ok (.ireturn, 1) := by decide +kernel
theorem dX8_isIn_0 : decode cX8_isIn 0 = .ok (.iload_n 0, 1) := by decide +kernel
theorem dX8_isIn_1 : decode cX8_isIn 1 = .ok (.iload_n 1, 1) := by decide +kernel
theorem dX8_isIn_2 : decode cX8_isIn 2 = .ok (.ishr, 1) := by decide +kernel
theorem dX8_isIn_3 : decode cX8_isIn 3 = .ok (.iconst 1, 1) := by decide +kernel
theorem dX8_isIn_4 : decode cX8_isIn 4 = .ok (.iand, 1) := by decide +kernel
theorem dX8_isIn_5 : decode cX8_isIn 5 = .ok (.iconst 1, 1) := by decide +kernel
theorem dX8_isIn_6 : decode cX8_isIn 6 = .ok (.if_icmp .ne 7, 3) := by decide +kernel
theorem dX8_isIn_9 : decode cX8_isIn 9 = .ok (.iconst 1, 1) := by decide +kernel
theorem dX8_isIn_10 : decode cX8_isIn 10 = .ok (.goto 4, 3) := by decide +kernel
theorem dX8_isIn_13 : decode cX8_isIn 13 = .ok (.iconst 0, 1) := by decide +kernel
theorem dX8_isIn_14 : decode cX8_isIn 14 = .ok (.ireturn, 1) := by decide +kernel
theorem dX8_workOneWeek_0 : decode cX8_workOneWeek 0 = .ok (.aload_n 0, 1) := by decide +kernel
theorem dX8_workOneWeek_1 : decode cX8_workOneWeek 1 = .ok (.getfield 19, 3) := by decide +kernel
theorem dX8_workOneWeek_4 : decode cX8_workOneWeek 4 = .ok (.istore_n 1, 1) := by decide +kernel
theorem dX8_workOneWeek_5 : decode cX8_workOneWeek 5 = .ok (.iconst 0, 1) := by decide +kernel
theorem dX8_workOneWeek_6 : decode cX8_workOneWeek 6 = .ok (.istore_n 2, 1) := by decide +kernel
theorem dX8_workOneWeek_7 : decode cX8_workOneWeek 7 = .ok (.iload_n 2, 1) := by decide +kernel
theorem dX8_workOneWeek_8 : decode cX8_workOneWeek 8 = .ok (.aload_n 0, 1) := by decide +kernel
theorem dX8_workOneWeek_9 : decode cX8_workOneWeek 9 = .ok (.getfield 12, 3) := by decide +kernel
theorem dX8_workOneWeek_12 : decode cX8_workOneWeek 12 = .ok (.invokevirtual 66, 3) := by decide +kernel
theorem dX8_workOneWeek_15 : decode cX8_workOneWeek 15 = .ok (.if_icmp .ge 46, 3) := by decide +kernel
theorem dX8_workOneWeek_18 : decode cX8_workOneWeek 18 = .ok (.iload_n 1, 1) := by decide +kernel
theorem dX8_workOneWeek_19 : decode cX8_workOneWeek 19 = .ok (.ifCond .le 42, 3) := by decide +kernel
theorem dX8_workOneWeek_22 : decode cX8_workOneWeek 22 = .ok (.aload_n 0, 1) := by decide +kernel
theorem dX8_workOneWeek_23 : decode cX8_workOneWeek 23 = .ok (.getfield 12, 3) := by decide +kernel
theorem dX8_workOneWeek_26 : decode cX8_workOneWeek 26 = .ok (.iload_n 2, 1) := by decide +kernel
theorem dX8_workOneWeek_27 : decode cX8_workOneWeek 27 = .ok (.invokevirtual 211, 3) := by decide +kernel
theorem dX8_workOneWeek_30 : decode cX8_workOneWeek 30 = .ok (.checkcast 26, 3) := by decide +kernel
theorem dX8_workOneWeek_33 : decode cX8_workOneWeek 33 = .ok (.astore_n 3, 1) := by decide +kernel
theorem dX8_workOneWeek_34 : decode cX8_workOneWeek 34 = .ok (.aload_n 3, 1) := by decide +kernel
theorem dX8_workOneWeek_35 : decode cX8_workOneWeek 35 = .ok (.getfield 254, 3) := by decide +kernel
theorem dX8_workOneWeek_38 : decode cX8_workOneWeek 38 = .ok (.iconst 4, 1) := by decide +kernel
theorem dX8_workOneWeek_39 : decode cX8_workOneWeek 39 = .ok (.if_icmp .ge 16, 3) := by decide +kernel
theorem dX8_workOneWeek_42 : decode cX8_workOneWeek 42 = .ok (.aload_n 3, 1) := by decide +kernel
theorem dX8_workOneWeek_43 : decode cX8_workOneWeek 43 = .ok (.dup, 1) := by decide +kernel
theorem dX8_workOneWeek_44 : decode cX8_workOneWeek 44 = .ok (.getfield 254, 3) := by decide +kernel
theorem dX8_workOneWeek_47 : decode cX8_workOneWeek 47 = .ok (.iconst 1, 1) := by decide +kernel
theorem dX8_workOneWeek_48 : decode cX8_workOneWeek 48 = .ok (.iadd, 1) := by decide +kernel
theorem dX8_workOneWeek_49 : decode cX8_workOneWeek 49 = .ok (.putfield 254, 3) := by decide +kernel
theorem dX8_workOneWeek_52 : decode cX8_workOneWeek 52 = .ok (.iinc 1 (-1), 3) := by decide +kernel
theorem dX8_workOneWeek_55 : decode cX8_workOneWeek 55 = .ok (.iinc 2 1, 3) := by decide +kernel
theorem dX8_workOneWeek_58 : decode cX8_workOneWeek 58 = .ok (.goto (-51), 3) := by decide +kernel
theorem dX8_workOneWeek_61 : decode cX8_workOneWeek 61 = .ok (.aload_n 0, 1) := by decide +kernel
theorem dX8_workOneWeek_62 : decode cX8_workOneWeek 62 = .ok (.dup, 1) := by decide +kernel
theorem dX8_workOneWeek_63 : decode cX8_workOneWeek 63 = .ok (.getfield 226, 3) := by decide +kernel
theorem dX8_workOneWeek_66 : decode cX8_workOneWeek 66 = .ok (.iconst 1, 1) := by decide +kernel
theorem dX8_workOneWeek_67 : decode cX8_workOneWeek 67 = .ok (.iadd, 1) := by decide +kernel
theorem dX8_workOneWeek_68 : decode cX8_workOneWeek 68 = .ok (.putfield 226, 3) := by decide +kernel
theorem dX8_workOneWeek_71 : decode cX8_workOneWeek 71 = .ok (.return_, 1) := by decide +kernel
theorem dX9_init_0 : decode cX9_init 0 = .ok (.aload_n 0, 1) := by decide +kernel
theorem dX9_init_1 : decode cX9_init 1 = .ok (.invokespecial 1, 3) := by decide +kernel
theorem dX9_init_4 : decode cX9_init 4 = .ok (.aload_n 0, 1) := by decide +kernel
theorem dX9_init_5 : decode cX9_init 5 = .ok (.bipush 8, 2) := by decide +kernel
theorem dX9_init_7 : decode cX9_init 7 = .ok (.newarray .boolean, 2) := by decide +kernel
theorem dX9_init_9 : decode cX9_init 9 = .ok (.putfield 7, 3) := by decide +kernel
theorem dX9_init_12 : decode cX9_init 12 = .ok (.aload_n 0, 1) := by decide +kernel
theorem dX9_init_13 : decode cX9_init 13 = .ok (.bipush 8, 2) := by decide +kernel
theorem dX9_init_15 : decode cX9_init 15 = .ok (.newarray .int, 2) := by decide +kernel
theorem dX9_init_17 : decode cX9_init 17 = .ok (.putfield 13, 3) := by decide +kernel
theorem dX9_init_20 : decode cX9_init 20 = .ok (.aload_n 0, 1) := by decide +kernel
theorem dX9_init_21 : decode cX9_init 21 = .ok (.bipush 8, 2) := by decide +kernel
theorem dX9_init_23 : decode cX9_init 23 = .ok (.newarray .int, 2) := by decide +kernel
theorem dX9_init_25 : decode cX9_init 25 = .ok (.putfield 17, 3) := by decide +kernel
theorem dX9_init_28 : decode cX9_init 28 = .ok (.aload_n 0, 1) := by decide +kernel
theorem dX9_init_29 : decode cX9_init 29 = .ok (.bipush 8, 2) := by decide +kernel
theorem dX9_init_31 : decode cX9_init 31 = .ok (.newarray .int, 2) := by decide +kernel
theorem dX9_init_33 : decode cX9_init 33 = .ok (.putfield 20, 3) := by decide +kernel
theorem dX9_init_36 : decode cX9_init 36 = .ok (.aload_n 0, 1) := by decide +kernel
theorem dX9_init_37 : decode cX9_init 37 = .ok (.bipush 8, 2) := by decide +kernel
theorem dX9_init_39 : decode cX9_init 39 = .ok (.newarray .int, 2) := by decide +kernel
theorem dX9_init_41 : decode cX9_init 41 = .ok (.putfield 23, 3) := by decide +kernel
theorem dX9_init_44 : decode cX9_init 44 = .ok (.aload_n 0, 1) := by decide +kernel
theorem dX9_init_45 : decode cX9_init 45 = .ok (.bipush 8, 2) := by decide +kernel
theorem dX9_init_47 : decode cX9_init 47 = .ok (.newarray .int, 2) := by decide +kernel
theorem dX9_init_49 : decode cX9_init 49 = .ok (.putfield 26, 3) := by decide +kernel
theorem dX9_init_52 : decode cX9_init 52 = .ok (.aload_n 0, 1) := by decide +kernel
theorem dX9_init_53 : decode cX9_init 53 = .ok (.bipush 8, 2) := by decide +kernel
theorem dX9_init_55 : decode cX9_init 55 = .ok (.newarray .int, 2) := by decide +kernel
theorem dX9_init_57 : decode cX9_init 57 = .ok (.putfield 29, 3) := by decide +kernel
theorem dX9_init_60 : decode cX9_init 60 = .ok (.aload_n 0, 1) := by decide +kernel
theorem dX9_init_61 : decode cX9_init 61 = .ok (.bipush 64, 2) := by decide +kernel
theorem dX9_init_63 : decode cX9_init 63 = .ok (.newarray .int, 2) := by decide +kernel
theorem dX9_init_65 : decode cX9_init 65 = .ok (.putfield 32, 3) := by decide +kernel
theorem dX9_init_68 : decode cX9_init 68 = .ok (.aload_n 0, 1) := by decide +kernel
theorem dX9_init_69 : decode cX9_init 69 = .ok (.bipush 64, 2) := by decide +kernel
theorem dX9_init_71 : decode cX9_init 71 = .ok (.newarray .int, 2) := by decide +kernel
theorem dX9_init_73 : decode cX9_init 73 = .ok (.putfield 35, 3) := by decide +kernel
theorem dX9_init_76 : decode cX9_init 76 = .ok (.aload_n 0, 1) := by decide +kernel
theorem dX9_init_77 : decode cX9_init 77 = .ok (.bipush 64, 2) := by decide +kernel
theorem dX9_init_79 : decode cX9_init 79 = .ok (.newarray .int, 2) := by decide +kernel
theorem dX9_init_81 : decode cX9_init 81 = .ok (.putfield 38, 3) := by decide +kernel
theorem dX9_init_84 : decode cX9_init 84 = .ok (.aload_n 0, 1) := by decide +kernel
theorem dX9_init_85 : decode cX9_init 85 = .ok (.bipush 64, 2) := by decide +kernel
theorem dX9_init_87 : decode cX9_init 87 = .ok (.newarray .int, 2) := by decide +kernel
theorem dX9_init_89 : decode cX9_init 89 = .ok (.putfield 41, 3) := by decide +kernel
theorem dX9_init_92 : decode cX9_init 92 = .ok (.aload_n 0, 1) := by decide +kernel
theorem dX9_init_93 : decode cX9_init 93 = .ok (.bipush 64, 2) := by decide +kernel
theorem dX9_init_95 : decode cX9_init 95 = .ok (.newarray .int, 2) := by decide +kernel
theorem dX9_init_97 : decode cX9_init 97 = .ok (.putfield 44, 3) := by decide +kernel
theorem dX9_init_100 : decode cX9_init 100 = .ok (.aload_n 0, 1) := by decide +kernel
theorem dX9_init_101 : decode cX9_init 101 = .ok (.sipush 768, 3) := by decide +kernel
theorem dX9_init_104 : decode cX9_init 104 = .ok (.newarray .int, 2) := by decide +kernel
theorem dX9_init_106 : decode cX9_init 106 = .ok (.putfield 47, 3) := by decide +kernel
theorem dX9_init_109 : decode cX9_init 109 = .ok (.aload_n 0, 1) := by decide +kernel
theorem dX9_init_110 : decode cX9_init 110 = .ok (.sipush 768, 3) := by decide +kernel
theorem dX9_init_113 : decode cX9_init 113 = .ok (.newarray .int, 2) := by decide +kernel
theorem dX9_init_115 : decode cX9_init 115 = .ok (.putfield 50, 3) := by decide +kernel
theorem dX9_init_118 : decode cX9_init 118 = .ok (.aload_n 0, 1) := by decide +kernel
theorem dX9_init_119 : decode cX9_init 119 = .ok (.sipush 768, 3) := by decide +kernel
theorem dX9_init_122 : decode cX9_init 122 = .ok (.newarray .int, 2) := by decide +kernel
theorem dX9_init_124 : decode cX9_init 124 = .ok (.putfield 53, 3) := by decide +kernel
theorem dX9_init_127 : decode cX9_init 127 = .ok (.aload_n 0, 1) := by decide +kernel
theorem dX9_init_128 : decode cX9_init 128 = .ok (.sipush 768, 3) := by decide +kernel
theorem dX9_init_131 : decode cX9_init 131 = .ok (.newarray .int, 2) := by decide +kernel
theorem dX9_init_133 : decode cX9_init 133 = .ok (.putfield 56, 3) := by decide +kernel
theorem dX9_init_136 : decode cX9_init 136 = .ok (.aload_n 0, 1) := by decide +kernel
theorem dX9_init_137 : decode cX9_init 137 = .ok (.sipush 768, 3) := by decide +kernel
theorem dX9_init_140 : decode cX9_init 140 = .ok (.newarray .boolean, 2) := by decide +kernel
theorem dX9_init_142 : decode cX9_init 142 = .ok (.putfield 59, 3) := by decide +kernel
theorem dX9_init_145 : decode cX9_init 145 = .ok (.aload_n 0, 1) := by decide +kernel
theorem dX9_init_146 : decode cX9_init 146 = .ok (.sipush 160, 3) := by decide +kernel
theorem dX9_init_149 : decode cX9_init 149 = .ok (.newarray .int, 2) := by decide +kernel
theorem dX9_init_151 : decode cX9_init 151 = .ok (.putfield 62, 3) := by decide +kernel
theorem dX9_init_154 : decode cX9_init 154 = .ok (.aload_n 0, 1) := by decide +kernel
theorem dX9_init_155 : decode cX9_init 155 = .ok (.sipush 160, 3) := by decide +kernel
theorem dX9_init_158 : decode cX9_init 158 = .ok (.newarray .int, 2) := by decide +kernel
theorem dX9_init_160 : decode cX9_init 160 = .ok (.putfield 65, 3) := by decide +kernel
theorem dX9_init_163 : decode cX9_init 163 = .ok (.aload_n 0, 1) := by decide +kernel
theorem dX9_init_164 : decode cX9_init 164 = .ok (.sipush 160, 3) := by decide +kernel
theorem dX9_init_167 : decode cX9_init 167 = .ok (.newarray .int, 2) := by decide +kernel
theorem dX9_init_169 : decode cX9_init 169 = .ok (.putfield 68, 3) := by decide +kernel
theorem dX9_init_172 : decode cX9_init 172 = .ok (.aload_n 0, 1) := by decide +kernel
theorem dX9_init_173 : decode cX9_init 173 = .ok (.sipush 160, 3) := by decide +kernel
theorem dX9_init_176 : decode cX9_init 176 = .ok (.newarray .int, 2) := by decide +kernel
theorem dX9_init_178 : decode cX9_init 178 = .ok (.putfield 71, 3) := by decide +kernel
theorem dX9_init_181 : decode cX9_init 181 = .ok (.aload_n 0, 1) := by decide +kernel
theorem dX9_init_182 : decode cX9_init 182 = .ok (.sipush 160, 3) := by decide +kernel
theorem dX9_init_185 : decode cX9_init 185 = .ok (.newarray .int, 2) := by decide +kernel
theorem dX9_init_187 : decode cX9_init 187 = .ok (.putfield 74, 3) := by decide +kernel
theorem dX9_init_190 : decode cX9_init 190 = .ok (.aload_n 0, 1) := by decide +kernel
theorem dX9_init_191 : decode cX9_init 191 = .ok (.sipush 160, 3) := by decide +kernel
theorem dX9_init_194 : decode cX9_init 194 = .ok (.newarray .int, 2) := by decide +kernel
theorem dX9_init_196 : decode cX9_init 196 = .ok (.putfield 77, 3) := by decide +kernel
theorem dX9_init_199 : decode cX9_init 199 = .ok (.aload_n 0, 1) := by decide +kernel
theorem dX9_init_200 : decode cX9_init 200 = .ok (.sipush 160, 3) := by decide +kernel
theorem dX9_init_203 : decode cX9_init 203 = .ok (.newarray .int, 2) := by decide +kernel
theorem dX9_init_205 : decode cX9_init 205 = .ok (.putfield 80, 3) := by decide +kernel
theorem dX9_init_208 : decode cX9_init 208 = .ok (.aload_n 0, 1) := by decide +kernel
theorem dX9_init_209 : decode cX9_init 209 = .ok (.bipush 40, 2) := by decide +kernel
theorem dX9_init_211 : decode cX9_init 211 = .ok (.newarray .int, 2) := by decide +kernel
theorem dX9_init_213 : decode cX9_init 213 = .ok (.putfield 83, 3) := by decide +kernel
theorem dX9_init_216 : decode cX9_init 216 = .ok (.aload_n 0, 1) := by decide +kernel
theorem dX9_init_217 : decode cX9_init 217 = .ok (.bipush 40, 2) := by decide +kernel
theorem dX9_init_219 : decode cX9_init 219 = .ok (.newarray .int, 2) := by decide +kernel
theorem dX9_init_221 : decode cX9_init 221 = .ok (.putfield 86, 3) := by decide +kernel
theorem dX9_init_224 : decode cX9_init 224 = .ok (.aload_n 0, 1) := by decide +kernel
theorem dX9_init_225 : decode cX9_init 225 = .ok (.bipush 40, 2) := by decide +kernel
theorem dX9_init_227 : decode cX9_init 227 = .ok (.newarray .int, 2) := by decide +kernel
theorem dX9_init_229 : decode cX9_init 229 = .ok (.putfield 89, 3) := by decide +kernel
theorem dX9_init_232 : decode cX9_init 232 = .ok (.aload_n 0, 1) := by decide +kernel
theorem dX9_init_233 : decode cX9_init 233 = .ok (.bipush 40, 2) := by decide +kernel
theorem dX9_init_235 : decode cX9_init 235 = .ok (.newarray .boolean, 2) := by decide +kernel
theorem dX9_init_237 : decode cX9_init 237 = .ok (.putfield 92, 3) := by decide +kernel
theorem dX9_init_240 : decode cX9_init 240 = .ok (.aload_n 0, 1) := by decide +kernel
theorem dX9_init_241 : decode cX9_init 241 = .ok (.bipush 40, 2) := by decide +kernel
theorem dX9_init_243 : decode cX9_init 243 = .ok (.newarray .int, 2) := by decide +kernel
theorem dX9_init_245 : decode cX9_init 245 = .ok (.putfield 95, 3) := by decide +kernel
theorem dX9_init_248 : decode cX9_init 248 = .ok (.aload_n 0, 1) := by decide +kernel
theorem dX9_init_249 : decode cX9_init 249 = .ok (.iconst 1, 1) := by decide +kernel
theorem dX9_init_250 : decode cX9_init 250 = .ok (.putfield 98, 3) := by decide +kernel
theorem dX9_init_253 : decode cX9_init 253 = .ok (.aload_n 0, 1) := by decide +kernel
theorem dX9_init_254 : decode cX9_init 254 = .ok (.bipush 8, 2) := by decide +kernel
theorem dX9_init_256 : decode cX9_init 256 = .ok (.newarray .int, 2) := by decide +kernel
theorem dX9_init_258 : decode cX9_init 258 = .ok (.putfield 102, 3) := by decide +kernel
theorem dX9_init_261 : decode cX9_init 261 = .ok (.aload_n 0, 1) := by decide +kernel
theorem dX9_init_262 : decode cX9_init 262 = .ok (.bipush 20, 2) := by decide +kernel
theorem dX9_init_264 : decode cX9_init 264 = .ok (.newarray .int, 2) := by decide +kernel
theorem dX9_init_266 : decode cX9_init 266 = .ok (.putfield 105, 3) := by decide +kernel
theorem dX9_init_269 : decode cX9_init 269 = .ok (.aload_n 0, 1) := by decide +kernel
theorem dX9_init_270 : decode cX9_init 270 = .ok (.sipush 256, 3) := by decide +kernel
theorem dX9_init_273 : decode cX9_init 273 = .ok (.newarray .int, 2) := by decide +kernel
theorem dX9_init_275 : decode cX9_init 275 = .ok (.putfield 108, 3) := by decide +kernel
theorem dX9_init_278 : decode cX9_init 278 = .ok (.return_, 1) := by decide +kernel
theorem dX9_thrown_0 : decode cX9_thrown 0 = .ok (.aload_n 0, 1) := by decide +kernel
theorem dX9_thrown_1 : decode cX9_thrown 1 = .ok (.getfield 111, 3) := by decide +kernel
theorem dX9_thrown_4 : decode cX9_thrown 4 = .ok (.ireturn, 1) := by decide +kernel
theorem dX9_within_0 : decode cX9_within 0 = .ok (.iload_n 0, 1) := by decide +kernel
theorem dX9_within_1 : decode cX9_within 1 = .ok (.iload_n 1, 1) := by decide +kernel
theorem dX9_within_2 : decode cX9_within 2 = .ok (.if_icmp .lt 12, 3) := by decide +kernel
theorem dX9_within_5 : decode cX9_within 5 = .ok (.iload_n 0, 1) := by decide +kernel
theorem dX9_within_6 : decode cX9_within 6 = .ok (.iload_n 2, 1) := by decide +kernel
theorem dX9_within_7 : decode cX9_within 7 = .ok (.if_icmp .gt 7, 3) := by decide +kernel
theorem dX9_within_10 : decode cX9_within 10 = .ok (.iconst 1, 1) := by decide +kernel
theorem dX9_within_11 : decode cX9_within 11 = .ok (.goto 4, 3) := by decide +kernel
theorem dX9_within_14 : decode cX9_within 14 = .ok (.iconst 0, 1) := by decide +kernel
theorem dX9_within_15 : decode cX9_within 15 = .ok (.ireturn, 1) := by decide +kernel
theorem dX9_isPage_0 : decode cX9_isPage 0 = .ok (.iload_n 1, 1) := by decide +kernel
theorem dX9_isPage_1 : decode cX9_isPage 1 = .ok (.iconst 0, 1) := by decide +kernel
theorem dX9_isPage_2 : decode cX9_isPage 2 = .ok (.aload_n 0, 1) := by decide +kernel
theorem dX9_isPage_3 : decode cX9_isPage 3 = .ok (.getfield 114, 3) := by decide +kernel
theorem dX9_isPage_6 : decode cX9_isPage 6 = .ok (.iconst 1, 1) := by decide +kernel
theorem dX9_isPage_7 : decode cX9_isPage 7 = .ok (.isub, 1) := by decide +kernel
theorem dX9_isPage_8 : decode cX9_isPage 8 = .ok (.invokestatic 117, 3) := by decide +kernel
theorem dX9_isPage_11 : decode cX9_isPage 11 = .ok (.ireturn, 1) := by decide +kernel
theorem dX9_isPanel_0 : decode cX9_isPanel 0 = .ok (.aload_n 0, 1) := by decide +kernel
theorem dX9_isPanel_1 : decode cX9_isPanel 1 = .ok (.iload_n 1, 1) := by decide +kernel
theorem dX9_isPanel_2 : decode cX9_isPanel 2 = .ok (.invokevirtual 121, 3) := by decide +kernel
theorem dX9_isPanel_5 : decode cX9_isPanel 5 = .ok (.ifCond .eq 23, 3) := by decide +kernel
theorem dX9_isPanel_8 : decode cX9_isPanel 8 = .ok (.iload_n 2, 1) := by decide +kernel
theorem dX9_isPanel_9 : decode cX9_isPanel 9 = .ok (.iconst 0, 1) := by decide +kernel
theorem dX9_isPanel_10 : decode cX9_isPanel 10 = .ok (.aload_n 0, 1) := by decide +kernel
theorem dX9_isPanel_11 : decode cX9_isPanel 11 = .ok (.getfield 13, 3) := by decide +kernel
theorem dX9_isPanel_14 : decode cX9_isPanel 14 = .ok (.iload_n 1, 1) := by decide +kernel
theorem dX9_isPanel_15 : decode cX9_isPanel 15 = .ok (.iaload, 1) := by decide +kernel
theorem dX9_isPanel_16 : decode cX9_isPanel 16 = .ok (.iconst 1, 1) := by decide +kernel
theorem dX9_isPanel_17 : decode cX9_isPanel 17 = .ok (.isub, 1) := by decide +kernel
theorem dX9_isPanel_18 : decode cX9_isPanel 18 = .ok (.invokestatic 117, 3) := by decide +kernel
theorem dX9_isPanel_21 : decode cX9_isPanel 21 = .ok (.ifCond .eq 7, 3) := by decide +kernel
theorem dX9_isPanel_24 : decode cX9_isPanel 24 = .ok (.iconst 1, 1) := by decide +kernel
theorem dX9_isPanel_25 : decode cX9_isPanel 25 = .ok (.goto 4, 3) := by decide +kernel
theorem dX9_isPanel_28 : decode cX9_isPanel 28 = .ok (.iconst 0, 1) := by decide +kernel
theorem dX9_isPanel_29 : decode cX9_isPanel 29 = .ok (.ireturn, 1) := by decide +kernel
theorem dX9_isBalloon_0 : decode cX9_isBalloon 0 = .ok (.aload_n 0, 1) := by decide +kernel
theorem dX9_isBalloon_1 : decode cX9_isBalloon 1 = .ok (.iload_n 1, 1) := by decide +kernel
theorem dX9_isBalloon_2 : decode cX9_isBalloon 2 = .ok (.invokevirtual 121, 3) := by decide +kernel
theorem dX9_isBalloon_5 : decode cX9_isBalloon 5 = .ok (.ifCond .eq 23, 3) := by decide +kernel
theorem dX9_isBalloon_8 : decode cX9_isBalloon 8 = .ok (.iload_n 2, 1) := by decide +kernel
theorem dX9_isBalloon_9 : decode cX9_isBalloon 9 = .ok (.iconst 0, 1) := by decide +kernel
theorem dX9_isBalloon_10 : decode cX9_isBalloon 10 = .ok (.aload_n 0, 1) := by decide +kernel
theorem dX9_isBalloon_11 : decode cX9_isBalloon 11 = .ok (.getfield 17, 3) := by decide +kernel
theorem dX9_isBalloon_14 : decode cX9_isBalloon 14 = .ok (.iload_n 1, 1) := by decide +kernel
theorem dX9_isBalloon_15 : decode cX9_isBalloon 15 = .ok (.iaload, 1) := by decide +kernel
theorem dX9_isBalloon_16 : decode cX9_isBalloon 16 = .ok (.iconst 1, 1) := by decide +kernel
theorem dX9_isBalloon_17 : decode cX9_isBalloon 17 = .ok (.isub, 1) := by decide +kernel
theorem dX9_isBalloon_18 : decode cX9_isBalloon 18 = .ok (.invokestatic 117, 3) := by decide +kernel
theorem dX9_isBalloon_21 : decode cX9_isBalloon 21 = .ok (.ifCond .eq 7, 3) := by decide +kernel
theorem dX9_isBalloon_24 : decode cX9_isBalloon 24 = .ok (.iconst 1, 1) := by decide +kernel
theorem dX9_isBalloon_25 : decode cX9_isBalloon 25 = .ok (.goto 4, 3) := by decide +kernel
theorem dX9_isBalloon_28 : decode cX9_isBalloon 28 = .ok (.iconst 0, 1) := by decide +kernel
theorem dX9_isBalloon_29 : decode cX9_isBalloon 29 = .ok (.ireturn, 1) := by decide +kernel
theorem dX9_isPrinted_0 : decode cX9_isPrinted 0 = .ok (.aload_n 0, 1) := by decide +kernel
theorem dX9_isPrinted_1 : decode cX9_isPrinted 1 = .ok (.getfield 23, 3) := by decide +kernel
theorem dX9_isPrinted_4 : decode cX9_isPrinted 4 = .ok (.iload_n 1, 1) := by decide +kernel
theorem dX9_isPrinted_5 : decode cX9_isPrinted 5 = .ok (.iaload, 1) := by decide +kernel
theorem dX9_isPrinted_6 : decode cX9_isPrinted 6 = .ok (.iconst (-1), 1) := by decide +kernel
theorem dX9_isPrinted_7 : decode cX9_isPrinted 7 = .ok (.if_icmp .eq 7, 3) := by decide +kernel
theorem dX9_isPrinted_10 : decode cX9_isPrinted 10 = .ok (.iconst 1, 1) := by decide +kernel
theorem dX9_isPrinted_11 : decode cX9_isPrinted 11 = .ok (.goto 4, 3) := by decide +kernel
theorem dX9_isPrinted_14 : decode cX9_isPrinted 14 = .ok (.iconst 0, 1) := by decide +kernel
theorem dX9_isPrinted_15 : decode cX9_isPrinted 15 = .ok (.ireturn, 1) := by decide +kernel
theorem dX9_meet_0 : decode cX9_meet 0 = .ok (.iload_n 0, 1) := by decide +kernel
theorem dX9_meet_1 : decode cX9_meet 1 = .ok (.iload_n 2, 1) := by decide +kernel
theorem dX9_meet_2 : decode cX9_meet 2 = .ok (.iload_n 3, 1) := by decide +kernel
theorem dX9_meet_3 : decode cX9_meet 3 = .ok (.iadd, 1) := by decide +kernel
theorem dX9_meet_4 : decode cX9_meet 4 = .ok (.if_icmp .ge 14, 3) := by decide +kernel
theorem dX9_meet_7 : decode cX9_meet 7 = .ok (.iload_n 2, 1) := by decide +kernel
theorem dX9_meet_8 : decode cX9_meet 8 = .ok (.iload_n 0, 1) := by decide +kernel
theorem dX9_meet_9 : decode cX9_meet 9 = .ok (.iload_n 1, 1) := by decide +kernel
theorem dX9_meet_10 : decode cX9_meet 10 = .ok (.iadd, 1) := by decide +kernel
theorem dX9_meet_11 : decode cX9_meet 11 = .ok (.if_icmp .ge 7, 3) := by decide +kernel
theorem dX9_meet_14 : decode cX9_meet 14 = .ok (.iconst 1, 1) := by decide +kernel
theorem dX9_meet_15 : decode cX9_meet 15 = .ok (.goto 4, 3) := by decide +kernel
theorem dX9_meet_18 : decode cX9_meet 18 = .ok (.iconst 0, 1) := by decide +kernel
theorem dX9_meet_19 : decode cX9_meet 19 = .ok (.ireturn, 1) := by decide +kernel
theorem dX9_makes_0 : decode cX9_makes 0 = .ok (.aload_n 0, 1) := by decide +kernel
theorem dX9_makes_1 : decode cX9_makes 1 = .ok (.getfield 7, 3) := by decide +kernel
theorem dX9_makes_4 : decode cX9_makes 4 = .ok (.aload_n 0, 1) := by decide +kernel
theorem dX9_makes_5 : decode cX9_makes 5 = .ok (.getfield 114, 3) := by decide +kernel
theorem dX9_makes_8 : decode cX9_makes 8 = .ok (.iload_n 1, 1) := by decide +kernel
theorem dX9_makes_9 : decode cX9_makes 9 = .ok (.bastore, 1) := by decide +kernel
theorem dX9_makes_10 : decode cX9_makes 10 = .ok (.aload_n 0, 1) := by decide +kernel
theorem dX9_makes_11 : decode cX9_makes 11 = .ok (.getfield 23, 3) := by decide +kernel
theorem dX9_makes_14 : decode cX9_makes 14 = .ok (.aload_n 0, 1) := by decide +kernel
theorem dX9_makes_15 : decode cX9_makes 15 = .ok (.getfield 114, 3) := by decide +kernel
theorem dX9_makes_18 : decode cX9_makes 18 = .ok (.iconst (-1), 1) := by decide +kernel
theorem dX9_makes_19 : decode cX9_makes 19 = .ok (.iastore, 1) := by decide +kernel
theorem dX9_makes_20 : decode cX9_makes 20 = .ok (.aload_n 0, 1) := by decide +kernel
theorem dX9_makes_21 : decode cX9_makes 21 = .ok (.dup, 1) := by decide +kernel
theorem dX9_makes_22 : decode cX9_makes 22 = .ok (.getfield 114, 3) := by decide +kernel
theorem dX9_makes_25 : decode cX9_makes 25 = .ok (.iconst 1, 1) := by decide +kernel
theorem dX9_makes_26 : decode cX9_makes 26 = .ok (.iadd, 1) := by decide +kernel
theorem dX9_makes_27 : decode cX9_makes 27 = .ok (.putfield 114, 3) := by decide +kernel
theorem dX9_makes_30 : decode cX9_makes 30 = .ok (.aload_n 0, 1) := by decide +kernel
theorem dX9_makes_31 : decode cX9_makes 31 = .ok (.getfield 114, 3) := by decide +kernel
theorem dX9_makes_34 : decode cX9_makes 34 = .ok (.iconst 1, 1) := by decide +kernel
theorem dX9_makes_35 : decode cX9_makes 35 = .ok (.isub, 1) := by decide +kernel
theorem dX9_makes_36 : decode cX9_makes 36 = .ok (.ireturn, 1) := by decide +kernel
theorem dX9_page_0 : decode cX9_page 0 = .ok (.aload_n 0, 1) := by decide +kernel
theorem dX9_page_1 : decode cX9_page 1 = .ok (.aload_n 0, 1) := by decide +kernel
theorem dX9_page_2 : decode cX9_page 2 = .ok (.getfield 114, 3) := by decide +kernel
theorem dX9_page_5 : decode cX9_page 5 = .ok (.bipush 8, 2) := by decide +kernel
theorem dX9_page_7 : decode cX9_page 7 = .ok (.if_icmp .ne 7, 3) := by decide +kernel
theorem dX9_page_10 : decode cX9_page 10 = .ok (.iconst 1, 1) := by decide +kernel
theorem dX9_page_11 : decode cX9_page 11 = .ok (.goto 4, 3) := by decide +kernel
theorem dX9_page_14 : decode cX9_page 14 = .ok (.iconst 0, 1) := by decide +kernel
theorem dX9_page_15 : decode cX9_page 15 = .ok (.putfield 111, 3) := by decide +kernel
theorem dX9_page_18 : decode cX9_page 18 = .ok (.aload_n 0, 1) := by decide +kernel
theorem dX9_page_19 : decode cX9_page 19 = .ok (.getfield 111, 3) := by decide +kernel
theorem dX9_page_22 : decode cX9_page 22 = .ok (.ifCond .ne 11, 3) := by decide +kernel
theorem dX9_page_25 : decode cX9_page 25 = .ok (.aload_n 0, 1) := by decide +kernel
theorem dX9_page_26 : decode cX9_page 26 = .ok (.iload_n 1, 1) := by decide +kernel
theorem dX9_page_27 : decode cX9_page 27 = .ok (.invokevirtual 125, 3) := by decide +kernel
theorem dX9_page_30 : decode cX9_page 30 = .ok (.goto 4, 3) := by decide +kernel
theorem dX9_page_33 : decode cX9_page 33 = .ok (.iconst 0, 1) := by decide +kernel
theorem dX9_page_34 : decode cX9_page 34 = .ok (.ireturn, 1) := by decide +kernel
theorem dX9_panel_0 : decode cX9_panel 0 = .ok (.aload_n 0, 1) := by decide +kernel
theorem dX9_panel_1 : decode cX9_panel 1 = .ok (.aload_n 0, 1) := by decide +kernel
theorem dX9_panel_2 : decode cX9_panel 2 = .ok (.iload_n 1, 1) := by decide +kernel
theorem dX9_panel_3 : decode cX9_panel 3 = .ok (.invokevirtual 121, 3) := by decide +kernel
theorem dX9_panel_6 : decode cX9_panel 6 = .ok (.ifCond .ne 7, 3) := by decide +kernel
theorem dX9_panel_9 : decode cX9_panel 9 = .ok (.iconst 1, 1) := by decide +kernel
theorem dX9_panel_10 : decode cX9_panel 10 = .ok (.goto 68, 3) := by decide +kernel
theorem dX9_panel_13 : decode cX9_panel 13 = .ok (.iload_n 2, 1) := by decide +kernel
theorem dX9_panel_14 : decode cX9_panel 14 = .ok (.iconst 0, 1) := by decide +kernel
theorem dX9_panel_15 : decode cX9_panel 15 = .ok (.bipush 59, 2) := by decide +kernel
theorem dX9_panel_17 : decode cX9_panel 17 = .ok (.invokestatic 117, 3) := by decide +kernel
theorem dX9_panel_20 : decode cX9_panel 20 = .ok (.ifCond .eq 53, 3) := by decide +kernel
theorem dX9_panel_23 : decode cX9_panel 23 = .ok (.iload_n 3, 1) := by decide +kernel
theorem dX9_panel_24 : decode cX9_panel 24 = .ok (.iconst 0, 1) := by decide +kernel
theorem dX9_panel_25 : decode cX9_panel 25 = .ok (.bipush 79, 2) := by decide +kernel
theorem dX9_panel_27 : decode cX9_panel 27 = .ok (.invokestatic 117, 3) := by decide +kernel
theorem dX9_panel_30 : decode cX9_panel 30 = .ok (.ifCond .eq 43, 3) := by decide +kernel
theorem dX9_panel_33 : decode cX9_panel 33 = .ok (.iload 4, 2) := by decide +kernel
theorem dX9_panel_35 : decode cX9_panel 35 = .ok (.iconst 4, 1) := by decide +kernel
theorem dX9_panel_36 : decode cX9_panel 36 = .ok (.bipush 60, 2) := by decide +kernel
theorem dX9_panel_38 : decode cX9_panel 38 = .ok (.invokestatic 117, 3) := by decide +kernel
theorem dX9_panel_41 : decode cX9_panel 41 = .ok (.ifCond .eq 32, 3) := by decide +kernel
theorem dX9_panel_44 : decode cX9_panel 44 = .ok (.iload 5, 2) := by decide +kernel
theorem dX9_panel_46 : decode cX9_panel 46 = .ok (.iconst 4, 1) := by decide +kernel
theorem dX9_panel_47 : decode cX9_panel 47 = .ok (.bipush 80, 2) := by decide +kernel
theorem dX9_panel_49 : decode cX9_panel 49 = .ok (.invokestatic 117, 3) := by decide +kernel
theorem dX9_panel_52 : decode cX9_panel 52 = .ok (.ifCond .eq 21, 3) := by decide +kernel
theorem dX9_panel_55 : decode cX9_panel 55 = .ok (.iload_n 2, 1) := by decide +kernel
theorem dX9_panel_56 : decode cX9_panel 56 = .ok (.iload 4, 2) := by decide +kernel
theorem dX9_panel_58 : decode cX9_panel 58 = .ok (.iadd, 1) := by decide +kernel
theorem dX9_panel_59 : decode cX9_panel 59 = .ok (.bipush 60, 2) := by decide +kernel
theorem dX9_panel_61 : decode cX9_panel 61 = .ok (.if_icmp .gt 12, 3) := by decide +kernel
theorem dX9_panel_64 : decode cX9_panel 64 = .ok (.iload_n 3, 1) := by decide +kernel
theorem dX9_panel_65 : decode cX9_panel 65 = .ok (.iload 5, 2) := by decide +kernel
theorem dX9_panel_67 : decode cX9_panel 67 = .ok (.iadd, 1) := by decide +kernel
theorem dX9_panel_68 : decode cX9_panel 68 = .ok (.bipush 80, 2) := by decide +kernel
theorem dX9_panel_70 : decode cX9_panel 70 = .ok (.if_icmp .le 7, 3) := by decide +kernel
theorem dX9_panel_73 : decode cX9_panel 73 = .ok (.iconst 2, 1) := by decide +kernel
theorem dX9_panel_74 : decode cX9_panel 74 = .ok (.goto 4, 3) := by decide +kernel
theorem dX9_panel_77 : decode cX9_panel 77 = .ok (.iconst 0, 1) := by decide +kernel
theorem dX9_panel_78 : decode cX9_panel 78 = .ok (.putfield 111, 3) := by decide +kernel
theorem dX9_panel_81 : decode cX9_panel 81 = .ok (.aload_n 0, 1) := by decide +kernel
theorem dX9_panel_82 : decode cX9_panel 82 = .ok (.getfield 111, 3) := by decide +kernel
theorem dX9_panel_85 : decode cX9_panel 85 = .ok (.ifCond .le 5, 3) := by decide +kernel
theorem dX9_panel_88 : decode cX9_panel 88 = .ok (.iconst 0, 1) := by decide +kernel
theorem dX9_panel_89 : decode cX9_panel 89 = .ok (.ireturn, 1) := by decide +kernel
theorem dX9_panel_90 : decode cX9_panel 90 = .ok (.aload_n 0, 1) := by decide +kernel
theorem dX9_panel_91 : decode cX9_panel 91 = .ok (.getfield 13, 3) := by decide +kernel
theorem dX9_panel_94 : decode cX9_panel 94 = .ok (.iload_n 1, 1) := by decide +kernel
theorem dX9_panel_95 : decode cX9_panel 95 = .ok (.iaload, 1) := by decide +kernel
theorem dX9_panel_96 : decode cX9_panel 96 = .ok (.bipush 8, 2) := by decide +kernel
theorem dX9_panel_98 : decode cX9_panel 98 = .ok (.if_icmp .ge 15, 3) := by decide +kernel
theorem dX9_panel_101 : decode cX9_panel 101 = .ok (.aload_n 0, 1) := by decide +kernel
theorem dX9_panel_102 : decode cX9_panel 102 = .ok (.iload_n 1, 1) := by decide +kernel
theorem dX9_panel_103 : decode cX9_panel 103 = .ok (.invokevirtual 129, 3) := by decide +kernel
theorem dX9_panel_106 : decode cX9_panel 106 = .ok (.ifCond .ne 7, 3) := by decide +kernel
theorem dX9_panel_109 : decode cX9_panel 109 = .ok (.iconst 1, 1) := by decide +kernel
theorem dX9_panel_110 : decode cX9_panel 110 = .ok (.goto 4, 3) := by decide +kernel
theorem dX9_panel_113 : decode cX9_panel 113 = .ok (.iconst 0, 1) := by decide +kernel
theorem dX9_panel_114 : decode cX9_panel 114 = .ok (.istore 6, 2) := by decide +kernel
theorem dX9_panel_116 : decode cX9_panel 116 = .ok (.bipush 8, 2) := by decide +kernel
theorem dX9_panel_118 : decode cX9_panel 118 = .ok (.iload_n 1, 1) := by decide +kernel
theorem dX9_panel_119 : decode cX9_panel 119 = .ok (.imul, 1) := by decide +kernel
theorem dX9_panel_120 : decode cX9_panel 120 = .ok (.istore 7, 2) := by decide +kernel
theorem dX9_panel_122 : decode cX9_panel 122 = .ok (.iload 7, 2) := by decide +kernel
theorem dX9_panel_124 : decode cX9_panel 124 = .ok (.bipush 8, 2) := by decide +kernel
theorem dX9_panel_126 : decode cX9_panel 126 = .ok (.iload_n 1, 1) := by decide +kernel
theorem dX9_panel_127 : decode cX9_panel 127 = .ok (.imul, 1) := by decide +kernel
theorem dX9_panel_128 : decode cX9_panel 128 = .ok (.aload_n 0, 1) := by decide +kernel
theorem dX9_panel_129 : decode cX9_panel 129 = .ok (.getfield 13, 3) := by decide +kernel
theorem dX9_panel_132 : decode cX9_panel 132 = .ok (.iload_n 1, 1) := by decide +kernel
theorem dX9_panel_133 : decode cX9_panel 133 = .ok (.iaload, 1) := by decide +kernel
theorem dX9_panel_134 : decode cX9_panel 134 = .ok (.iadd, 1) := by decide +kernel
theorem dX9_panel_135 : decode cX9_panel 135 = .ok (.if_icmp .ge 67, 3) := by decide +kernel
theorem dX9_panel_138 : decode cX9_panel 138 = .ok (.iload 6, 2) := by decide +kernel
theorem dX9_panel_140 : decode cX9_panel 140 = .ok (.ifCond .eq 53, 3) := by decide +kernel
theorem dX9_panel_143 : decode cX9_panel 143 = .ok (.iload_n 2, 1) := by decide +kernel
theorem dX9_panel_144 : decode cX9_panel 144 = .ok (.iload 4, 2) := by decide +kernel
theorem dX9_panel_146 : decode cX9_panel 146 = .ok (.aload_n 0, 1) := by decide +kernel
theorem dX9_panel_147 : decode cX9_panel 147 = .ok (.getfield 35, 3) := by decide +kernel
theorem dX9_panel_150 : decode cX9_panel 150 = .ok (.iload 7, 2) := by decide +kernel
theorem dX9_panel_152 : decode cX9_panel 152 = .ok (.iaload, 1) := by decide +kernel
theorem dX9_panel_153 : decode cX9_panel 153 = .ok (.aload_n 0, 1) := by decide +kernel
theorem dX9_panel_154 : decode cX9_panel 154 = .ok (.getfield 41, 3) := by decide +kernel
theorem dX9_panel_157 : decode cX9_panel 157 = .ok (.iload 7, 2) := by decide +kernel
theorem dX9_panel_159 : decode cX9_panel 159 = .ok (.iaload, 1) := by decide +kernel
theorem dX9_panel_160 : decode cX9_panel 160 = .ok (.invokestatic 132, 3) := by decide +kernel
theorem dX9_panel_163 : decode cX9_panel 163 = .ok (.ifCond .eq 26, 3) := by decide +kernel
theorem dX9_panel_166 : decode cX9_panel 166 = .ok (.iload_n 3, 1) := by decide +kernel
theorem dX9_panel_167 : decode cX9_panel 167 = .ok (.iload 5, 2) := by decide +kernel
theorem dX9_panel_169 : decode cX9_panel 169 = .ok (.aload_n 0, 1) := by decide +kernel
theorem dX9_panel_170 : decode cX9_panel 170 = .ok (.getfield 38, 3) := by decide +kernel
theorem dX9_panel_173 : decode cX9_panel 173 = .ok (.iload 7, 2) := by decide +kernel
theorem dX9_panel_175 : decode cX9_panel 175 = .ok (.iaload, 1) := by decide +kernel
theorem dX9_panel_176 : decode cX9_panel 176 = .ok (.aload_n 0, 1) := by decide +kernel
theorem dX9_panel_177 : decode cX9_panel 177 = .ok (.getfield 44, 3) := by decide +kernel
theorem dX9_panel_180 : decode cX9_panel 180 = .ok (.iload 7, 2) := by decide +kernel
theorem dX9_panel_182 : decode cX9_panel 182 = .ok (.iaload, 1) := by decide +kernel
theorem dX9_panel_183 : decode cX9_panel 183 = .ok (.invokestatic 132, 3) := by decide +kernel
theorem dX9_panel_186 : decode cX9_panel 186 = .ok (.ifCond .ne 7, 3) := by decide +kernel
theorem dX9_panel_189 : decode cX9_panel 189 = .ok (.iconst 1, 1) := by decide +kernel
theorem dX9_panel_190 : decode cX9_panel 190 = .ok (.goto 4, 3) := by decide +kernel
theorem dX9_panel_193 : decode cX9_panel 193 = .ok (.iconst 0, 1) := by decide +kernel
theorem dX9_panel_194 : decode cX9_panel 194 = .ok (.istore 6, 2) := by decide +kernel
theorem dX9_panel_196 : decode cX9_panel 196 = .ok (.iinc 7 1, 3) := by decide +kernel
theorem dX9_panel_199 : decode cX9_panel 199 = .ok (.goto (-77), 3) := by decide +kernel
theorem dX9_panel_202 : decode cX9_panel 202 = .ok (.aload_n 0, 1) := by decide +kernel
theorem dX9_panel_203 : decode cX9_panel 203 = .ok (.iload 6, 2) := by decide +kernel
theorem dX9_panel_205 : decode cX9_panel 205 = .ok (.ifCond .eq 7, 3) := by decide +kernel
theorem dX9_panel_208 : decode cX9_panel 208 = .ok (.iconst 0, 1) := by decide +kernel
theorem dX9_panel_209 : decode cX9_panel 209 = .ok (.goto 4, 3) := by decide +kernel
theorem dX9_panel_212 : decode cX9_panel 212 = .ok (.iconst 3, 1) := by decide +kernel
theorem dX9_panel_213 : decode cX9_panel 213 = .ok (.putfield 111, 3) := by decide +kernel
theorem dX9_panel_216 : decode cX9_panel 216 = .ok (.aload_n 0, 1) := by decide +kernel
theorem dX9_panel_217 : decode cX9_panel 217 = .ok (.getfield 111, 3) := by decide +kernel
theorem dX9_panel_220 : decode cX9_panel 220 = .ok (.ifCond .le 5, 3) := by decide +kernel
theorem dX9_panel_223 : decode cX9_panel 223 = .ok (.iconst 0, 1) := by decide +kernel
theorem dX9_panel_224 : decode cX9_panel 224 = .ok (.ireturn, 1) := by decide +kernel
theorem dX9_panel_225 : decode cX9_panel 225 = .ok (.bipush 8, 2) := by decide +kernel
theorem dX9_panel_227 : decode cX9_panel 227 = .ok (.iload_n 1, 1) := by decide +kernel
theorem dX9_panel_228 : decode cX9_panel 228 = .ok (.imul, 1) := by decide +kernel
theorem dX9_panel_229 : decode cX9_panel 229 = .ok (.aload_n 0, 1) := by decide +kernel
theorem dX9_panel_230 : decode cX9_panel 230 = .ok (.getfield 13, 3) := by decide +kernel
theorem dX9_panel_233 : decode cX9_panel 233 = .ok (.iload_n 1, 1) := by decide +kernel
theorem dX9_panel_234 : decode cX9_panel 234 = .ok (.iaload, 1) := by decide +kernel
theorem dX9_panel_235 : decode cX9_panel 235 = .ok (.iadd, 1) := by decide +kernel
theorem dX9_panel_236 : decode cX9_panel 236 = .ok (.istore 7, 2) := by decide +kernel
theorem dX9_panel_238 : decode cX9_panel 238 = .ok (.aload_n 0, 1) := by decide +kernel
theorem dX9_panel_239 : decode cX9_panel 239 = .ok (.getfield 35, 3) := by decide +kernel
theorem dX9_panel_242 : decode cX9_panel 242 = .ok (.iload 7, 2) := by decide +kernel
theorem dX9_panel_244 : decode cX9_panel 244 = .ok (.iload_n 2, 1) := by decide +kernel
theorem dX9_panel_245 : decode cX9_panel 245 = .ok (.iastore, 1) := by decide +kernel
theorem dX9_panel_246 : decode cX9_panel 246 = .ok (.aload_n 0, 1) := by decide +kernel
theorem dX9_panel_247 : decode cX9_panel 247 = .ok (.getfield 38, 3) := by decide +kernel
theorem dX9_panel_250 : decode cX9_panel 250 = .ok (.iload 7, 2) := by decide +kernel
theorem dX9_panel_252 : decode cX9_panel 252 = .ok (.iload_n 3, 1) := by decide +kernel
theorem dX9_panel_253 : decode cX9_panel 253 = .ok (.iastore, 1) := by decide +kernel
theorem dX9_panel_254 : decode cX9_panel 254 = .ok (.aload_n 0, 1) := by decide +kernel
theorem dX9_panel_255 : decode cX9_panel 255 = .ok (.getfield 41, 3) := by decide +kernel
theorem dX9_panel_258 : decode cX9_panel 258 = .ok (.iload 7, 2) := by decide +kernel
theorem dX9_panel_260 : decode cX9_panel 260 = .ok (.iload 4, 2) := by decide +kernel
theorem dX9_panel_262 : decode cX9_panel 262 = .ok (.iastore, 1) := by decide +kernel
theorem dX9_panel_263 : decode cX9_panel 263 = .ok (.aload_n 0, 1) := by decide +kernel
theorem dX9_panel_264 : decode cX9_panel 264 = .ok (.getfield 44, 3) := by decide +kernel
theorem dX9_panel_267 : decode cX9_panel 267 = .ok (.iload 7, 2) := by decide +kernel
theorem dX9_panel_269 : decode cX9_panel 269 = .ok (.iload 5, 2) := by decide +kernel
theorem dX9_panel_271 : decode cX9_panel 271 = .ok (.iastore, 1) := by decide +kernel
theorem dX9_panel_272 : decode cX9_panel 272 = .ok (.aload_n 0, 1) := by decide +kernel
theorem dX9_panel_273 : decode cX9_panel 273 = .ok (.getfield 13, 3) := by decide +kernel
theorem dX9_panel_276 : decode cX9_panel 276 = .ok (.iload_n 1, 1) := by decide +kernel
theorem dX9_panel_277 : decode cX9_panel 277 = .ok (.dup2, 1) := by decide +kernel
theorem dX9_panel_278 : decode cX9_panel 278 = .ok (.iaload, 1) := by decide +kernel
theorem dX9_panel_279 : decode cX9_panel 279 = .ok (.iconst 1, 1) := by decide +kernel
theorem dX9_panel_280 : decode cX9_panel 280 = .ok (.iadd, 1) := by decide +kernel
theorem dX9_panel_281 : decode cX9_panel 281 = .ok (.iastore, 1) := by decide +kernel
theorem dX9_panel_282 : decode cX9_panel 282 = .ok (.aload_n 0, 1) := by decide +kernel
theorem dX9_panel_283 : decode cX9_panel 283 = .ok (.getfield 13, 3) := by decide +kernel
theorem dX9_panel_286 : decode cX9_panel 286 = .ok (.iload_n 1, 1) := by decide +kernel
theorem dX9_panel_287 : decode cX9_panel 287 = .ok (.iaload, 1) := by decide +kernel
theorem dX9_panel_288 : decode cX9_panel 288 = .ok (.iconst 1, 1) := by decide +kernel
theorem dX9_panel_289 : decode cX9_panel 289 = .ok (.isub, 1) := by decide +kernel
theorem dX9_panel_290 : decode cX9_panel 290 = .ok (.ireturn, 1) := by decide +kernel
theorem dX9_turn_0 : decode cX9_turn 0 = .ok (.aload_n 0, 1) := by decide +kernel
theorem dX9_turn_1 : decode cX9_turn 1 = .ok (.aload_n 0, 1) := by decide +kernel
theorem dX9_turn_2 : decode cX9_turn 2 = .ok (.iload_n 1, 1) := by decide +kernel
theorem dX9_turn_3 : decode cX9_turn 3 = .ok (.invokevirtual 121, 3) := by decide +kernel
theorem dX9_turn_6 : decode cX9_turn 6 = .ok (.ifCond .ne 7, 3) := by decide +kernel
theorem dX9_turn_9 : decode cX9_turn 9 = .ok (.iconst 1, 1) := by decide +kernel
theorem dX9_turn_10 : decode cX9_turn 10 = .ok (.goto 16, 3) := by decide +kernel
theorem dX9_turn_13 : decode cX9_turn 13 = .ok (.aload_n 0, 1) := by decide +kernel
theorem dX9_turn_14 : decode cX9_turn 14 = .ok (.iload_n 1, 1) := by decide +kernel
theorem dX9_turn_15 : decode cX9_turn 15 = .ok (.invokevirtual 129, 3) := by decide +kernel
theorem dX9_turn_18 : decode cX9_turn 18 = .ok (.ifCond .eq 7, 3) := by decide +kernel
theorem dX9_turn_21 : decode cX9_turn 21 = .ok (.iconst 2, 1) := by decide +kernel
theorem dX9_turn_22 : decode cX9_turn 22 = .ok (.goto 4, 3) := by decide +kernel
theorem dX9_turn_25 : decode cX9_turn 25 = .ok (.iconst 0, 1) := by decide +kernel
theorem dX9_turn_26 : decode cX9_turn 26 = .ok (.putfield 111, 3) := by decide +kernel
theorem dX9_turn_29 : decode cX9_turn 29 = .ok (.aload_n 0, 1) := by decide +kernel
theorem dX9_turn_30 : decode cX9_turn 30 = .ok (.getfield 111, 3) := by decide +kernel
theorem dX9_turn_33 : decode cX9_turn 33 = .ok (.ifCond .le 5, 3) := by decide +kernel
theorem dX9_turn_36 : decode cX9_turn 36 = .ok (.iconst 0, 1) := by decide +kernel
theorem dX9_turn_37 : decode cX9_turn 37 = .ok (.ireturn, 1) := by decide +kernel
theorem dX9_turn_38 : decode cX9_turn 38 = .ok (.aload_n 0, 1) := by decide +kernel
theorem dX9_turn_39 : decode cX9_turn 39 = .ok (.getfield 7, 3) := by decide +kernel
theorem dX9_turn_42 : decode cX9_turn 42 = .ok (.iload_n 1, 1) := by decide +kernel
theorem dX9_turn_43 : decode cX9_turn 43 = .ok (.baload, 1) := by decide +kernel
theorem dX9_turn_44 : decode cX9_turn 44 = .ok (.istore_n 3, 1) := by decide +kernel
theorem dX9_turn_45 : decode cX9_turn 45 = .ok (.aload_n 0, 1) := by decide +kernel
theorem dX9_turn_46 : decode cX9_turn 46 = .ok (.getfield 7, 3) := by decide +kernel
theorem dX9_turn_49 : decode cX9_turn 49 = .ok (.iload_n 1, 1) := by decide +kernel
theorem dX9_turn_50 : decode cX9_turn 50 = .ok (.iload_n 2, 1) := by decide +kernel
theorem dX9_turn_51 : decode cX9_turn 51 = .ok (.bastore, 1) := by decide +kernel
theorem dX9_turn_52 : decode cX9_turn 52 = .ok (.iload_n 3, 1) := by decide +kernel
theorem dX9_turn_53 : decode cX9_turn 53 = .ok (.ireturn, 1) := by decide +kernel
theorem dX9_cuts_0 : decode cX9_cuts 0 = .ok (.aload_n 0, 1) := by decide +kernel
theorem dX9_cuts_1 : decode cX9_cuts 1 = .ok (.iconst 0, 1) := by decide +kernel
theorem dX9_cuts_2 : decode cX9_cuts 2 = .ok (.putfield 136, 3) := by decide +kernel
theorem dX9_cuts_5 : decode cX9_cuts 5 = .ok (.iconst 0, 1) := by decide +kernel
theorem dX9_cuts_6 : decode cX9_cuts 6 = .ok (.istore 5, 2) := by decide +kernel
theorem dX9_cuts_8 : decode cX9_cuts 8 = .ok (.sipush 1000, 3) := by decide +kernel
theorem dX9_cuts_11 : decode cX9_cuts 11 = .ok (.istore 6, 2) := by decide +kernel
theorem dX9_cuts_13 : decode cX9_cuts 13 = .ok (.iconst 0, 1) := by decide +kernel
theorem dX9_cuts_14 : decode cX9_cuts 14 = .ok (.istore 7, 2) := by decide +kernel
theorem dX9_cuts_16 : decode cX9_cuts 16 = .ok (.iconst 0, 1) := by decide +kernel
theorem dX9_cuts_17 : decode cX9_cuts 17 = .ok (.istore 8, 2) := by decide +kernel
theorem dX9_cuts_19 : decode cX9_cuts 19 = .ok (.iload 8, 2) := by decide +kernel
theorem dX9_cuts_21 : decode cX9_cuts 21 = .ok (.aload_n 0, 1) := by decide +kernel
theorem dX9_cuts_22 : decode cX9_cuts 22 = .ok (.getfield 13, 3) := by decide +kernel
theorem dX9_cuts_25 : decode cX9_cuts 25 = .ok (.iload_n 1, 1) := by decide +kernel
theorem dX9_cuts_26 : decode cX9_cuts 26 = .ok (.iaload, 1) := by decide +kernel
theorem dX9_cuts_27 : decode cX9_cuts 27 = .ok (.if_icmp .ge 161, 3) := by decide +kernel
theorem dX9_cuts_30 : decode cX9_cuts 30 = .ok (.bipush 8, 2) := by decide +kernel
theorem dX9_cuts_32 : decode cX9_cuts 32 = .ok (.iload_n 1, 1) := by decide +kernel
theorem dX9_cuts_33 : decode cX9_cuts 33 = .ok (.imul, 1) := by decide +kernel
theorem dX9_cuts_34 : decode cX9_cuts 34 = .ok (.iload 8, 2) := by decide +kernel
theorem dX9_cuts_36 : decode cX9_cuts 36 = .ok (.iadd, 1) := by decide +kernel
theorem dX9_cuts_37 : decode cX9_cuts 37 = .ok (.istore 9, 2) := by decide +kernel
theorem dX9_cuts_39 : decode cX9_cuts 39 = .ok (.iload 4, 2) := by decide +kernel
theorem dX9_cuts_41 : decode cX9_cuts 41 = .ok (.ifCond .eq 13, 3) := by decide +kernel
theorem dX9_cuts_44 : decode cX9_cuts 44 = .ok (.aload_n 0, 1) := by decide +kernel
theorem dX9_cuts_45 : decode cX9_cuts 45 = .ok (.getfield 38, 3) := by decide +kernel
theorem dX9_cuts_48 : decode cX9_cuts 48 = .ok (.iload 9, 2) := by decide +kernel
theorem dX9_cuts_50 : decode cX9_cuts 50 = .ok (.iaload, 1) := by decide +kernel
theorem dX9_cuts_51 : decode cX9_cuts 51 = .ok (.goto 10, 3) := by decide +kernel
theorem dX9_cuts_54 : decode cX9_cuts 54 = .ok (.aload_n 0, 1) := by decide +kernel
theorem dX9_cuts_55 : decode cX9_cuts 55 = .ok (.getfield 35, 3) := by decide +kernel
theorem dX9_cuts_58 : decode cX9_cuts 58 = .ok (.iload 9, 2) := by decide +kernel
theorem dX9_cuts_60 : decode cX9_cuts 60 = .ok (.iaload, 1) := by decide +kernel
theorem dX9_cuts_61 : decode cX9_cuts 61 = .ok (.istore 10, 2) := by decide +kernel
theorem dX9_cuts_63 : decode cX9_cuts 63 = .ok (.iload 10, 2) := by decide +kernel
theorem dX9_cuts_65 : decode cX9_cuts 65 = .ok (.iload 4, 2) := by decide +kernel
theorem dX9_cuts_67 : decode cX9_cuts 67 = .ok (.ifCond .eq 13, 3) := by decide +kernel
theorem dX9_cuts_70 : decode cX9_cuts 70 = .ok (.aload_n 0, 1) := by decide +kernel
theorem dX9_cuts_71 : decode cX9_cuts 71 = .ok (.getfield 44, 3) := by decide +kernel
theorem dX9_cuts_74 : decode cX9_cuts 74 = .ok (.iload 9, 2) := by decide +kernel
theorem dX9_cuts_76 : decode cX9_cuts 76 = .ok (.iaload, 1) := by decide +kernel
theorem dX9_cuts_77 : decode cX9_cuts 77 = .ok (.goto 10, 3) := by decide +kernel
theorem dX9_cuts_80 : decode cX9_cuts 80 = .ok (.aload_n 0, 1) := by decide +kernel
theorem dX9_cuts_81 : decode cX9_cuts 81 = .ok (.getfield 41, 3) := by decide +kernel
theorem dX9_cuts_84 : decode cX9_cuts 84 = .ok (.iload 9, 2) := by decide +kernel
theorem dX9_cuts_86 : decode cX9_cuts 86 = .ok (.iaload, 1) := by decide +kernel
theorem dX9_cuts_87 : decode cX9_cuts 87 = .ok (.iadd, 1) := by decide +kernel
theorem dX9_cuts_88 : decode cX9_cuts 88 = .ok (.istore 11, 2) := by decide +kernel
theorem dX9_cuts_90 : decode cX9_cuts 90 = .ok (.iload_n 2, 1) := by decide +kernel
theorem dX9_cuts_91 : decode cX9_cuts 91 = .ok (.iload 8, 2) := by decide +kernel
theorem dX9_cuts_93 : decode cX9_cuts 93 = .ok (.ishr, 1) := by decide +kernel
theorem dX9_cuts_94 : decode cX9_cuts 94 = .ok (.iconst 1, 1) := by decide +kernel
theorem dX9_cuts_95 : decode cX9_cuts 95 = .ok (.iand, 1) := by decide +kernel
theorem dX9_cuts_96 : decode cX9_cuts 96 = .ok (.iconst 1, 1) := by decide +kernel
theorem dX9_cuts_97 : decode cX9_cuts 97 = .ok (.if_icmp .ne 85, 3) := by decide +kernel
theorem dX9_cuts_100 : decode cX9_cuts 100 = .ok (.aload_n 0, 1) := by decide +kernel
theorem dX9_cuts_101 : decode cX9_cuts 101 = .ok (.dup, 1) := by decide +kernel
theorem dX9_cuts_102 : decode cX9_cuts 102 = .ok (.getfield 136, 3) := by decide +kernel
theorem dX9_cuts_105 : decode cX9_cuts 105 = .ok (.iload 11, 2) := by decide +kernel
theorem dX9_cuts_107 : decode cX9_cuts 107 = .ok (.iload_n 3, 1) := by decide +kernel
theorem dX9_cuts_108 : decode cX9_cuts 108 = .ok (.if_icmp .gt 10, 3) := by decide +kernel
theorem dX9_cuts_111 : decode cX9_cuts 111 = .ok (.iconst 1, 1) := by decide +kernel
theorem dX9_cuts_112 : decode cX9_cuts 112 = .ok (.iload 8, 2) := by decide +kernel
theorem dX9_cuts_114 : decode cX9_cuts 114 = .ok (.ishl, 1) := by decide +kernel
theorem dX9_cuts_115 : decode cX9_cuts 115 = .ok (.goto 4, 3) := by decide +kernel
theorem dX9_cuts_118 : decode cX9_cuts 118 = .ok (.iconst 0, 1) := by decide +kernel
theorem dX9_cuts_119 : decode cX9_cuts 119 = .ok (.ior, 1) := by decide +kernel
theorem dX9_cuts_120 : decode cX9_cuts 120 = .ok (.putfield 136, 3) := by decide +kernel
theorem dX9_cuts_123 : decode cX9_cuts 123 = .ok (.iload 7, 2) := by decide +kernel
theorem dX9_cuts_125 : decode cX9_cuts 125 = .ok (.ifCond .ne 9, 3) := by decide +kernel
theorem dX9_cuts_128 : decode cX9_cuts 128 = .ok (.iload 11, 2) := by decide +kernel
theorem dX9_cuts_130 : decode cX9_cuts 130 = .ok (.iload_n 3, 1) := by decide +kernel
theorem dX9_cuts_131 : decode cX9_cuts 131 = .ok (.if_icmp .ne 7, 3) := by decide +kernel
theorem dX9_cuts_134 : decode cX9_cuts 134 = .ok (.iconst 1, 1) := by decide +kernel
theorem dX9_cuts_135 : decode cX9_cuts 135 = .ok (.goto 4, 3) := by decide +kernel
theorem dX9_cuts_138 : decode cX9_cuts 138 = .ok (.iconst 0, 1) := by decide +kernel
theorem dX9_cuts_139 : decode cX9_cuts 139 = .ok (.istore 7, 2) := by decide +kernel
theorem dX9_cuts_141 : decode cX9_cuts 141 = .ok (.iload 5, 2) := by decide +kernel
theorem dX9_cuts_143 : decode cX9_cuts 143 = .ok (.iload 10, 2) := by decide +kernel
theorem dX9_cuts_145 : decode cX9_cuts 145 = .ok (.iload_n 3, 1) := by decide +kernel
theorem dX9_cuts_146 : decode cX9_cuts 146 = .ok (.if_icmp .lt 10, 3) := by decide +kernel
theorem dX9_cuts_149 : decode cX9_cuts 149 = .ok (.iconst 1, 1) := by decide +kernel
theorem dX9_cuts_150 : decode cX9_cuts 150 = .ok (.iload 8, 2) := by decide +kernel
theorem dX9_cuts_152 : decode cX9_cuts 152 = .ok (.ishl, 1) := by decide +kernel
theorem dX9_cuts_153 : decode cX9_cuts 153 = .ok (.goto 4, 3) := by decide +kernel
theorem dX9_cuts_156 : decode cX9_cuts 156 = .ok (.iconst 0, 1) := by decide +kernel
theorem dX9_cuts_157 : decode cX9_cuts 157 = .ok (.ior, 1) := by decide +kernel
theorem dX9_cuts_158 : decode cX9_cuts 158 = .ok (.istore 5, 2) := by decide +kernel
theorem dX9_cuts_160 : decode cX9_cuts 160 = .ok (.iload 10, 2) := by decide +kernel
theorem dX9_cuts_162 : decode cX9_cuts 162 = .ok (.iload_n 3, 1) := by decide +kernel
theorem dX9_cuts_163 : decode cX9_cuts 163 = .ok (.if_icmp .lt 15, 3) := by decide +kernel
theorem dX9_cuts_166 : decode cX9_cuts 166 = .ok (.iload 10, 2) := by decide +kernel
theorem dX9_cuts_168 : decode cX9_cuts 168 = .ok (.iload 6, 2) := by decide +kernel
theorem dX9_cuts_170 : decode cX9_cuts 170 = .ok (.if_icmp .ge 8, 3) := by decide +kernel
theorem dX9_cuts_173 : decode cX9_cuts 173 = .ok (.iload 10, 2) := by decide +kernel
theorem dX9_cuts_175 : decode cX9_cuts 175 = .ok (.goto 5, 3) := by decide +kernel
theorem dX9_cuts_178 : decode cX9_cuts 178 = .ok (.iload 6, 2) := by decide +kernel
theorem dX9_cuts_180 : decode cX9_cuts 180 = .ok (.istore 6, 2) := by decide +kernel
theorem dX9_cuts_182 : decode cX9_cuts 182 = .ok (.iinc 8 1, 3) := by decide +kernel
theorem dX9_cuts_185 : decode cX9_cuts 185 = .ok (.goto (-166), 3) := by decide +kernel
theorem dX9_cuts_188 : decode cX9_cuts 188 = .ok (.aload_n 0, 1) := by decide +kernel
theorem dX9_cuts_189 : decode cX9_cuts 189 = .ok (.iload 6, 2) := by decide +kernel
theorem dX9_cuts_191 : decode cX9_cuts 191 = .ok (.iload_n 3, 1) := by decide +kernel
theorem dX9_cuts_192 : decode cX9_cuts 192 = .ok (.isub, 1) := by decide +kernel
theorem dX9_cuts_193 : decode cX9_cuts 193 = .ok (.putfield 139, 3) := by decide +kernel
theorem dX9_cuts_196 : decode cX9_cuts 196 = .ok (.iload 7, 2) := by decide +kernel
theorem dX9_cuts_198 : decode cX9_cuts 198 = .ok (.ifCond .eq 30, 3) := by decide +kernel
theorem dX9_cuts_201 : decode cX9_cuts 201 = .ok (.aload_n 0, 1) := by decide +kernel
theorem dX9_cuts_202 : decode cX9_cuts 202 = .ok (.getfield 136, 3) := by decide +kernel
theorem dX9_cuts_205 : decode cX9_cuts 205 = .ok (.ifCond .eq 23, 3) := by decide +kernel
theorem dX9_cuts_208 : decode cX9_cuts 208 = .ok (.iload 5, 2) := by decide +kernel
theorem dX9_cuts_210 : decode cX9_cuts 210 = .ok (.ifCond .eq 18, 3) := by decide +kernel
theorem dX9_cuts_213 : decode cX9_cuts 213 = .ok (.aload_n 0, 1) := by decide +kernel
theorem dX9_cuts_214 : decode cX9_cuts 214 = .ok (.getfield 136, 3) := by decide +kernel
theorem dX9_cuts_217 : decode cX9_cuts 217 = .ok (.iload 5, 2) := by decide +kernel
theorem dX9_cuts_219 : decode cX9_cuts 219 = .ok (.ior, 1) := by decide +kernel
theorem dX9_cuts_220 : decode cX9_cuts 220 = .ok (.iload_n 2, 1) := by decide +kernel
theorem dX9_cuts_221 : decode cX9_cuts 221 = .ok (.if_icmp .ne 7, 3) := by decide +kernel
theorem dX9_cuts_224 : decode cX9_cuts 224 = .ok (.iconst 1, 1) := by decide +kernel
theorem dX9_cuts_225 : decode cX9_cuts 225 = .ok (.goto 4, 3) := by decide +kernel
theorem dX9_cuts_228 : decode cX9_cuts 228 = .ok (.iconst 0, 1) := by decide +kernel
theorem dX9_cuts_229 : decode cX9_cuts 229 = .ok (.ireturn, 1) := by decide +kernel
theorem dX9_isOneOnly_0 : decode cX9_isOneOnly 0 = .ok (.iload_n 0, 1) := by decide +kernel
theorem dX9_isOneOnly_1 : decode cX9_isOneOnly 1 = .ok (.iload_n 0, 1) := by decide +kernel
theorem dX9_isOneOnly_2 : decode cX9_isOneOnly 2 = .ok (.iconst 1, 1) := by decide +kernel
theorem dX9_isOneOnly_3 : decode cX9_isOneOnly 3 = .ok (.isub, 1) := by decide +kernel
theorem dX9_isOneOnly_4 : decode cX9_isOneOnly 4 = .ok (.iand, 1) := by decide +kernel
theorem dX9_isOneOnly_5 : decode cX9_isOneOnly 5 = .ok (.ifCond .ne 7, 3) := by decide +kernel
theorem dX9_isOneOnly_8 : decode cX9_isOneOnly 8 = .ok (.iconst 1, 1) := by decide +kernel
theorem dX9_isOneOnly_9 : decode cX9_isOneOnly 9 = .ok (.goto 4, 3) := by decide +kernel
theorem dX9_isOneOnly_12 : decode cX9_isOneOnly 12 = .ok (.iconst 0, 1) := by decide +kernel
theorem dX9_isOneOnly_13 : decode cX9_isOneOnly 13 = .ok (.ireturn, 1) := by decide +kernel
theorem dX9_reads_0 : decode cX9_reads 0 = .ok (.aload_n 0, 1) := by decide +kernel
theorem dX9_reads_1 : decode cX9_reads 1 = .ok (.iconst 0, 1) := by decide +kernel
theorem dX9_reads_2 : decode cX9_reads 2 = .ok (.putfield 142, 3) := by decide +kernel
theorem dX9_reads_5 : decode cX9_reads 5 = .ok (.aload_n 0, 1) := by decide +kernel
theorem dX9_reads_6 : decode cX9_reads 6 = .ok (.iconst 0, 1) := by decide +kernel
theorem dX9_reads_7 : decode cX9_reads 7 = .ok (.putfield 145, 3) := by decide +kernel
theorem dX9_reads_10 : decode cX9_reads 10 = .ok (.aload_n 0, 1) := by decide +kernel
theorem dX9_reads_11 : decode cX9_reads 11 = .ok (.getfield 13, 3) := by decide +kernel
theorem dX9_reads_14 : decode cX9_reads 14 = .ok (.iload_n 1, 1) := by decide +kernel
theorem dX9_reads_15 : decode cX9_reads 15 = .ok (.iaload, 1) := by decide +kernel
theorem dX9_reads_16 : decode cX9_reads 16 = .ok (.ifCond .le 7, 3) := by decide +kernel
theorem dX9_reads_19 : decode cX9_reads 19 = .ok (.iconst 1, 1) := by decide +kernel
theorem dX9_reads_20 : decode cX9_reads 20 = .ok (.goto 4, 3) := by decide +kernel
theorem dX9_reads_23 : decode cX9_reads 23 = .ok (.iconst 0, 1) := by decide +kernel
theorem dX9_reads_24 : decode cX9_reads 24 = .ok (.istore_n 3, 1) := by decide +kernel
theorem dX9_reads_25 : decode cX9_reads 25 = .ok (.aload_n 0, 1) := by decide +kernel
theorem dX9_reads_26 : decode cX9_reads 26 = .ok (.getfield 105, 3) := by decide +kernel
theorem dX9_reads_29 : decode cX9_reads 29 = .ok (.iconst 0, 1) := by decide +kernel
theorem dX9_reads_30 : decode cX9_reads 30 = .ok (.iconst 1, 1) := by decide +kernel
theorem dX9_reads_31 : decode cX9_reads 31 = .ok (.aload_n 0, 1) := by decide +kernel
theorem dX9_reads_32 : decode cX9_reads 32 = .ok (.getfield 13, 3) := by decide +kernel
theorem dX9_reads_35 : decode cX9_reads 35 = .ok (.iload_n 1, 1) := by decide +kernel
theorem dX9_reads_36 : decode cX9_reads 36 = .ok (.iaload, 1) := by decide +kernel
theorem dX9_reads_37 : decode cX9_reads 37 = .ok (.ishl, 1) := by decide +kernel
theorem dX9_reads_38 : decode cX9_reads 38 = .ok (.iconst 1, 1) := by decide +kernel
theorem dX9_reads_39 : decode cX9_reads 39 = .ok (.isub, 1) := by decide +kernel
theorem dX9_reads_40 : decode cX9_reads 40 = .ok (.iastore, 1) := by decide +kernel
theorem dX9_reads_41 : decode cX9_reads 41 = .ok (.iload_n 3, 1) := by decide +kernel
theorem dX9_reads_42 : decode cX9_reads 42 = .ok (.ifCond .le 311, 3) := by decide +kernel
theorem dX9_reads_45 : decode cX9_reads 45 = .ok (.iinc 3 (-1), 3) := by decide +kernel
theorem dX9_reads_48 : decode cX9_reads 48 = .ok (.aload_n 0, 1) := by decide +kernel
theorem dX9_reads_49 : decode cX9_reads 49 = .ok (.getfield 105, 3) := by decide +kernel
theorem dX9_reads_52 : decode cX9_reads 52 = .ok (.iload_n 3, 1) := by decide +kernel
theorem dX9_reads_53 : decode cX9_reads 53 = .ok (.iaload, 1) := by decide +kernel
theorem dX9_reads_54 : decode cX9_reads 54 = .ok (.istore 4, 2) := by decide +kernel
theorem dX9_reads_56 : decode cX9_reads 56 = .ok (.iconst (-1), 1) := by decide +kernel
theorem dX9_reads_57 : decode cX9_reads 57 = .ok (.istore 5, 2) := by decide +kernel
theorem dX9_reads_59 : decode cX9_reads 59 = .ok (.iconst 0, 1) := by decide +kernel
theorem dX9_reads_60 : decode cX9_reads 60 = .ok (.istore 6, 2) := by decide +kernel
theorem dX9_reads_62 : decode cX9_reads 62 = .ok (.iconst (-1), 1) := by decide +kernel
theorem dX9_reads_63 : decode cX9_reads 63 = .ok (.istore 7, 2) := by decide +kernel
theorem dX9_reads_65 : decode cX9_reads 65 = .ok (.iconst 0, 1) := by decide +kernel
theorem dX9_reads_66 : decode cX9_reads 66 = .ok (.istore 8, 2) := by decide +kernel
theorem dX9_reads_68 : decode cX9_reads 68 = .ok (.iconst 0, 1) := by decide +kernel
theorem dX9_reads_69 : decode cX9_reads 69 = .ok (.istore 9, 2) := by decide +kernel
theorem dX9_reads_71 : decode cX9_reads 71 = .ok (.iload 9, 2) := by decide +kernel
theorem dX9_reads_73 : decode cX9_reads 73 = .ok (.bipush 80, 2) := by decide +kernel
theorem dX9_reads_75 : decode cX9_reads 75 = .ok (.if_icmp .gt 98, 3) := by decide +kernel
theorem dX9_reads_78 : decode cX9_reads 78 = .ok (.iload 4, 2) := by decide +kernel
theorem dX9_reads_80 : decode cX9_reads 80 = .ok (.invokestatic 148, 3) := by decide +kernel
theorem dX9_reads_83 : decode cX9_reads 83 = .ok (.ifCond .ne 90, 3) := by decide +kernel
theorem dX9_reads_86 : decode cX9_reads 86 = .ok (.aload_n 0, 1) := by decide +kernel
theorem dX9_reads_87 : decode cX9_reads 87 = .ok (.iload_n 1, 1) := by decide +kernel
theorem dX9_reads_88 : decode cX9_reads 88 = .ok (.iload 4, 2) := by decide +kernel
theorem dX9_reads_90 : decode cX9_reads 90 = .ok (.iload 9, 2) := by decide +kernel
theorem dX9_reads_92 : decode cX9_reads 92 = .ok (.iconst 1, 1) := by decide +kernel
theorem dX9_reads_93 : decode cX9_reads 93 = .ok (.invokevirtual 151, 3) := by decide +kernel
theorem dX9_reads_96 : decode cX9_reads 96 = .ok (.ifCond .eq 24, 3) := by decide +kernel
theorem dX9_reads_99 : decode cX9_reads 99 = .ok (.aload_n 0, 1) := by decide +kernel
theorem dX9_reads_100 : decode cX9_reads 100 = .ok (.getfield 139, 3) := by decide +kernel
theorem dX9_reads_103 : decode cX9_reads 103 = .ok (.iload 5, 2) := by decide +kernel
theorem dX9_reads_105 : decode cX9_reads 105 = .ok (.if_icmp .le 15, 3) := by decide +kernel
theorem dX9_reads_108 : decode cX9_reads 108 = .ok (.aload_n 0, 1) := by decide +kernel
theorem dX9_reads_109 : decode cX9_reads 109 = .ok (.getfield 139, 3) := by decide +kernel
theorem dX9_reads_112 : decode cX9_reads 112 = .ok (.istore 5, 2) := by decide +kernel
theorem dX9_reads_114 : decode cX9_reads 114 = .ok (.aload_n 0, 1) := by decide +kernel
theorem dX9_reads_115 : decode cX9_reads 115 = .ok (.getfield 136, 3) := by decide +kernel
theorem dX9_reads_118 : decode cX9_reads 118 = .ok (.istore 6, 2) := by decide +kernel
theorem dX9_reads_120 : decode cX9_reads 120 = .ok (.aload_n 0, 1) := by decide +kernel
theorem dX9_reads_121 : decode cX9_reads 121 = .ok (.iload_n 1, 1) := by decide +kernel
theorem dX9_reads_122 : decode cX9_reads 122 = .ok (.iload 4, 2) := by decide +kernel
theorem dX9_reads_124 : decode cX9_reads 124 = .ok (.iload 9, 2) := by decide +kernel
theorem dX9_reads_126 : decode cX9_reads 126 = .ok (.iconst 0, 1) := by decide +kernel
theorem dX9_reads_127 : decode cX9_reads 127 = .ok (.invokevirtual 151, 3) := by decide +kernel
theorem dX9_reads_130 : decode cX9_reads 130 = .ok (.ifCond .eq 37, 3) := by decide +kernel
theorem dX9_reads_133 : decode cX9_reads 133 = .ok (.aload_n 0, 1) := by decide +kernel
theorem dX9_reads_134 : decode cX9_reads 134 = .ok (.getfield 139, 3) := by decide +kernel
theorem dX9_reads_137 : decode cX9_reads 137 = .ok (.iload 7, 2) := by decide +kernel
theorem dX9_reads_139 : decode cX9_reads 139 = .ok (.if_icmp .gt 16, 3) := by decide +kernel
theorem dX9_reads_142 : decode cX9_reads 142 = .ok (.iload_n 2, 1) := by decide +kernel
theorem dX9_reads_143 : decode cX9_reads 143 = .ok (.ifCond .eq 24, 3) := by decide +kernel
theorem dX9_reads_146 : decode cX9_reads 146 = .ok (.aload_n 0, 1) := by decide +kernel
theorem dX9_reads_147 : decode cX9_reads 147 = .ok (.getfield 139, 3) := by decide +kernel
theorem dX9_reads_150 : decode cX9_reads 150 = .ok (.iload 7, 2) := by decide +kernel
theorem dX9_reads_152 : decode cX9_reads 152 = .ok (.if_icmp .ne 15, 3) := by decide +kernel
theorem dX9_reads_155 : decode cX9_reads 155 = .ok (.aload_n 0, 1) := by decide +kernel
theorem dX9_reads_156 : decode cX9_reads 156 = .ok (.getfield 139, 3) := by decide +kernel
theorem dX9_reads_159 : decode cX9_reads 159 = .ok (.istore 7, 2) := by decide +kernel
theorem dX9_reads_161 : decode cX9_reads 161 = .ok (.aload_n 0, 1) := by decide +kernel
theorem dX9_reads_162 : decode cX9_reads 162 = .ok (.getfield 136, 3) := by decide +kernel
theorem dX9_reads_165 : decode cX9_reads 165 = .ok (.istore 8, 2) := by decide +kernel
theorem dX9_reads_167 : decode cX9_reads 167 = .ok (.iinc 9 1, 3) := by decide +kernel
theorem dX9_reads_170 : decode cX9_reads 170 = .ok (.goto (-99), 3) := by decide +kernel
theorem dX9_reads_173 : decode cX9_reads 173 = .ok (.iload 5, 2) := by decide +kernel
theorem dX9_reads_175 : decode cX9_reads 175 = .ok (.iconst (-1), 1) := by decide +kernel
theorem dX9_reads_176 : decode cX9_reads 176 = .ok (.if_icmp .ne 13, 3) := by decide +kernel
theorem dX9_reads_179 : decode cX9_reads 179 = .ok (.iload 7, 2) := by decide +kernel
theorem dX9_reads_181 : decode cX9_reads 181 = .ok (.iconst (-1), 1) := by decide +kernel
theorem dX9_reads_182 : decode cX9_reads 182 = .ok (.if_icmp .ne 7, 3) := by decide +kernel
theorem dX9_reads_185 : decode cX9_reads 185 = .ok (.iconst 1, 1) := by decide +kernel
theorem dX9_reads_186 : decode cX9_reads 186 = .ok (.goto 4, 3) := by decide +kernel
theorem dX9_reads_189 : decode cX9_reads 189 = .ok (.iconst 0, 1) := by decide +kernel
theorem dX9_reads_190 : decode cX9_reads 190 = .ok (.istore 9, 2) := by decide +kernel
theorem dX9_reads_192 : decode cX9_reads 192 = .ok (.aload_n 0, 1) := by decide +kernel
theorem dX9_reads_193 : decode cX9_reads 193 = .ok (.dup, 1) := by decide +kernel
theorem dX9_reads_194 : decode cX9_reads 194 = .ok (.getfield 145, 3) := by decide +kernel
theorem dX9_reads_197 : decode cX9_reads 197 = .ok (.iload 4, 2) := by decide +kernel
theorem dX9_reads_199 : decode cX9_reads 199 = .ok (.invokestatic 148, 3) := by decide +kernel
theorem dX9_reads_202 : decode cX9_reads 202 = .ok (.ifCond .ne 19, 3) := by decide +kernel
theorem dX9_reads_205 : decode cX9_reads 205 = .ok (.iload 9, 2) := by decide +kernel
theorem dX9_reads_207 : decode cX9_reads 207 = .ok (.ifCond .ne 10, 3) := by decide +kernel
theorem dX9_reads_210 : decode cX9_reads 210 = .ok (.iload 5, 2) := by decide +kernel
theorem dX9_reads_212 : decode cX9_reads 212 = .ok (.iload 7, 2) := by decide +kernel
theorem dX9_reads_214 : decode cX9_reads 214 = .ok (.if_icmp .ne 7, 3) := by decide +kernel
theorem dX9_reads_217 : decode cX9_reads 217 = .ok (.iconst 1, 1) := by decide +kernel
theorem dX9_reads_218 : decode cX9_reads 218 = .ok (.goto 4, 3) := by decide +kernel
theorem dX9_reads_221 : decode cX9_reads 221 = .ok (.iconst 0, 1) := by decide +kernel
theorem dX9_reads_222 : decode cX9_reads 222 = .ok (.iadd, 1) := by decide +kernel
theorem dX9_reads_223 : decode cX9_reads 223 = .ok (.putfield 145, 3) := by decide +kernel
theorem dX9_reads_226 : decode cX9_reads 226 = .ok (.iload 9, 2) := by decide +kernel
theorem dX9_reads_228 : decode cX9_reads 228 = .ok (.ifCond .eq 54, 3) := by decide +kernel
theorem dX9_reads_231 : decode cX9_reads 231 = .ok (.iconst 0, 1) := by decide +kernel
theorem dX9_reads_232 : decode cX9_reads 232 = .ok (.istore 10, 2) := by decide +kernel
theorem dX9_reads_234 : decode cX9_reads 234 = .ok (.iload 10, 2) := by decide +kernel
theorem dX9_reads_236 : decode cX9_reads 236 = .ok (.bipush 8, 2) := by decide +kernel
theorem dX9_reads_238 : decode cX9_reads 238 = .ok (.if_icmp .ge 41, 3) := by decide +kernel
theorem dX9_reads_241 : decode cX9_reads 241 = .ok (.iload 4, 2) := by decide +kernel
theorem dX9_reads_243 : decode cX9_reads 243 = .ok (.iload 10, 2) := by decide +kernel
theorem dX9_reads_245 : decode cX9_reads 245 = .ok (.ishr, 1) := by decide +kernel
theorem dX9_reads_246 : decode cX9_reads 246 = .ok (.iconst 1, 1) := by decide +kernel
theorem dX9_reads_247 : decode cX9_reads 247 = .ok (.iand, 1) := by decide +kernel
theorem dX9_reads_248 : decode cX9_reads 248 = .ok (.iconst 1, 1) := by decide +kernel
theorem dX9_reads_249 : decode cX9_reads 249 = .ok (.if_icmp .ne 24, 3) := by decide +kernel
theorem dX9_reads_252 : decode cX9_reads 252 = .ok (.aload_n 0, 1) := by decide +kernel
theorem dX9_reads_253 : decode cX9_reads 253 = .ok (.getfield 102, 3) := by decide +kernel
theorem dX9_reads_256 : decode cX9_reads 256 = .ok (.aload_n 0, 1) := by decide +kernel
theorem dX9_reads_257 : decode cX9_reads 257 = .ok (.getfield 142, 3) := by decide +kernel
theorem dX9_reads_260 : decode cX9_reads 260 = .ok (.iload 10, 2) := by decide +kernel
theorem dX9_reads_262 : decode cX9_reads 262 = .ok (.iastore, 1) := by decide +kernel
theorem dX9_reads_263 : decode cX9_reads 263 = .ok (.aload_n 0, 1) := by decide +kernel
theorem dX9_reads_264 : decode cX9_reads 264 = .ok (.dup, 1) := by decide +kernel
theorem dX9_reads_265 : decode cX9_reads 265 = .ok (.getfield 142, 3) := by decide +kernel
theorem dX9_reads_268 : decode cX9_reads 268 = .ok (.iconst 1, 1) := by decide +kernel
theorem dX9_reads_269 : decode cX9_reads 269 = .ok (.iadd, 1) := by decide +kernel
theorem dX9_reads_270 : decode cX9_reads 270 = .ok (.putfield 142, 3) := by decide +kernel
theorem dX9_reads_273 : decode cX9_reads 273 = .ok (.iinc 10 1, 3) := by decide +kernel
theorem dX9_reads_276 : decode cX9_reads 276 = .ok (.goto (-42), 3) := by decide +kernel
theorem dX9_reads_279 : decode cX9_reads 279 = .ok (.goto 71, 3) := by decide +kernel
theorem dX9_reads_282 : decode cX9_reads 282 = .ok (.iload 5, 2) := by decide +kernel
theorem dX9_reads_284 : decode cX9_reads 284 = .ok (.iload 7, 2) := by decide +kernel
theorem dX9_reads_286 : decode cX9_reads 286 = .ok (.if_icmp .lt 7, 3) := by decide +kernel
theorem dX9_reads_289 : decode cX9_reads 289 = .ok (.iconst 1, 1) := by decide +kernel
theorem dX9_reads_290 : decode cX9_reads 290 = .ok (.goto 4, 3) := by decide +kernel
theorem dX9_reads_293 : decode cX9_reads 293 = .ok (.iconst 0, 1) := by decide +kernel
theorem dX9_reads_294 : decode cX9_reads 294 = .ok (.istore 10, 2) := by decide +kernel
theorem dX9_reads_296 : decode cX9_reads 296 = .ok (.iload 10, 2) := by decide +kernel
theorem dX9_reads_298 : decode cX9_reads 298 = .ok (.ifCond .eq 8, 3) := by decide +kernel
theorem dX9_reads_301 : decode cX9_reads 301 = .ok (.iload 6, 2) := by decide +kernel
theorem dX9_reads_303 : decode cX9_reads 303 = .ok (.goto 19, 3) := by decide +kernel
theorem dX9_reads_306 : decode cX9_reads 306 = .ok (.iload_n 2, 1) := by decide +kernel
theorem dX9_reads_307 : decode cX9_reads 307 = .ok (.ifCond .eq 13, 3) := by decide +kernel
theorem dX9_reads_310 : decode cX9_reads 310 = .ok (.iload 4, 2) := by decide +kernel
theorem dX9_reads_312 : decode cX9_reads 312 = .ok (.iload 8, 2) := by decide +kernel
theorem dX9_reads_314 : decode cX9_reads 314 = .ok (.iconst (-1), 1) := by decide +kernel
theorem dX9_reads_315 : decode cX9_reads 315 = .ok (.ixor, 1) := by decide +kernel
theorem dX9_reads_316 : decode cX9_reads 316 = .ok (.iand, 1) := by decide +kernel
theorem dX9_reads_317 : decode cX9_reads 317 = .ok (.goto 5, 3) := by decide +kernel
theorem dX9_reads_320 : decode cX9_reads 320 = .ok (.iload 8, 2) := by decide +kernel
theorem dX9_reads_322 : decode cX9_reads 322 = .ok (.istore 11, 2) := by decide +kernel
theorem dX9_reads_324 : decode cX9_reads 324 = .ok (.aload_n 0, 1) := by decide +kernel
theorem dX9_reads_325 : decode cX9_reads 325 = .ok (.getfield 105, 3) := by decide +kernel
theorem dX9_reads_328 : decode cX9_reads 328 = .ok (.iload_n 3, 1) := by decide +kernel
theorem dX9_reads_329 : decode cX9_reads 329 = .ok (.iload 4, 2) := by decide +kernel
theorem dX9_reads_331 : decode cX9_reads 331 = .ok (.iload 11, 2) := by decide +kernel
theorem dX9_reads_333 : decode cX9_reads 333 = .ok (.iconst (-1), 1) := by decide +kernel
theorem dX9_reads_334 : decode cX9_reads 334 = .ok (.ixor, 1) := by decide +kernel
theorem dX9_reads_335 : decode cX9_reads 335 = .ok (.iand, 1) := by decide +kernel
theorem dX9_reads_336 : decode cX9_reads 336 = .ok (.iastore, 1) := by decide +kernel
theorem dX9_reads_337 : decode cX9_reads 337 = .ok (.aload_n 0, 1) := by decide +kernel
theorem dX9_reads_338 : decode cX9_reads 338 = .ok (.getfield 105, 3) := by decide +kernel
theorem dX9_reads_341 : decode cX9_reads 341 = .ok (.iload_n 3, 1) := by decide +kernel
theorem dX9_reads_342 : decode cX9_reads 342 = .ok (.iconst 1, 1) := by decide +kernel
theorem dX9_reads_343 : decode cX9_reads 343 = .ok (.iadd, 1) := by decide +kernel
theorem dX9_reads_344 : decode cX9_reads 344 = .ok (.iload 11, 2) := by decide +kernel
theorem dX9_reads_346 : decode cX9_reads 346 = .ok (.iastore, 1) := by decide +kernel
theorem dX9_reads_347 : decode cX9_reads 347 = .ok (.iinc 3 2, 3) := by decide +kernel
theorem dX9_reads_350 : decode cX9_reads 350 = .ok (.goto (-309), 3) := by decide +kernel
theorem dX9_reads_353 : decode cX9_reads 353 = .ok (.return_, 1) := by decide +kernel
theorem dX9_read_0 : decode cX9_read 0 = .ok (.aload_n 0, 1) := by decide +kernel
theorem dX9_read_1 : decode cX9_read 1 = .ok (.aload_n 0, 1) := by decide +kernel
theorem dX9_read_2 : decode cX9_read 2 = .ok (.iload_n 1, 1) := by decide +kernel
theorem dX9_read_3 : decode cX9_read 3 = .ok (.invokevirtual 121, 3) := by decide +kernel
theorem dX9_read_6 : decode cX9_read 6 = .ok (.ifCond .eq 7, 3) := by decide +kernel
theorem dX9_read_9 : decode cX9_read 9 = .ok (.iconst 0, 1) := by decide +kernel
theorem dX9_read_10 : decode cX9_read 10 = .ok (.goto 4, 3) := by decide +kernel
theorem dX9_read_13 : decode cX9_read 13 = .ok (.iconst 1, 1) := by decide +kernel
theorem dX9_read_14 : decode cX9_read 14 = .ok (.putfield 111, 3) := by decide +kernel
theorem dX9_read_17 : decode cX9_read 17 = .ok (.aload_n 0, 1) := by decide +kernel
theorem dX9_read_18 : decode cX9_read 18 = .ok (.getfield 111, 3) := by decide +kernel
theorem dX9_read_21 : decode cX9_read 21 = .ok (.ifCond .le 5, 3) := by decide +kernel
theorem dX9_read_24 : decode cX9_read 24 = .ok (.iconst 0, 1) := by decide +kernel
theorem dX9_read_25 : decode cX9_read 25 = .ok (.ireturn, 1) := by decide +kernel
theorem dX9_read_26 : decode cX9_read 26 = .ok (.aload_n 0, 1) := by decide +kernel
theorem dX9_read_27 : decode cX9_read 27 = .ok (.iload_n 1, 1) := by decide +kernel
theorem dX9_read_28 : decode cX9_read 28 = .ok (.iload_n 2, 1) := by decide +kernel
theorem dX9_read_29 : decode cX9_read 29 = .ok (.invokevirtual 155, 3) := by decide +kernel
theorem dX9_read_32 : decode cX9_read 32 = .ok (.aload_n 0, 1) := by decide +kernel
theorem dX9_read_33 : decode cX9_read 33 = .ok (.iload_n 3, 1) := by decide +kernel
theorem dX9_read_34 : decode cX9_read 34 = .ok (.iconst 0, 1) := by decide +kernel
theorem dX9_read_35 : decode cX9_read 35 = .ok (.aload_n 0, 1) := by decide +kernel
theorem dX9_read_36 : decode cX9_read 36 = .ok (.getfield 142, 3) := by decide +kernel
theorem dX9_read_39 : decode cX9_read 39 = .ok (.iconst 1, 1) := by decide +kernel
theorem dX9_read_40 : decode cX9_read 40 = .ok (.isub, 1) := by decide +kernel
theorem dX9_read_41 : decode cX9_read 41 = .ok (.invokestatic 117, 3) := by decide +kernel
theorem dX9_read_44 : decode cX9_read 44 = .ok (.ifCond .eq 7, 3) := by decide +kernel
theorem dX9_read_47 : decode cX9_read 47 = .ok (.iconst 0, 1) := by decide +kernel
theorem dX9_read_48 : decode cX9_read 48 = .ok (.goto 4, 3) := by decide +kernel
theorem dX9_read_51 : decode cX9_read 51 = .ok (.iconst 1, 1) := by decide +kernel
theorem dX9_read_52 : decode cX9_read 52 = .ok (.putfield 111, 3) := by decide +kernel
theorem dX9_read_55 : decode cX9_read 55 = .ok (.aload_n 0, 1) := by decide +kernel
theorem dX9_read_56 : decode cX9_read 56 = .ok (.getfield 111, 3) := by decide +kernel
theorem dX9_read_59 : decode cX9_read 59 = .ok (.ifCond .ne 12, 3) := by decide +kernel
theorem dX9_read_62 : decode cX9_read 62 = .ok (.aload_n 0, 1) := by decide +kernel
theorem dX9_read_63 : decode cX9_read 63 = .ok (.getfield 102, 3) := by decide +kernel
theorem dX9_read_66 : decode cX9_read 66 = .ok (.iload_n 3, 1) := by decide +kernel
theorem dX9_read_67 : decode cX9_read 67 = .ok (.iaload, 1) := by decide +kernel
theorem dX9_read_68 : decode cX9_read 68 = .ok (.goto 4, 3) := by decide +kernel
theorem dX9_read_71 : decode cX9_read 71 = .ok (.iconst 0, 1) := by decide +kernel
theorem dX9_read_72 : decode cX9_read 72 = .ok (.ireturn, 1) := by decide +kernel
theorem dX9_doubts_0 : decode cX9_doubts 0 = .ok (.aload_n 0, 1) := by decide +kernel
theorem dX9_doubts_1 : decode cX9_doubts 1 = .ok (.aload_n 0, 1) := by decide +kernel
theorem dX9_doubts_2 : decode cX9_doubts 2 = .ok (.iload_n 1, 1) := by decide +kernel
theorem dX9_doubts_3 : decode cX9_doubts 3 = .ok (.invokevirtual 121, 3) := by decide +kernel
theorem dX9_doubts_6 : decode cX9_doubts 6 = .ok (.ifCond .eq 7, 3) := by decide +kernel
theorem dX9_doubts_9 : decode cX9_doubts 9 = .ok (.iconst 0, 1) := by decide +kernel
theorem dX9_doubts_10 : decode cX9_doubts 10 = .ok (.goto 4, 3) := by decide +kernel
theorem dX9_doubts_13 : decode cX9_doubts 13 = .ok (.iconst 1, 1) := by decide +kernel
theorem dX9_doubts_14 : decode cX9_doubts 14 = .ok (.putfield 111, 3) := by decide +kernel
theorem dX9_doubts_17 : decode cX9_doubts 17 = .ok (.aload_n 0, 1) := by decide +kernel
theorem dX9_doubts_18 : decode cX9_doubts 18 = .ok (.getfield 111, 3) := by decide +kernel
theorem dX9_doubts_21 : decode cX9_doubts 21 = .ok (.ifCond .le 5, 3) := by decide +kernel
theorem dX9_doubts_24 : decode cX9_doubts 24 = .ok (.iconst 0, 1) := by decide +kernel
theorem dX9_doubts_25 : decode cX9_doubts 25 = .ok (.ireturn, 1) := by decide +kernel
theorem dX9_doubts_26 : decode cX9_doubts 26 = .ok (.aload_n 0, 1) := by decide +kernel
theorem dX9_doubts_27 : decode cX9_doubts 27 = .ok (.iload_n 1, 1) := by decide +kernel
theorem dX9_doubts_28 : decode cX9_doubts 28 = .ok (.aload_n 0, 1) := by decide +kernel
theorem dX9_doubts_29 : decode cX9_doubts 29 = .ok (.getfield 7, 3) := by decide +kernel
theorem dX9_doubts_32 : decode cX9_doubts 32 = .ok (.iload_n 1, 1) := by decide +kernel
theorem dX9_doubts_33 : decode cX9_doubts 33 = .ok (.baload, 1) := by decide +kernel
theorem dX9_doubts_34 : decode cX9_doubts 34 = .ok (.invokevirtual 155, 3) := by decide +kernel
theorem dX9_doubts_37 : decode cX9_doubts 37 = .ok (.aload_n 0, 1) := by decide +kernel
theorem dX9_doubts_38 : decode cX9_doubts 38 = .ok (.getfield 145, 3) := by decide +kernel
theorem dX9_doubts_41 : decode cX9_doubts 41 = .ok (.ireturn, 1) := by decide +kernel
theorem dX9_isAhead_0 : decode cX9_isAhead 0 = .ok (.bipush 8, 2) := by decide +kernel
theorem dX9_isAhead_2 : decode cX9_isAhead 2 = .ok (.iload_n 1, 1) := by decide +kernel
theorem dX9_isAhead_3 : decode cX9_isAhead 3 = .ok (.imul, 1) := by decide +kernel
theorem dX9_isAhead_4 : decode cX9_isAhead 4 = .ok (.iload_n 2, 1) := by decide +kernel
theorem dX9_isAhead_5 : decode cX9_isAhead 5 = .ok (.iadd, 1) := by decide +kernel
theorem dX9_isAhead_6 : decode cX9_isAhead 6 = .ok (.istore 5, 2) := by decide +kernel
theorem dX9_isAhead_8 : decode cX9_isAhead 8 = .ok (.bipush 8, 2) := by decide +kernel
theorem dX9_isAhead_10 : decode cX9_isAhead 10 = .ok (.iload_n 1, 1) := by decide +kernel
theorem dX9_isAhead_11 : decode cX9_isAhead 11 = .ok (.imul, 1) := by decide +kernel
theorem dX9_isAhead_12 : decode cX9_isAhead 12 = .ok (.iload_n 3, 1) := by decide +kernel
theorem dX9_isAhead_13 : decode cX9_isAhead 13 = .ok (.iadd, 1) := by decide +kernel
theorem dX9_isAhead_14 : decode cX9_isAhead 14 = .ok (.istore 6, 2) := by decide +kernel
theorem dX9_isAhead_16 : decode cX9_isAhead 16 = .ok (.iload 4, 2) := by decide +kernel
theorem dX9_isAhead_18 : decode cX9_isAhead 18 = .ok (.ifCond .eq 36, 3) := by decide +kernel
theorem dX9_isAhead_21 : decode cX9_isAhead 21 = .ok (.aload_n 0, 1) := by decide +kernel
theorem dX9_isAhead_22 : decode cX9_isAhead 22 = .ok (.getfield 35, 3) := by decide +kernel
theorem dX9_isAhead_25 : decode cX9_isAhead 25 = .ok (.iload 6, 2) := by decide +kernel
theorem dX9_isAhead_27 : decode cX9_isAhead 27 = .ok (.iaload, 1) := by decide +kernel
theorem dX9_isAhead_28 : decode cX9_isAhead 28 = .ok (.aload_n 0, 1) := by decide +kernel
theorem dX9_isAhead_29 : decode cX9_isAhead 29 = .ok (.getfield 41, 3) := by decide +kernel
theorem dX9_isAhead_32 : decode cX9_isAhead 32 = .ok (.iload 6, 2) := by decide +kernel
theorem dX9_isAhead_34 : decode cX9_isAhead 34 = .ok (.iaload, 1) := by decide +kernel
theorem dX9_isAhead_35 : decode cX9_isAhead 35 = .ok (.iadd, 1) := by decide +kernel
theorem dX9_isAhead_36 : decode cX9_isAhead 36 = .ok (.aload_n 0, 1) := by decide +kernel
theorem dX9_isAhead_37 : decode cX9_isAhead 37 = .ok (.getfield 35, 3) := by decide +kernel
theorem dX9_isAhead_40 : decode cX9_isAhead 40 = .ok (.iload 5, 2) := by decide +kernel
theorem dX9_isAhead_42 : decode cX9_isAhead 42 = .ok (.iaload, 1) := by decide +kernel
theorem dX9_isAhead_43 : decode cX9_isAhead 43 = .ok (.if_icmp .gt 7, 3) := by decide +kernel
theorem dX9_isAhead_46 : decode cX9_isAhead 46 = .ok (.iconst 1, 1) := by decide +kernel
theorem dX9_isAhead_47 : decode cX9_isAhead 47 = .ok (.goto 37, 3) := by decide +kernel
theorem dX9_isAhead_50 : decode cX9_isAhead 50 = .ok (.iconst 0, 1) := by decide +kernel
theorem dX9_isAhead_51 : decode cX9_isAhead 51 = .ok (.goto 33, 3) := by decide +kernel
theorem dX9_isAhead_54 : decode cX9_isAhead 54 = .ok (.aload_n 0, 1) := by decide +kernel
theorem dX9_isAhead_55 : decode cX9_isAhead 55 = .ok (.getfield 35, 3) := by decide +kernel
theorem dX9_isAhead_58 : decode cX9_isAhead 58 = .ok (.iload 6, 2) := by decide +kernel
theorem dX9_isAhead_60 : decode cX9_isAhead 60 = .ok (.iaload, 1) := by decide +kernel
theorem dX9_isAhead_61 : decode cX9_isAhead 61 = .ok (.aload_n 0, 1) := by decide +kernel
theorem dX9_isAhead_62 : decode cX9_isAhead 62 = .ok (.getfield 35, 3) := by decide +kernel
theorem dX9_isAhead_65 : decode cX9_isAhead 65 = .ok (.iload 5, 2) := by decide +kernel
theorem dX9_isAhead_67 : decode cX9_isAhead 67 = .ok (.iaload, 1) := by decide +kernel
theorem dX9_isAhead_68 : decode cX9_isAhead 68 = .ok (.aload_n 0, 1) := by decide +kernel
theorem dX9_isAhead_69 : decode cX9_isAhead 69 = .ok (.getfield 41, 3) := by decide +kernel
theorem dX9_isAhead_72 : decode cX9_isAhead 72 = .ok (.iload 5, 2) := by decide +kernel
theorem dX9_isAhead_74 : decode cX9_isAhead 74 = .ok (.iaload, 1) := by decide +kernel
theorem dX9_isAhead_75 : decode cX9_isAhead 75 = .ok (.iadd, 1) := by decide +kernel
theorem dX9_isAhead_76 : decode cX9_isAhead 76 = .ok (.if_icmp .lt 7, 3) := by decide +kernel
theorem dX9_isAhead_79 : decode cX9_isAhead 79 = .ok (.iconst 1, 1) := by decide +kernel
theorem dX9_isAhead_80 : decode cX9_isAhead 80 = .ok (.goto 4, 3) := by decide +kernel
theorem dX9_isAhead_83 : decode cX9_isAhead 83 = .ok (.iconst 0, 1) := by decide +kernel
theorem dX9_isAhead_84 : decode cX9_isAhead 84 = .ok (.istore 7, 2) := by decide +kernel
theorem dX9_isAhead_86 : decode cX9_isAhead 86 = .ok (.iload_n 2, 1) := by decide +kernel
theorem dX9_isAhead_87 : decode cX9_isAhead 87 = .ok (.iload_n 3, 1) := by decide +kernel
theorem dX9_isAhead_88 : decode cX9_isAhead 88 = .ok (.if_icmp .eq 71, 3) := by decide +kernel
theorem dX9_isAhead_91 : decode cX9_isAhead 91 = .ok (.aload_n 0, 1) := by decide +kernel
theorem dX9_isAhead_92 : decode cX9_isAhead 92 = .ok (.getfield 38, 3) := by decide +kernel
theorem dX9_isAhead_95 : decode cX9_isAhead 95 = .ok (.iload 6, 2) := by decide +kernel
theorem dX9_isAhead_97 : decode cX9_isAhead 97 = .ok (.iaload, 1) := by decide +kernel
theorem dX9_isAhead_98 : decode cX9_isAhead 98 = .ok (.aload_n 0, 1) := by decide +kernel
theorem dX9_isAhead_99 : decode cX9_isAhead 99 = .ok (.getfield 38, 3) := by decide +kernel
theorem dX9_isAhead_102 : decode cX9_isAhead 102 = .ok (.iload 5, 2) := by decide +kernel
theorem dX9_isAhead_104 : decode cX9_isAhead 104 = .ok (.iaload, 1) := by decide +kernel
theorem dX9_isAhead_105 : decode cX9_isAhead 105 = .ok (.aload_n 0, 1) := by decide +kernel
theorem dX9_isAhead_106 : decode cX9_isAhead 106 = .ok (.getfield 44, 3) := by decide +kernel
theorem dX9_isAhead_109 : decode cX9_isAhead 109 = .ok (.iload 5, 2) := by decide +kernel
theorem dX9_isAhead_111 : decode cX9_isAhead 111 = .ok (.iaload, 1) := by decide +kernel
theorem dX9_isAhead_112 : decode cX9_isAhead 112 = .ok (.iadd, 1) := by decide +kernel
theorem dX9_isAhead_113 : decode cX9_isAhead 113 = .ok (.if_icmp .ge 42, 3) := by decide +kernel
theorem dX9_isAhead_116 : decode cX9_isAhead 116 = .ok (.aload_n 0, 1) := by decide +kernel
theorem dX9_isAhead_117 : decode cX9_isAhead 117 = .ok (.getfield 38, 3) := by decide +kernel
theorem dX9_isAhead_120 : decode cX9_isAhead 120 = .ok (.iload 5, 2) := by decide +kernel
theorem dX9_isAhead_122 : decode cX9_isAhead 122 = .ok (.iaload, 1) := by decide +kernel
theorem dX9_isAhead_123 : decode cX9_isAhead 123 = .ok (.aload_n 0, 1) := by decide +kernel
theorem dX9_isAhead_124 : decode cX9_isAhead 124 = .ok (.getfield 44, 3) := by decide +kernel
theorem dX9_isAhead_127 : decode cX9_isAhead 127 = .ok (.iload 5, 2) := by decide +kernel
theorem dX9_isAhead_129 : decode cX9_isAhead 129 = .ok (.iaload, 1) := by decide +kernel
theorem dX9_isAhead_130 : decode cX9_isAhead 130 = .ok (.aload_n 0, 1) := by decide +kernel
theorem dX9_isAhead_131 : decode cX9_isAhead 131 = .ok (.getfield 38, 3) := by decide +kernel
theorem dX9_isAhead_134 : decode cX9_isAhead 134 = .ok (.iload 6, 2) := by decide +kernel
theorem dX9_isAhead_136 : decode cX9_isAhead 136 = .ok (.iaload, 1) := by decide +kernel
theorem dX9_isAhead_137 : decode cX9_isAhead 137 = .ok (.aload_n 0, 1) := by decide +kernel
theorem dX9_isAhead_138 : decode cX9_isAhead 138 = .ok (.getfield 44, 3) := by decide +kernel
theorem dX9_isAhead_141 : decode cX9_isAhead 141 = .ok (.iload 6, 2) := by decide +kernel
theorem dX9_isAhead_143 : decode cX9_isAhead 143 = .ok (.iaload, 1) := by decide +kernel
theorem dX9_isAhead_144 : decode cX9_isAhead 144 = .ok (.invokestatic 132, 3) := by decide +kernel
theorem dX9_isAhead_147 : decode cX9_isAhead 147 = .ok (.ifCond .eq 12, 3) := by decide +kernel
theorem dX9_isAhead_150 : decode cX9_isAhead 150 = .ok (.iload 7, 2) := by decide +kernel
theorem dX9_isAhead_152 : decode cX9_isAhead 152 = .ok (.ifCond .eq 7, 3) := by decide +kernel
theorem dX9_isAhead_155 : decode cX9_isAhead 155 = .ok (.iconst 1, 1) := by decide +kernel
theorem dX9_isAhead_156 : decode cX9_isAhead 156 = .ok (.goto 4, 3) := by decide +kernel
theorem dX9_isAhead_159 : decode cX9_isAhead 159 = .ok (.iconst 0, 1) := by decide +kernel
theorem dX9_isAhead_160 : decode cX9_isAhead 160 = .ok (.ireturn, 1) := by decide +kernel
theorem dX9_orders_0 : decode cX9_orders 0 = .ok (.aload_n 0, 1) := by decide +kernel
theorem dX9_orders_1 : decode cX9_orders 1 = .ok (.aload_n 0, 1) := by decide +kernel
theorem dX9_orders_2 : decode cX9_orders 2 = .ok (.iload_n 1, 1) := by decide +kernel
theorem dX9_orders_3 : decode cX9_orders 3 = .ok (.invokevirtual 121, 3) := by decide +kernel
theorem dX9_orders_6 : decode cX9_orders 6 = .ok (.ifCond .eq 7, 3) := by decide +kernel
theorem dX9_orders_9 : decode cX9_orders 9 = .ok (.iconst 0, 1) := by decide +kernel
theorem dX9_orders_10 : decode cX9_orders 10 = .ok (.goto 4, 3) := by decide +kernel
theorem dX9_orders_13 : decode cX9_orders 13 = .ok (.iconst 1, 1) := by decide +kernel
theorem dX9_orders_14 : decode cX9_orders 14 = .ok (.putfield 111, 3) := by decide +kernel
theorem dX9_orders_17 : decode cX9_orders 17 = .ok (.aload_n 0, 1) := by decide +kernel
theorem dX9_orders_18 : decode cX9_orders 18 = .ok (.getfield 111, 3) := by decide +kernel
theorem dX9_orders_21 : decode cX9_orders 21 = .ok (.ifCond .le 5, 3) := by decide +kernel
theorem dX9_orders_24 : decode cX9_orders 24 = .ok (.iconst 0, 1) := by decide +kernel
theorem dX9_orders_25 : decode cX9_orders 25 = .ok (.ireturn, 1) := by decide +kernel
theorem dX9_orders_26 : decode cX9_orders 26 = .ok (.iconst 1, 1) := by decide +kernel
theorem dX9_orders_27 : decode cX9_orders 27 = .ok (.aload_n 0, 1) := by decide +kernel
theorem dX9_orders_28 : decode cX9_orders 28 = .ok (.getfield 13, 3) := by decide +kernel
theorem dX9_orders_31 : decode cX9_orders 31 = .ok (.iload_n 1, 1) := by decide +kernel
theorem dX9_orders_32 : decode cX9_orders 32 = .ok (.iaload, 1) := by decide +kernel
theorem dX9_orders_33 : decode cX9_orders 33 = .ok (.ishl, 1) := by decide +kernel
theorem dX9_orders_34 : decode cX9_orders 34 = .ok (.istore_n 3, 1) := by decide +kernel
theorem dX9_orders_35 : decode cX9_orders 35 = .ok (.aload_n 0, 1) := by decide +kernel
theorem dX9_orders_36 : decode cX9_orders 36 = .ok (.getfield 108, 3) := by decide +kernel
theorem dX9_orders_39 : decode cX9_orders 39 = .ok (.iconst 0, 1) := by decide +kernel
theorem dX9_orders_40 : decode cX9_orders 40 = .ok (.iconst 1, 1) := by decide +kernel
theorem dX9_orders_41 : decode cX9_orders 41 = .ok (.iastore, 1) := by decide +kernel
theorem dX9_orders_42 : decode cX9_orders 42 = .ok (.iconst 1, 1) := by decide +kernel
theorem dX9_orders_43 : decode cX9_orders 43 = .ok (.istore 4, 2) := by decide +kernel
theorem dX9_orders_45 : decode cX9_orders 45 = .ok (.iload 4, 2) := by decide +kernel
theorem dX9_orders_47 : decode cX9_orders 47 = .ok (.iload_n 3, 1) := by decide +kernel
theorem dX9_orders_48 : decode cX9_orders 48 = .ok (.if_icmp .ge 143, 3) := by decide +kernel
theorem dX9_orders_51 : decode cX9_orders 51 = .ok (.aload_n 0, 1) := by decide +kernel
theorem dX9_orders_52 : decode cX9_orders 52 = .ok (.getfield 108, 3) := by decide +kernel
theorem dX9_orders_55 : decode cX9_orders 55 = .ok (.iload 4, 2) := by decide +kernel
theorem dX9_orders_57 : decode cX9_orders 57 = .ok (.iconst 0, 1) := by decide +kernel
theorem dX9_orders_58 : decode cX9_orders 58 = .ok (.iastore, 1) := by decide +kernel
theorem dX9_orders_59 : decode cX9_orders 59 = .ok (.iconst 0, 1) := by decide +kernel
theorem dX9_orders_60 : decode cX9_orders 60 = .ok (.istore 5, 2) := by decide +kernel
theorem dX9_orders_62 : decode cX9_orders 62 = .ok (.iload 5, 2) := by decide +kernel
theorem dX9_orders_64 : decode cX9_orders 64 = .ok (.aload_n 0, 1) := by decide +kernel
theorem dX9_orders_65 : decode cX9_orders 65 = .ok (.getfield 13, 3) := by decide +kernel
theorem dX9_orders_68 : decode cX9_orders 68 = .ok (.iload_n 1, 1) := by decide +kernel
theorem dX9_orders_69 : decode cX9_orders 69 = .ok (.iaload, 1) := by decide +kernel
theorem dX9_orders_70 : decode cX9_orders 70 = .ok (.if_icmp .ge 115, 3) := by decide +kernel
theorem dX9_orders_73 : decode cX9_orders 73 = .ok (.iload 4, 2) := by decide +kernel
theorem dX9_orders_75 : decode cX9_orders 75 = .ok (.iload 5, 2) := by decide +kernel
theorem dX9_orders_77 : decode cX9_orders 77 = .ok (.ishr, 1) := by decide +kernel
theorem dX9_orders_78 : decode cX9_orders 78 = .ok (.iconst 1, 1) := by decide +kernel
theorem dX9_orders_79 : decode cX9_orders 79 = .ok (.iand, 1) := by decide +kernel
theorem dX9_orders_80 : decode cX9_orders 80 = .ok (.iconst 1, 1) := by decide +kernel
theorem dX9_orders_81 : decode cX9_orders 81 = .ok (.if_icmp .ne 7, 3) := by decide +kernel
theorem dX9_orders_84 : decode cX9_orders 84 = .ok (.iconst 1, 1) := by decide +kernel
theorem dX9_orders_85 : decode cX9_orders 85 = .ok (.goto 4, 3) := by decide +kernel
theorem dX9_orders_88 : decode cX9_orders 88 = .ok (.iconst 0, 1) := by decide +kernel
theorem dX9_orders_89 : decode cX9_orders 89 = .ok (.istore 6, 2) := by decide +kernel
theorem dX9_orders_91 : decode cX9_orders 91 = .ok (.iconst 0, 1) := by decide +kernel
theorem dX9_orders_92 : decode cX9_orders 92 = .ok (.istore 7, 2) := by decide +kernel
theorem dX9_orders_94 : decode cX9_orders 94 = .ok (.iload 7, 2) := by decide +kernel
theorem dX9_orders_96 : decode cX9_orders 96 = .ok (.aload_n 0, 1) := by decide +kernel
theorem dX9_orders_97 : decode cX9_orders 97 = .ok (.getfield 13, 3) := by decide +kernel
theorem dX9_orders_100 : decode cX9_orders 100 = .ok (.iload_n 1, 1) := by decide +kernel
theorem dX9_orders_101 : decode cX9_orders 101 = .ok (.iaload, 1) := by decide +kernel
theorem dX9_orders_102 : decode cX9_orders 102 = .ok (.if_icmp .ge 44, 3) := by decide +kernel
theorem dX9_orders_105 : decode cX9_orders 105 = .ok (.iload 6, 2) := by decide +kernel
theorem dX9_orders_107 : decode cX9_orders 107 = .ok (.ifCond .eq 39, 3) := by decide +kernel
theorem dX9_orders_110 : decode cX9_orders 110 = .ok (.iload 4, 2) := by decide +kernel
theorem dX9_orders_112 : decode cX9_orders 112 = .ok (.iload 7, 2) := by decide +kernel
theorem dX9_orders_114 : decode cX9_orders 114 = .ok (.ishr, 1) := by decide +kernel
theorem dX9_orders_115 : decode cX9_orders 115 = .ok (.iconst 1, 1) := by decide +kernel
theorem dX9_orders_116 : decode cX9_orders 116 = .ok (.iand, 1) := by decide +kernel
theorem dX9_orders_117 : decode cX9_orders 117 = .ok (.ifCond .eq 16, 3) := by decide +kernel
theorem dX9_orders_120 : decode cX9_orders 120 = .ok (.aload_n 0, 1) := by decide +kernel
theorem dX9_orders_121 : decode cX9_orders 121 = .ok (.iload_n 1, 1) := by decide +kernel
theorem dX9_orders_122 : decode cX9_orders 122 = .ok (.iload 5, 2) := by decide +kernel
theorem dX9_orders_124 : decode cX9_orders 124 = .ok (.iload 7, 2) := by decide +kernel
theorem dX9_orders_126 : decode cX9_orders 126 = .ok (.iload_n 2, 1) := by decide +kernel
theorem dX9_orders_127 : decode cX9_orders 127 = .ok (.invokevirtual 159, 3) := by decide +kernel
theorem dX9_orders_130 : decode cX9_orders 130 = .ok (.ifCond .ne 7, 3) := by decide +kernel
theorem dX9_orders_133 : decode cX9_orders 133 = .ok (.iconst 1, 1) := by decide +kernel
theorem dX9_orders_134 : decode cX9_orders 134 = .ok (.goto 4, 3) := by decide +kernel
theorem dX9_orders_137 : decode cX9_orders 137 = .ok (.iconst 0, 1) := by decide +kernel
theorem dX9_orders_138 : decode cX9_orders 138 = .ok (.istore 6, 2) := by decide +kernel
theorem dX9_orders_140 : decode cX9_orders 140 = .ok (.iinc 7 1, 3) := by decide +kernel
theorem dX9_orders_143 : decode cX9_orders 143 = .ok (.goto (-49), 3) := by decide +kernel
theorem dX9_orders_146 : decode cX9_orders 146 = .ok (.aload_n 0, 1) := by decide +kernel
theorem dX9_orders_147 : decode cX9_orders 147 = .ok (.getfield 108, 3) := by decide +kernel
theorem dX9_orders_150 : decode cX9_orders 150 = .ok (.iload 4, 2) := by decide +kernel
theorem dX9_orders_152 : decode cX9_orders 152 = .ok (.dup2, 1) := by decide +kernel
theorem dX9_orders_153 : decode cX9_orders 153 = .ok (.iaload, 1) := by decide +kernel
theorem dX9_orders_154 : decode cX9_orders 154 = .ok (.iload 6, 2) := by decide +kernel
theorem dX9_orders_156 : decode cX9_orders 156 = .ok (.ifCond .eq 20, 3) := by decide +kernel
theorem dX9_orders_159 : decode cX9_orders 159 = .ok (.aload_n 0, 1) := by decide +kernel
theorem dX9_orders_160 : decode cX9_orders 160 = .ok (.getfield 108, 3) := by decide +kernel
theorem dX9_orders_163 : decode cX9_orders 163 = .ok (.iload 4, 2) := by decide +kernel
theorem dX9_orders_165 : decode cX9_orders 165 = .ok (.iconst 1, 1) := by decide +kernel
theorem dX9_orders_166 : decode cX9_orders 166 = .ok (.iload 5, 2) := by decide +kernel
theorem dX9_orders_168 : decode cX9_orders 168 = .ok (.ishl, 1) := by decide +kernel
theorem dX9_orders_169 : decode cX9_orders 169 = .ok (.iconst (-1), 1) := by decide +kernel
theorem dX9_orders_170 : decode cX9_orders 170 = .ok (.ixor, 1) := by decide +kernel
theorem dX9_orders_171 : decode cX9_orders 171 = .ok (.iand, 1) := by decide +kernel
theorem dX9_orders_172 : decode cX9_orders 172 = .ok (.iaload, 1) := by decide +kernel
theorem dX9_orders_173 : decode cX9_orders 173 = .ok (.goto 4, 3) := by decide +kernel
theorem dX9_orders_176 : decode cX9_orders 176 = .ok (.iconst 0, 1) := by decide +kernel
theorem dX9_orders_177 : decode cX9_orders 177 = .ok (.iadd, 1) := by decide +kernel
theorem dX9_orders_178 : decode cX9_orders 178 = .ok (.iastore, 1) := by decide +kernel
theorem dX9_orders_179 : decode cX9_orders 179 = .ok (.iinc 5 1, 3) := by decide +kernel
theorem dX9_orders_182 : decode cX9_orders 182 = .ok (.goto (-120), 3) := by decide +kernel
theorem dX9_orders_185 : decode cX9_orders 185 = .ok (.iinc 4 1, 3) := by decide +kernel
theorem dX9_orders_188 : decode cX9_orders 188 = .ok (.goto (-143), 3) := by decide +kernel
theorem dX9_orders_191 : decode cX9_orders 191 = .ok (.aload_n 0, 1) := by decide +kernel
theorem dX9_orders_192 : decode cX9_orders 192 = .ok (.getfield 108, 3) := by decide +kernel
theorem dX9_orders_195 : decode cX9_orders 195 = .ok (.iload_n 3, 1) := by decide +kernel
theorem dX9_orders_196 : decode cX9_orders 196 = .ok (.iconst 1, 1) := by decide +kernel
theorem dX9_orders_197 : decode cX9_orders 197 = .ok (.isub, 1) := by decide +kernel
theorem dX9_orders_198 : decode cX9_orders 198 = .ok (.iaload, 1) := by decide +kernel
theorem dX9_orders_199 : decode cX9_orders 199 = .ok (.ireturn, 1) := by decide +kernel
theorem dX9_isOne_0 : decode cX9_isOne 0 = .ok (.aload_n 0, 1) := by decide +kernel
theorem dX9_isOne_1 : decode cX9_isOne 1 = .ok (.aload_n 0, 1) := by decide +kernel
theorem dX9_isOne_2 : decode cX9_isOne 2 = .ok (.iload_n 1, 1) := by decide +kernel
theorem dX9_isOne_3 : decode cX9_isOne 3 = .ok (.invokevirtual 121, 3) := by decide +kernel
theorem dX9_isOne_6 : decode cX9_isOne 6 = .ok (.ifCond .eq 7, 3) := by decide +kernel
theorem dX9_isOne_9 : decode cX9_isOne 9 = .ok (.iconst 0, 1) := by decide +kernel
theorem dX9_isOne_10 : decode cX9_isOne 10 = .ok (.goto 4, 3) := by decide +kernel
theorem dX9_isOne_13 : decode cX9_isOne 13 = .ok (.iconst 1, 1) := by decide +kernel
theorem dX9_isOne_14 : decode cX9_isOne 14 = .ok (.putfield 111, 3) := by decide +kernel
theorem dX9_isOne_17 : decode cX9_isOne 17 = .ok (.aload_n 0, 1) := by decide +kernel
theorem dX9_isOne_18 : decode cX9_isOne 18 = .ok (.getfield 111, 3) := by decide +kernel
theorem dX9_isOne_21 : decode cX9_isOne 21 = .ok (.ifCond .le 5, 3) := by decide +kernel
theorem dX9_isOne_24 : decode cX9_isOne 24 = .ok (.iconst 0, 1) := by decide +kernel
theorem dX9_isOne_25 : decode cX9_isOne 25 = .ok (.ireturn, 1) := by decide +kernel
theorem dX9_isOne_26 : decode cX9_isOne 26 = .ok (.aload_n 0, 1) := by decide +kernel
theorem dX9_isOne_27 : decode cX9_isOne 27 = .ok (.iload_n 1, 1) := by decide +kernel
theorem dX9_isOne_28 : decode cX9_isOne 28 = .ok (.iload_n 2, 1) := by decide +kernel
theorem dX9_isOne_29 : decode cX9_isOne 29 = .ok (.invokevirtual 155, 3) := by decide +kernel
theorem dX9_isOne_32 : decode cX9_isOne 32 = .ok (.iconst 1, 1) := by decide +kernel
theorem dX9_isOne_33 : decode cX9_isOne 33 = .ok (.istore_n 3, 1) := by decide +kernel
theorem dX9_isOne_34 : decode cX9_isOne 34 = .ok (.iconst 0, 1) := by decide +kernel
theorem dX9_isOne_35 : decode cX9_isOne 35 = .ok (.istore 4, 2) := by decide +kernel
theorem dX9_isOne_37 : decode cX9_isOne 37 = .ok (.iload 4, 2) := by decide +kernel
theorem dX9_isOne_39 : decode cX9_isOne 39 = .ok (.aload_n 0, 1) := by decide +kernel
theorem dX9_isOne_40 : decode cX9_isOne 40 = .ok (.getfield 142, 3) := by decide +kernel
theorem dX9_isOne_43 : decode cX9_isOne 43 = .ok (.if_icmp .ge 63, 3) := by decide +kernel
theorem dX9_isOne_46 : decode cX9_isOne 46 = .ok (.iload 4, 2) := by decide +kernel
theorem dX9_isOne_48 : decode cX9_isOne 48 = .ok (.iconst 1, 1) := by decide +kernel
theorem dX9_isOne_49 : decode cX9_isOne 49 = .ok (.iadd, 1) := by decide +kernel
theorem dX9_isOne_50 : decode cX9_isOne 50 = .ok (.istore 5, 2) := by decide +kernel
theorem dX9_isOne_52 : decode cX9_isOne 52 = .ok (.iload 5, 2) := by decide +kernel
theorem dX9_isOne_54 : decode cX9_isOne 54 = .ok (.aload_n 0, 1) := by decide +kernel
theorem dX9_isOne_55 : decode cX9_isOne 55 = .ok (.getfield 142, 3) := by decide +kernel
theorem dX9_isOne_58 : decode cX9_isOne 58 = .ok (.if_icmp .ge 42, 3) := by decide +kernel
theorem dX9_isOne_61 : decode cX9_isOne 61 = .ok (.iload_n 3, 1) := by decide +kernel
theorem dX9_isOne_62 : decode cX9_isOne 62 = .ok (.ifCond .eq 30, 3) := by decide +kernel
theorem dX9_isOne_65 : decode cX9_isOne 65 = .ok (.aload_n 0, 1) := by decide +kernel
theorem dX9_isOne_66 : decode cX9_isOne 66 = .ok (.iload_n 1, 1) := by decide +kernel
theorem dX9_isOne_67 : decode cX9_isOne 67 = .ok (.aload_n 0, 1) := by decide +kernel
theorem dX9_isOne_68 : decode cX9_isOne 68 = .ok (.getfield 102, 3) := by decide +kernel
theorem dX9_isOne_71 : decode cX9_isOne 71 = .ok (.iload 5, 2) := by decide +kernel
theorem dX9_isOne_73 : decode cX9_isOne 73 = .ok (.iaload, 1) := by decide +kernel
theorem dX9_isOne_74 : decode cX9_isOne 74 = .ok (.aload_n 0, 1) := by decide +kernel
theorem dX9_isOne_75 : decode cX9_isOne 75 = .ok (.getfield 102, 3) := by decide +kernel
theorem dX9_isOne_78 : decode cX9_isOne 78 = .ok (.iload 4, 2) := by decide +kernel
theorem dX9_isOne_80 : decode cX9_isOne 80 = .ok (.iaload, 1) := by decide +kernel
theorem dX9_isOne_81 : decode cX9_isOne 81 = .ok (.iload_n 2, 1) := by decide +kernel
theorem dX9_isOne_82 : decode cX9_isOne 82 = .ok (.invokevirtual 159, 3) := by decide +kernel
theorem dX9_isOne_85 : decode cX9_isOne 85 = .ok (.ifCond .ne 7, 3) := by decide +kernel
theorem dX9_isOne_88 : decode cX9_isOne 88 = .ok (.iconst 1, 1) := by decide +kernel
theorem dX9_isOne_89 : decode cX9_isOne 89 = .ok (.goto 4, 3) := by decide +kernel
theorem dX9_isOne_92 : decode cX9_isOne 92 = .ok (.iconst 0, 1) := by decide +kernel
theorem dX9_isOne_93 : decode cX9_isOne 93 = .ok (.istore_n 3, 1) := by decide +kernel
theorem dX9_isOne_94 : decode cX9_isOne 94 = .ok (.iinc 5 1, 3) := by decide +kernel
theorem dX9_isOne_97 : decode cX9_isOne 97 = .ok (.goto (-45), 3) := by decide +kernel
theorem dX9_isOne_100 : decode cX9_isOne 100 = .ok (.iinc 4 1, 3) := by decide +kernel
theorem dX9_isOne_103 : decode cX9_isOne 103 = .ok (.goto (-66), 3) := by decide +kernel
theorem dX9_isOne_106 : decode cX9_isOne 106 = .ok (.iload_n 3, 1) := by decide +kernel
theorem dX9_isOne_107 : decode cX9_isOne 107 = .ok (.ireturn, 1) := by decide +kernel
theorem dX9_mirror_0 : decode cX9_mirror 0 = .ok (.aload_n 0, 1) := by decide +kernel
theorem dX9_mirror_1 : decode cX9_mirror 1 = .ok (.aload_n 0, 1) := by decide +kernel
theorem dX9_mirror_2 : decode cX9_mirror 2 = .ok (.iload_n 1, 1) := by decide +kernel
theorem dX9_mirror_3 : decode cX9_mirror 3 = .ok (.invokevirtual 121, 3) := by decide +kernel
theorem dX9_mirror_6 : decode cX9_mirror 6 = .ok (.ifCond .ne 7, 3) := by decide +kernel
theorem dX9_mirror_9 : decode cX9_mirror 9 = .ok (.iconst 1, 1) := by decide +kernel
theorem dX9_mirror_10 : decode cX9_mirror 10 = .ok (.goto 17, 3) := by decide +kernel
theorem dX9_mirror_13 : decode cX9_mirror 13 = .ok (.aload_n 0, 1) := by decide +kernel
theorem dX9_mirror_14 : decode cX9_mirror 14 = .ok (.getfield 114, 3) := by decide +kernel
theorem dX9_mirror_17 : decode cX9_mirror 17 = .ok (.bipush 8, 2) := by decide +kernel
theorem dX9_mirror_19 : decode cX9_mirror 19 = .ok (.if_icmp .ne 7, 3) := by decide +kernel
theorem dX9_mirror_22 : decode cX9_mirror 22 = .ok (.iconst 2, 1) := by decide +kernel
theorem dX9_mirror_23 : decode cX9_mirror 23 = .ok (.goto 4, 3) := by decide +kernel
theorem dX9_mirror_26 : decode cX9_mirror 26 = .ok (.iconst 0, 1) := by decide +kernel
theorem dX9_mirror_27 : decode cX9_mirror 27 = .ok (.putfield 111, 3) := by decide +kernel
theorem dX9_mirror_30 : decode cX9_mirror 30 = .ok (.aload_n 0, 1) := by decide +kernel
theorem dX9_mirror_31 : decode cX9_mirror 31 = .ok (.getfield 111, 3) := by decide +kernel
theorem dX9_mirror_34 : decode cX9_mirror 34 = .ok (.ifCond .le 5, 3) := by decide +kernel
theorem dX9_mirror_37 : decode cX9_mirror 37 = .ok (.iconst 0, 1) := by decide +kernel
theorem dX9_mirror_38 : decode cX9_mirror 38 = .ok (.ireturn, 1) := by decide +kernel
theorem dX9_mirror_39 : decode cX9_mirror 39 = .ok (.aload_n 0, 1) := by decide +kernel
theorem dX9_mirror_40 : decode cX9_mirror 40 = .ok (.aload_n 0, 1) := by decide +kernel
theorem dX9_mirror_41 : decode cX9_mirror 41 = .ok (.getfield 7, 3) := by decide +kernel
theorem dX9_mirror_44 : decode cX9_mirror 44 = .ok (.iload_n 1, 1) := by decide +kernel
theorem dX9_mirror_45 : decode cX9_mirror 45 = .ok (.baload, 1) := by decide +kernel
theorem dX9_mirror_46 : decode cX9_mirror 46 = .ok (.ifCond .ne 7, 3) := by decide +kernel
theorem dX9_mirror_49 : decode cX9_mirror 49 = .ok (.iconst 1, 1) := by decide +kernel
theorem dX9_mirror_50 : decode cX9_mirror 50 = .ok (.goto 4, 3) := by decide +kernel
theorem dX9_mirror_53 : decode cX9_mirror 53 = .ok (.iconst 0, 1) := by decide +kernel
theorem dX9_mirror_54 : decode cX9_mirror 54 = .ok (.invokevirtual 125, 3) := by decide +kernel
theorem dX9_mirror_57 : decode cX9_mirror 57 = .ok (.istore_n 2, 1) := by decide +kernel
theorem dX9_mirror_58 : decode cX9_mirror 58 = .ok (.aload_n 0, 1) := by decide +kernel
theorem dX9_mirror_59 : decode cX9_mirror 59 = .ok (.getfield 13, 3) := by decide +kernel
theorem dX9_mirror_62 : decode cX9_mirror 62 = .ok (.iload_n 2, 1) := by decide +kernel
theorem dX9_mirror_63 : decode cX9_mirror 63 = .ok (.aload_n 0, 1) := by decide +kernel
theorem dX9_mirror_64 : decode cX9_mirror 64 = .ok (.getfield 13, 3) := by decide +kernel
theorem dX9_mirror_67 : decode cX9_mirror 67 = .ok (.iload_n 1, 1) := by decide +kernel
theorem dX9_mirror_68 : decode cX9_mirror 68 = .ok (.iaload, 1) := by decide +kernel
theorem dX9_mirror_69 : decode cX9_mirror 69 = .ok (.iastore, 1) := by decide +kernel
theorem dX9_mirror_70 : decode cX9_mirror 70 = .ok (.aload_n 0, 1) := by decide +kernel
theorem dX9_mirror_71 : decode cX9_mirror 71 = .ok (.getfield 17, 3) := by decide +kernel
theorem dX9_mirror_74 : decode cX9_mirror 74 = .ok (.iload_n 2, 1) := by decide +kernel
theorem dX9_mirror_75 : decode cX9_mirror 75 = .ok (.aload_n 0, 1) := by decide +kernel
theorem dX9_mirror_76 : decode cX9_mirror 76 = .ok (.getfield 17, 3) := by decide +kernel
theorem dX9_mirror_79 : decode cX9_mirror 79 = .ok (.iload_n 1, 1) := by decide +kernel
theorem dX9_mirror_80 : decode cX9_mirror 80 = .ok (.iaload, 1) := by decide +kernel
theorem dX9_mirror_81 : decode cX9_mirror 81 = .ok (.iastore, 1) := by decide +kernel
theorem dX9_mirror_82 : decode cX9_mirror 82 = .ok (.iconst 0, 1) := by decide +kernel
theorem dX9_mirror_83 : decode cX9_mirror 83 = .ok (.istore_n 3, 1) := by decide +kernel
theorem dX9_mirror_84 : decode cX9_mirror 84 = .ok (.iload_n 3, 1) := by decide +kernel
theorem dX9_mirror_85 : decode cX9_mirror 85 = .ok (.bipush 8, 2) := by decide +kernel
theorem dX9_mirror_87 : decode cX9_mirror 87 = .ok (.if_icmp .ge 255, 3) := by decide +kernel
theorem dX9_mirror_90 : decode cX9_mirror 90 = .ok (.bipush 8, 2) := by decide +kernel
theorem dX9_mirror_92 : decode cX9_mirror 92 = .ok (.iload_n 1, 1) := by decide +kernel
theorem dX9_mirror_93 : decode cX9_mirror 93 = .ok (.imul, 1) := by decide +kernel
theorem dX9_mirror_94 : decode cX9_mirror 94 = .ok (.iload_n 3, 1) := by decide +kernel
theorem dX9_mirror_95 : decode cX9_mirror 95 = .ok (.iadd, 1) := by decide +kernel
theorem dX9_mirror_96 : decode cX9_mirror 96 = .ok (.istore 4, 2) := by decide +kernel
theorem dX9_mirror_98 : decode cX9_mirror 98 = .ok (.bipush 8, 2) := by decide +kernel
theorem dX9_mirror_100 : decode cX9_mirror 100 = .ok (.iload_n 2, 1) := by decide +kernel
theorem dX9_mirror_101 : decode cX9_mirror 101 = .ok (.imul, 1) := by decide +kernel
theorem dX9_mirror_102 : decode cX9_mirror 102 = .ok (.iload_n 3, 1) := by decide +kernel
theorem dX9_mirror_103 : decode cX9_mirror 103 = .ok (.iadd, 1) := by decide +kernel
theorem dX9_mirror_104 : decode cX9_mirror 104 = .ok (.istore 5, 2) := by decide +kernel
theorem dX9_mirror_106 : decode cX9_mirror 106 = .ok (.aload_n 0, 1) := by decide +kernel
theorem dX9_mirror_107 : decode cX9_mirror 107 = .ok (.getfield 35, 3) := by decide +kernel
theorem dX9_mirror_110 : decode cX9_mirror 110 = .ok (.iload 5, 2) := by decide +kernel
theorem dX9_mirror_112 : decode cX9_mirror 112 = .ok (.bipush 60, 2) := by decide +kernel
theorem dX9_mirror_114 : decode cX9_mirror 114 = .ok (.aload_n 0, 1) := by decide +kernel
theorem dX9_mirror_115 : decode cX9_mirror 115 = .ok (.getfield 35, 3) := by decide +kernel
theorem dX9_mirror_118 : decode cX9_mirror 118 = .ok (.iload 4, 2) := by decide +kernel
theorem dX9_mirror_120 : decode cX9_mirror 120 = .ok (.iaload, 1) := by decide +kernel
theorem dX9_mirror_121 : decode cX9_mirror 121 = .ok (.isub, 1) := by decide +kernel
theorem dX9_mirror_122 : decode cX9_mirror 122 = .ok (.aload_n 0, 1) := by decide +kernel
theorem dX9_mirror_123 : decode cX9_mirror 123 = .ok (.getfield 41, 3) := by decide +kernel
theorem dX9_mirror_126 : decode cX9_mirror 126 = .ok (.iload 4, 2) := by decide +kernel
theorem dX9_mirror_128 : decode cX9_mirror 128 = .ok (.iaload, 1) := by decide +kernel
theorem dX9_mirror_129 : decode cX9_mirror 129 = .ok (.isub, 1) := by decide +kernel
theorem dX9_mirror_130 : decode cX9_mirror 130 = .ok (.iastore, 1) := by decide +kernel
theorem dX9_mirror_131 : decode cX9_mirror 131 = .ok (.aload_n 0, 1) := by decide +kernel
theorem dX9_mirror_132 : decode cX9_mirror 132 = .ok (.getfield 38, 3) := by decide +kernel
theorem dX9_mirror_135 : decode cX9_mirror 135 = .ok (.iload 5, 2) := by decide +kernel
theorem dX9_mirror_137 : decode cX9_mirror 137 = .ok (.aload_n 0, 1) := by decide +kernel
theorem dX9_mirror_138 : decode cX9_mirror 138 = .ok (.getfield 38, 3) := by decide +kernel
theorem dX9_mirror_141 : decode cX9_mirror 141 = .ok (.iload 4, 2) := by decide +kernel
theorem dX9_mirror_143 : decode cX9_mirror 143 = .ok (.iaload, 1) := by decide +kernel
theorem dX9_mirror_144 : decode cX9_mirror 144 = .ok (.iastore, 1) := by decide +kernel
theorem dX9_mirror_145 : decode cX9_mirror 145 = .ok (.aload_n 0, 1) := by decide +kernel
theorem dX9_mirror_146 : decode cX9_mirror 146 = .ok (.getfield 41, 3) := by decide +kernel
theorem dX9_mirror_149 : decode cX9_mirror 149 = .ok (.iload 5, 2) := by decide +kernel
theorem dX9_mirror_151 : decode cX9_mirror 151 = .ok (.aload_n 0, 1) := by decide +kernel
theorem dX9_mirror_152 : decode cX9_mirror 152 = .ok (.getfield 41, 3) := by decide +kernel
theorem dX9_mirror_155 : decode cX9_mirror 155 = .ok (.iload 4, 2) := by decide +kernel
theorem dX9_mirror_157 : decode cX9_mirror 157 = .ok (.iaload, 1) := by decide +kernel
theorem dX9_mirror_158 : decode cX9_mirror 158 = .ok (.iastore, 1) := by decide +kernel
theorem dX9_mirror_159 : decode cX9_mirror 159 = .ok (.aload_n 0, 1) := by decide +kernel
theorem dX9_mirror_160 : decode cX9_mirror 160 = .ok (.getfield 44, 3) := by decide +kernel
theorem dX9_mirror_163 : decode cX9_mirror 163 = .ok (.iload 5, 2) := by decide +kernel
theorem dX9_mirror_165 : decode cX9_mirror 165 = .ok (.aload_n 0, 1) := by decide +kernel
theorem dX9_mirror_166 : decode cX9_mirror 166 = .ok (.getfield 44, 3) := by decide +kernel
theorem dX9_mirror_169 : decode cX9_mirror 169 = .ok (.iload 4, 2) := by decide +kernel
theorem dX9_mirror_171 : decode cX9_mirror 171 = .ok (.iaload, 1) := by decide +kernel
theorem dX9_mirror_172 : decode cX9_mirror 172 = .ok (.iastore, 1) := by decide +kernel
theorem dX9_mirror_173 : decode cX9_mirror 173 = .ok (.iconst 0, 1) := by decide +kernel
theorem dX9_mirror_174 : decode cX9_mirror 174 = .ok (.istore 6, 2) := by decide +kernel
theorem dX9_mirror_176 : decode cX9_mirror 176 = .ok (.iload 6, 2) := by decide +kernel
theorem dX9_mirror_178 : decode cX9_mirror 178 = .ok (.bipush 12, 2) := by decide +kernel
theorem dX9_mirror_180 : decode cX9_mirror 180 = .ok (.if_icmp .ge 156, 3) := by decide +kernel
theorem dX9_mirror_183 : decode cX9_mirror 183 = .ok (.aload_n 0, 1) := by decide +kernel
theorem dX9_mirror_184 : decode cX9_mirror 184 = .ok (.getfield 47, 3) := by decide +kernel
theorem dX9_mirror_187 : decode cX9_mirror 187 = .ok (.bipush 12, 2) := by decide +kernel
theorem dX9_mirror_189 : decode cX9_mirror 189 = .ok (.iload 5, 2) := by decide +kernel
theorem dX9_mirror_191 : decode cX9_mirror 191 = .ok (.imul, 1) := by decide +kernel
theorem dX9_mirror_192 : decode cX9_mirror 192 = .ok (.iload 6, 2) := by decide +kernel
theorem dX9_mirror_194 : decode cX9_mirror 194 = .ok (.iadd, 1) := by decide +kernel
theorem dX9_mirror_195 : decode cX9_mirror 195 = .ok (.bipush 60, 2) := by decide +kernel
theorem dX9_mirror_197 : decode cX9_mirror 197 = .ok (.aload_n 0, 1) := by decide +kernel
theorem dX9_mirror_198 : decode cX9_mirror 198 = .ok (.getfield 47, 3) := by decide +kernel
theorem dX9_mirror_201 : decode cX9_mirror 201 = .ok (.bipush 12, 2) := by decide +kernel
theorem dX9_mirror_203 : decode cX9_mirror 203 = .ok (.iload 4, 2) := by decide +kernel
theorem dX9_mirror_205 : decode cX9_mirror 205 = .ok (.imul, 1) := by decide +kernel
theorem dX9_mirror_206 : decode cX9_mirror 206 = .ok (.iload 6, 2) := by decide +kernel
theorem dX9_mirror_208 : decode cX9_mirror 208 = .ok (.iadd, 1) := by decide +kernel
theorem dX9_mirror_209 : decode cX9_mirror 209 = .ok (.iaload, 1) := by decide +kernel
theorem dX9_mirror_210 : decode cX9_mirror 210 = .ok (.isub, 1) := by decide +kernel
theorem dX9_mirror_211 : decode cX9_mirror 211 = .ok (.aload_n 0, 1) := by decide +kernel
theorem dX9_mirror_212 : decode cX9_mirror 212 = .ok (.getfield 53, 3) := by decide +kernel
theorem dX9_mirror_215 : decode cX9_mirror 215 = .ok (.bipush 12, 2) := by decide +kernel
theorem dX9_mirror_217 : decode cX9_mirror 217 = .ok (.iload 4, 2) := by decide +kernel
theorem dX9_mirror_219 : decode cX9_mirror 219 = .ok (.imul, 1) := by decide +kernel
theorem dX9_mirror_220 : decode cX9_mirror 220 = .ok (.iload 6, 2) := by decide +kernel
theorem dX9_mirror_222 : decode cX9_mirror 222 = .ok (.iadd, 1) := by decide +kernel
theorem dX9_mirror_223 : decode cX9_mirror 223 = .ok (.iaload, 1) := by decide +kernel
theorem dX9_mirror_224 : decode cX9_mirror 224 = .ok (.isub, 1) := by decide +kernel
theorem dX9_mirror_225 : decode cX9_mirror 225 = .ok (.iastore, 1) := by decide +kernel
theorem dX9_mirror_226 : decode cX9_mirror 226 = .ok (.aload_n 0, 1) := by decide +kernel
theorem dX9_mirror_227 : decode cX9_mirror 227 = .ok (.getfield 50, 3) := by decide +kernel
theorem dX9_mirror_230 : decode cX9_mirror 230 = .ok (.bipush 12, 2) := by decide +kernel
theorem dX9_mirror_232 : decode cX9_mirror 232 = .ok (.iload 5, 2) := by decide +kernel
theorem dX9_mirror_234 : decode cX9_mirror 234 = .ok (.imul, 1) := by decide +kernel
theorem dX9_mirror_235 : decode cX9_mirror 235 = .ok (.iload 6, 2) := by decide +kernel
theorem dX9_mirror_237 : decode cX9_mirror 237 = .ok (.iadd, 1) := by decide +kernel
theorem dX9_mirror_238 : decode cX9_mirror 238 = .ok (.aload_n 0, 1) := by decide +kernel
theorem dX9_mirror_239 : decode cX9_mirror 239 = .ok (.getfield 50, 3) := by decide +kernel
theorem dX9_mirror_242 : decode cX9_mirror 242 = .ok (.bipush 12, 2) := by decide +kernel
theorem dX9_mirror_244 : decode cX9_mirror 244 = .ok (.iload 4, 2) := by decide +kernel
theorem dX9_mirror_246 : decode cX9_mirror 246 = .ok (.imul, 1) := by decide +kernel
theorem dX9_mirror_247 : decode cX9_mirror 247 = .ok (.iload 6, 2) := by decide +kernel
theorem dX9_mirror_249 : decode cX9_mirror 249 = .ok (.iadd, 1) := by decide +kernel
theorem dX9_mirror_250 : decode cX9_mirror 250 = .ok (.iaload, 1) := by decide +kernel
theorem dX9_mirror_251 : decode cX9_mirror 251 = .ok (.iastore, 1) := by decide +kernel
theorem dX9_mirror_252 : decode cX9_mirror 252 = .ok (.aload_n 0, 1) := by decide +kernel
theorem dX9_mirror_253 : decode cX9_mirror 253 = .ok (.getfield 53, 3) := by decide +kernel
theorem dX9_mirror_256 : decode cX9_mirror 256 = .ok (.bipush 12, 2) := by decide +kernel
theorem dX9_mirror_258 : decode cX9_mirror 258 = .ok (.iload 5, 2) := by decide +kernel
theorem dX9_mirror_260 : decode cX9_mirror 260 = .ok (.imul, 1) := by decide +kernel
theorem dX9_mirror_261 : decode cX9_mirror 261 = .ok (.iload 6, 2) := by decide +kernel
theorem dX9_mirror_263 : decode cX9_mirror 263 = .ok (.iadd, 1) := by decide +kernel
theorem dX9_mirror_264 : decode cX9_mirror 264 = .ok (.aload_n 0, 1) := by decide +kernel
theorem dX9_mirror_265 : decode cX9_mirror 265 = .ok (.getfield 53, 3) := by decide +kernel
theorem dX9_mirror_268 : decode cX9_mirror 268 = .ok (.bipush 12, 2) := by decide +kernel
theorem dX9_mirror_270 : decode cX9_mirror 270 = .ok (.iload 4, 2) := by decide +kernel
theorem dX9_mirror_272 : decode cX9_mirror 272 = .ok (.imul, 1) := by decide +kernel
theorem dX9_mirror_273 : decode cX9_mirror 273 = .ok (.iload 6, 2) := by decide +kernel
theorem dX9_mirror_275 : decode cX9_mirror 275 = .ok (.iadd, 1) := by decide +kernel
theorem dX9_mirror_276 : decode cX9_mirror 276 = .ok (.iaload, 1) := by decide +kernel
theorem dX9_mirror_277 : decode cX9_mirror 277 = .ok (.iastore, 1) := by decide +kernel
theorem dX9_mirror_278 : decode cX9_mirror 278 = .ok (.aload_n 0, 1) := by decide +kernel
theorem dX9_mirror_279 : decode cX9_mirror 279 = .ok (.getfield 56, 3) := by decide +kernel
theorem dX9_mirror_282 : decode cX9_mirror 282 = .ok (.bipush 12, 2) := by decide +kernel
theorem dX9_mirror_284 : decode cX9_mirror 284 = .ok (.iload 5, 2) := by decide +kernel
theorem dX9_mirror_286 : decode cX9_mirror 286 = .ok (.imul, 1) := by decide +kernel
theorem dX9_mirror_287 : decode cX9_mirror 287 = .ok (.iload 6, 2) := by decide +kernel
theorem dX9_mirror_289 : decode cX9_mirror 289 = .ok (.iadd, 1) := by decide +kernel
theorem dX9_mirror_290 : decode cX9_mirror 290 = .ok (.aload_n 0, 1) := by decide +kernel
theorem dX9_mirror_291 : decode cX9_mirror 291 = .ok (.getfield 56, 3) := by decide +kernel
theorem dX9_mirror_294 : decode cX9_mirror 294 = .ok (.bipush 12, 2) := by decide +kernel
theorem dX9_mirror_296 : decode cX9_mirror 296 = .ok (.iload 4, 2) := by decide +kernel
theorem dX9_mirror_298 : decode cX9_mirror 298 = .ok (.imul, 1) := by decide +kernel
theorem dX9_mirror_299 : decode cX9_mirror 299 = .ok (.iload 6, 2) := by decide +kernel
theorem dX9_mirror_301 : decode cX9_mirror 301 = .ok (.iadd, 1) := by decide +kernel
theorem dX9_mirror_302 : decode cX9_mirror 302 = .ok (.iaload, 1) := by decide +kernel
theorem dX9_mirror_303 : decode cX9_mirror 303 = .ok (.iastore, 1) := by decide +kernel
theorem dX9_mirror_304 : decode cX9_mirror 304 = .ok (.aload_n 0, 1) := by decide +kernel
theorem dX9_mirror_305 : decode cX9_mirror 305 = .ok (.getfield 59, 3) := by decide +kernel
theorem dX9_mirror_308 : decode cX9_mirror 308 = .ok (.bipush 12, 2) := by decide +kernel
theorem dX9_mirror_310 : decode cX9_mirror 310 = .ok (.iload 5, 2) := by decide +kernel
theorem dX9_mirror_312 : decode cX9_mirror 312 = .ok (.imul, 1) := by decide +kernel
theorem dX9_mirror_313 : decode cX9_mirror 313 = .ok (.iload 6, 2) := by decide +kernel
theorem dX9_mirror_315 : decode cX9_mirror 315 = .ok (.iadd, 1) := by decide +kernel
theorem dX9_mirror_316 : decode cX9_mirror 316 = .ok (.aload_n 0, 1) := by decide +kernel
theorem dX9_mirror_317 : decode cX9_mirror 317 = .ok (.getfield 59, 3) := by decide +kernel
theorem dX9_mirror_320 : decode cX9_mirror 320 = .ok (.bipush 12, 2) := by decide +kernel
theorem dX9_mirror_322 : decode cX9_mirror 322 = .ok (.iload 4, 2) := by decide +kernel
theorem dX9_mirror_324 : decode cX9_mirror 324 = .ok (.imul, 1) := by decide +kernel
theorem dX9_mirror_325 : decode cX9_mirror 325 = .ok (.iload 6, 2) := by decide +kernel
theorem dX9_mirror_327 : decode cX9_mirror 327 = .ok (.iadd, 1) := by decide +kernel
theorem dX9_mirror_328 : decode cX9_mirror 328 = .ok (.baload, 1) := by decide +kernel
theorem dX9_mirror_329 : decode cX9_mirror 329 = .ok (.bastore, 1) := by decide +kernel
theorem dX9_mirror_330 : decode cX9_mirror 330 = .ok (.iinc 6 1, 3) := by decide +kernel
theorem dX9_mirror_333 : decode cX9_mirror 333 = .ok (.goto (-157), 3) := by decide +kernel
theorem dX9_mirror_336 : decode cX9_mirror 336 = .ok (.iinc 3 1, 3) := by decide +kernel
theorem dX9_mirror_339 : decode cX9_mirror 339 = .ok (.goto (-255), 3) := by decide +kernel
theorem dX9_mirror_342 : decode cX9_mirror 342 = .ok (.iconst 0, 1) := by decide +kernel
theorem dX9_mirror_343 : decode cX9_mirror 343 = .ok (.istore_n 3, 1) := by decide +kernel
theorem dX9_mirror_344 : decode cX9_mirror 344 = .ok (.iload_n 3, 1) := by decide +kernel
theorem dX9_mirror_345 : decode cX9_mirror 345 = .ok (.bipush 20, 2) := by decide +kernel
theorem dX9_mirror_347 : decode cX9_mirror 347 = .ok (.if_icmp .ge 134, 3) := by decide +kernel
theorem dX9_mirror_350 : decode cX9_mirror 350 = .ok (.bipush 20, 2) := by decide +kernel
theorem dX9_mirror_352 : decode cX9_mirror 352 = .ok (.iload_n 1, 1) := by decide +kernel
theorem dX9_mirror_353 : decode cX9_mirror 353 = .ok (.imul, 1) := by decide +kernel
theorem dX9_mirror_354 : decode cX9_mirror 354 = .ok (.iload_n 3, 1) := by decide +kernel
theorem dX9_mirror_355 : decode cX9_mirror 355 = .ok (.iadd, 1) := by decide +kernel
theorem dX9_mirror_356 : decode cX9_mirror 356 = .ok (.istore 4, 2) := by decide +kernel
theorem dX9_mirror_358 : decode cX9_mirror 358 = .ok (.bipush 20, 2) := by decide +kernel
theorem dX9_mirror_360 : decode cX9_mirror 360 = .ok (.iload_n 2, 1) := by decide +kernel
theorem dX9_mirror_361 : decode cX9_mirror 361 = .ok (.imul, 1) := by decide +kernel
theorem dX9_mirror_362 : decode cX9_mirror 362 = .ok (.iload_n 3, 1) := by decide +kernel
theorem dX9_mirror_363 : decode cX9_mirror 363 = .ok (.iadd, 1) := by decide +kernel
theorem dX9_mirror_364 : decode cX9_mirror 364 = .ok (.istore 5, 2) := by decide +kernel
theorem dX9_mirror_366 : decode cX9_mirror 366 = .ok (.aload_n 0, 1) := by decide +kernel
theorem dX9_mirror_367 : decode cX9_mirror 367 = .ok (.getfield 62, 3) := by decide +kernel
theorem dX9_mirror_370 : decode cX9_mirror 370 = .ok (.iload 5, 2) := by decide +kernel
theorem dX9_mirror_372 : decode cX9_mirror 372 = .ok (.aload_n 0, 1) := by decide +kernel
theorem dX9_mirror_373 : decode cX9_mirror 373 = .ok (.getfield 62, 3) := by decide +kernel
theorem dX9_mirror_376 : decode cX9_mirror 376 = .ok (.iload 4, 2) := by decide +kernel
theorem dX9_mirror_378 : decode cX9_mirror 378 = .ok (.iaload, 1) := by decide +kernel
theorem dX9_mirror_379 : decode cX9_mirror 379 = .ok (.iastore, 1) := by decide +kernel
theorem dX9_mirror_380 : decode cX9_mirror 380 = .ok (.aload_n 0, 1) := by decide +kernel
theorem dX9_mirror_381 : decode cX9_mirror 381 = .ok (.getfield 65, 3) := by decide +kernel
theorem dX9_mirror_384 : decode cX9_mirror 384 = .ok (.iload 5, 2) := by decide +kernel
theorem dX9_mirror_386 : decode cX9_mirror 386 = .ok (.bipush 60, 2) := by decide +kernel
theorem dX9_mirror_388 : decode cX9_mirror 388 = .ok (.aload_n 0, 1) := by decide +kernel
theorem dX9_mirror_389 : decode cX9_mirror 389 = .ok (.getfield 65, 3) := by decide +kernel
theorem dX9_mirror_392 : decode cX9_mirror 392 = .ok (.iload 4, 2) := by decide +kernel
theorem dX9_mirror_394 : decode cX9_mirror 394 = .ok (.iaload, 1) := by decide +kernel
theorem dX9_mirror_395 : decode cX9_mirror 395 = .ok (.isub, 1) := by decide +kernel
theorem dX9_mirror_396 : decode cX9_mirror 396 = .ok (.aload_n 0, 1) := by decide +kernel
theorem dX9_mirror_397 : decode cX9_mirror 397 = .ok (.getfield 71, 3) := by decide +kernel
theorem dX9_mirror_400 : decode cX9_mirror 400 = .ok (.iload 4, 2) := by decide +kernel
theorem dX9_mirror_402 : decode cX9_mirror 402 = .ok (.iaload, 1) := by decide +kernel
theorem dX9_mirror_403 : decode cX9_mirror 403 = .ok (.isub, 1) := by decide +kernel
theorem dX9_mirror_404 : decode cX9_mirror 404 = .ok (.iastore, 1) := by decide +kernel
theorem dX9_mirror_405 : decode cX9_mirror 405 = .ok (.aload_n 0, 1) := by decide +kernel
theorem dX9_mirror_406 : decode cX9_mirror 406 = .ok (.getfield 68, 3) := by decide +kernel
theorem dX9_mirror_409 : decode cX9_mirror 409 = .ok (.iload 5, 2) := by decide +kernel
theorem dX9_mirror_411 : decode cX9_mirror 411 = .ok (.aload_n 0, 1) := by decide +kernel
theorem dX9_mirror_412 : decode cX9_mirror 412 = .ok (.getfield 68, 3) := by decide +kernel
theorem dX9_mirror_415 : decode cX9_mirror 415 = .ok (.iload 4, 2) := by decide +kernel
theorem dX9_mirror_417 : decode cX9_mirror 417 = .ok (.iaload, 1) := by decide +kernel
theorem dX9_mirror_418 : decode cX9_mirror 418 = .ok (.iastore, 1) := by decide +kernel
theorem dX9_mirror_419 : decode cX9_mirror 419 = .ok (.aload_n 0, 1) := by decide +kernel
theorem dX9_mirror_420 : decode cX9_mirror 420 = .ok (.getfield 71, 3) := by decide +kernel
theorem dX9_mirror_423 : decode cX9_mirror 423 = .ok (.iload 5, 2) := by decide +kernel
theorem dX9_mirror_425 : decode cX9_mirror 425 = .ok (.aload_n 0, 1) := by decide +kernel
theorem dX9_mirror_426 : decode cX9_mirror 426 = .ok (.getfield 71, 3) := by decide +kernel
theorem dX9_mirror_429 : decode cX9_mirror 429 = .ok (.iload 4, 2) := by decide +kernel
theorem dX9_mirror_431 : decode cX9_mirror 431 = .ok (.iaload, 1) := by decide +kernel
theorem dX9_mirror_432 : decode cX9_mirror 432 = .ok (.iastore, 1) := by decide +kernel
theorem dX9_mirror_433 : decode cX9_mirror 433 = .ok (.aload_n 0, 1) := by decide +kernel
theorem dX9_mirror_434 : decode cX9_mirror 434 = .ok (.getfield 74, 3) := by decide +kernel
theorem dX9_mirror_437 : decode cX9_mirror 437 = .ok (.iload 5, 2) := by decide +kernel
theorem dX9_mirror_439 : decode cX9_mirror 439 = .ok (.aload_n 0, 1) := by decide +kernel
theorem dX9_mirror_440 : decode cX9_mirror 440 = .ok (.getfield 74, 3) := by decide +kernel
theorem dX9_mirror_443 : decode cX9_mirror 443 = .ok (.iload 4, 2) := by decide +kernel
theorem dX9_mirror_445 : decode cX9_mirror 445 = .ok (.iaload, 1) := by decide +kernel
theorem dX9_mirror_446 : decode cX9_mirror 446 = .ok (.iastore, 1) := by decide +kernel
theorem dX9_mirror_447 : decode cX9_mirror 447 = .ok (.aload_n 0, 1) := by decide +kernel
theorem dX9_mirror_448 : decode cX9_mirror 448 = .ok (.getfield 77, 3) := by decide +kernel
theorem dX9_mirror_451 : decode cX9_mirror 451 = .ok (.iload 5, 2) := by decide +kernel
theorem dX9_mirror_453 : decode cX9_mirror 453 = .ok (.aload_n 0, 1) := by decide +kernel
theorem dX9_mirror_454 : decode cX9_mirror 454 = .ok (.getfield 77, 3) := by decide +kernel
theorem dX9_mirror_457 : decode cX9_mirror 457 = .ok (.iload 4, 2) := by decide +kernel
theorem dX9_mirror_459 : decode cX9_mirror 459 = .ok (.iaload, 1) := by decide +kernel
theorem dX9_mirror_460 : decode cX9_mirror 460 = .ok (.iastore, 1) := by decide +kernel
theorem dX9_mirror_461 : decode cX9_mirror 461 = .ok (.aload_n 0, 1) := by decide +kernel
theorem dX9_mirror_462 : decode cX9_mirror 462 = .ok (.getfield 80, 3) := by decide +kernel
theorem dX9_mirror_465 : decode cX9_mirror 465 = .ok (.iload 5, 2) := by decide +kernel
theorem dX9_mirror_467 : decode cX9_mirror 467 = .ok (.aload_n 0, 1) := by decide +kernel
theorem dX9_mirror_468 : decode cX9_mirror 468 = .ok (.getfield 80, 3) := by decide +kernel
theorem dX9_mirror_471 : decode cX9_mirror 471 = .ok (.iload 4, 2) := by decide +kernel
theorem dX9_mirror_473 : decode cX9_mirror 473 = .ok (.iaload, 1) := by decide +kernel
theorem dX9_mirror_474 : decode cX9_mirror 474 = .ok (.iastore, 1) := by decide +kernel
theorem dX9_mirror_475 : decode cX9_mirror 475 = .ok (.iinc 3 1, 3) := by decide +kernel
theorem dX9_mirror_478 : decode cX9_mirror 478 = .ok (.goto (-134), 3) := by decide +kernel
theorem dX9_mirror_481 : decode cX9_mirror 481 = .ok (.iload_n 2, 1) := by decide +kernel
theorem dX9_mirror_482 : decode cX9_mirror 482 = .ok (.ireturn, 1) := by decide +kernel
theorem dX9_figure_0 : decode cX9_figure 0 = .ok (.aload_n 0, 1) := by decide +kernel
theorem dX9_figure_1 : decode cX9_figure 1 = .ok (.aload_n 0, 1) := by decide +kernel
theorem dX9_figure_2 : decode cX9_figure 2 = .ok (.getfield 162, 3) := by decide +kernel
theorem dX9_figure_5 : decode cX9_figure 5 = .ok (.bipush 12, 2) := by decide +kernel
theorem dX9_figure_7 : decode cX9_figure 7 = .ok (.if_icmp .ne 7, 3) := by decide +kernel
theorem dX9_figure_10 : decode cX9_figure 10 = .ok (.iconst 1, 1) := by decide +kernel
theorem dX9_figure_11 : decode cX9_figure 11 = .ok (.goto 4, 3) := by decide +kernel
theorem dX9_figure_14 : decode cX9_figure 14 = .ok (.iconst 0, 1) := by decide +kernel
theorem dX9_figure_15 : decode cX9_figure 15 = .ok (.putfield 111, 3) := by decide +kernel
theorem dX9_figure_18 : decode cX9_figure 18 = .ok (.aload_n 0, 1) := by decide +kernel
theorem dX9_figure_19 : decode cX9_figure 19 = .ok (.getfield 111, 3) := by decide +kernel
theorem dX9_figure_22 : decode cX9_figure 22 = .ok (.ifCond .le 5, 3) := by decide +kernel
theorem dX9_figure_25 : decode cX9_figure 25 = .ok (.iconst 0, 1) := by decide +kernel
theorem dX9_figure_26 : decode cX9_figure 26 = .ok (.ireturn, 1) := by decide +kernel
theorem dX9_figure_27 : decode cX9_figure 27 = .ok (.aload_n 0, 1) := by decide +kernel
theorem dX9_figure_28 : decode cX9_figure 28 = .ok (.dup, 1) := by decide +kernel
theorem dX9_figure_29 : decode cX9_figure 29 = .ok (.getfield 162, 3) := by decide +kernel
theorem dX9_figure_32 : decode cX9_figure 32 = .ok (.iconst 1, 1) := by decide +kernel
theorem dX9_figure_33 : decode cX9_figure 33 = .ok (.iadd, 1) := by decide +kernel
theorem dX9_figure_34 : decode cX9_figure 34 = .ok (.putfield 162, 3) := by decide +kernel
theorem dX9_figure_37 : decode cX9_figure 37 = .ok (.aload_n 0, 1) := by decide +kernel
theorem dX9_figure_38 : decode cX9_figure 38 = .ok (.getfield 162, 3) := by decide +kernel
theorem dX9_figure_41 : decode cX9_figure 41 = .ok (.iconst 1, 1) := by decide +kernel
theorem dX9_figure_42 : decode cX9_figure 42 = .ok (.isub, 1) := by decide +kernel
theorem dX9_figure_43 : decode cX9_figure 43 = .ok (.ireturn, 1) := by decide +kernel
theorem dX9_draw_0 : decode cX9_draw 0 = .ok (.aload_n 0, 1) := by decide +kernel
theorem dX9_draw_1 : decode cX9_draw 1 = .ok (.aload_n 0, 1) := by decide +kernel
theorem dX9_draw_2 : decode cX9_draw 2 = .ok (.iload_n 1, 1) := by decide +kernel
theorem dX9_draw_3 : decode cX9_draw 3 = .ok (.iload_n 2, 1) := by decide +kernel
theorem dX9_draw_4 : decode cX9_draw 4 = .ok (.invokevirtual 165, 3) := by decide +kernel
theorem dX9_draw_7 : decode cX9_draw 7 = .ok (.ifCond .eq 17, 3) := by decide +kernel
theorem dX9_draw_10 : decode cX9_draw 10 = .ok (.iload_n 3, 1) := by decide +kernel
theorem dX9_draw_11 : decode cX9_draw 11 = .ok (.iconst 0, 1) := by decide +kernel
theorem dX9_draw_12 : decode cX9_draw 12 = .ok (.aload_n 0, 1) := by decide +kernel
theorem dX9_draw_13 : decode cX9_draw 13 = .ok (.getfield 162, 3) := by decide +kernel
theorem dX9_draw_16 : decode cX9_draw 16 = .ok (.iconst 1, 1) := by decide +kernel
theorem dX9_draw_17 : decode cX9_draw 17 = .ok (.isub, 1) := by decide +kernel
theorem dX9_draw_18 : decode cX9_draw 18 = .ok (.invokestatic 117, 3) := by decide +kernel
theorem dX9_draw_21 : decode cX9_draw 21 = .ok (.ifCond .ne 7, 3) := by decide +kernel
theorem dX9_draw_24 : decode cX9_draw 24 = .ok (.iconst 1, 1) := by decide +kernel
theorem dX9_draw_25 : decode cX9_draw 25 = .ok (.goto 4, 3) := by decide +kernel
theorem dX9_draw_28 : decode cX9_draw 28 = .ok (.iconst 0, 1) := by decide +kernel
theorem dX9_draw_29 : decode cX9_draw 29 = .ok (.putfield 111, 3) := by decide +kernel
theorem dX9_draw_32 : decode cX9_draw 32 = .ok (.aload_n 0, 1) := by decide +kernel
theorem dX9_draw_33 : decode cX9_draw 33 = .ok (.getfield 111, 3) := by decide +kernel
theorem dX9_draw_36 : decode cX9_draw 36 = .ok (.ifCond .le 4, 3) := by decide +kernel
theorem dX9_draw_39 : decode cX9_draw 39 = .ok (.return_, 1) := by decide +kernel
theorem dX9_draw_40 : decode cX9_draw 40 = .ok (.bipush 8, 2) := by decide +kernel
theorem dX9_draw_42 : decode cX9_draw 42 = .ok (.iload_n 1, 1) := by decide +kernel
theorem dX9_draw_43 : decode cX9_draw 43 = .ok (.imul, 1) := by decide +kernel
theorem dX9_draw_44 : decode cX9_draw 44 = .ok (.iload_n 2, 1) := by decide +kernel
theorem dX9_draw_45 : decode cX9_draw 45 = .ok (.iadd, 1) := by decide +kernel
theorem dX9_draw_46 : decode cX9_draw 46 = .ok (.istore 9, 2) := by decide +kernel
theorem dX9_draw_48 : decode cX9_draw 48 = .ok (.iload 6, 2) := by decide +kernel
theorem dX9_draw_50 : decode cX9_draw 50 = .ok (.iconst 2, 1) := by decide +kernel
theorem dX9_draw_51 : decode cX9_draw 51 = .ok (.bipush 20, 2) := by decide +kernel
theorem dX9_draw_53 : decode cX9_draw 53 = .ok (.invokestatic 117, 3) := by decide +kernel
theorem dX9_draw_56 : decode cX9_draw 56 = .ok (.ifCond .eq 77, 3) := by decide +kernel
theorem dX9_draw_59 : decode cX9_draw 59 = .ok (.iload 4, 2) := by decide +kernel
theorem dX9_draw_61 : decode cX9_draw 61 = .ok (.aload_n 0, 1) := by decide +kernel
theorem dX9_draw_62 : decode cX9_draw 62 = .ok (.getfield 35, 3) := by decide +kernel
theorem dX9_draw_65 : decode cX9_draw 65 = .ok (.iload 9, 2) := by decide +kernel
theorem dX9_draw_67 : decode cX9_draw 67 = .ok (.iaload, 1) := by decide +kernel
theorem dX9_draw_68 : decode cX9_draw 68 = .ok (.if_icmp .lt 65, 3) := by decide +kernel
theorem dX9_draw_71 : decode cX9_draw 71 = .ok (.iload 5, 2) := by decide +kernel
theorem dX9_draw_73 : decode cX9_draw 73 = .ok (.aload_n 0, 1) := by decide +kernel
theorem dX9_draw_74 : decode cX9_draw 74 = .ok (.getfield 38, 3) := by decide +kernel
theorem dX9_draw_77 : decode cX9_draw 77 = .ok (.iload 9, 2) := by decide +kernel
theorem dX9_draw_79 : decode cX9_draw 79 = .ok (.iaload, 1) := by decide +kernel
theorem dX9_draw_80 : decode cX9_draw 80 = .ok (.if_icmp .lt 53, 3) := by decide +kernel
theorem dX9_draw_83 : decode cX9_draw 83 = .ok (.iload 4, 2) := by decide +kernel
theorem dX9_draw_85 : decode cX9_draw 85 = .ok (.aload_n 0, 1) := by decide +kernel
theorem dX9_draw_86 : decode cX9_draw 86 = .ok (.getfield 35, 3) := by decide +kernel
theorem dX9_draw_89 : decode cX9_draw 89 = .ok (.iload 9, 2) := by decide +kernel
theorem dX9_draw_91 : decode cX9_draw 91 = .ok (.iaload, 1) := by decide +kernel
theorem dX9_draw_92 : decode cX9_draw 92 = .ok (.aload_n 0, 1) := by decide +kernel
theorem dX9_draw_93 : decode cX9_draw 93 = .ok (.getfield 41, 3) := by decide +kernel
theorem dX9_draw_96 : decode cX9_draw 96 = .ok (.iload 9, 2) := by decide +kernel
theorem dX9_draw_98 : decode cX9_draw 98 = .ok (.iaload, 1) := by decide +kernel
theorem dX9_draw_99 : decode cX9_draw 99 = .ok (.iadd, 1) := by decide +kernel
theorem dX9_draw_100 : decode cX9_draw 100 = .ok (.iload 6, 2) := by decide +kernel
theorem dX9_draw_102 : decode cX9_draw 102 = .ok (.isub, 1) := by decide +kernel
theorem dX9_draw_103 : decode cX9_draw 103 = .ok (.if_icmp .gt 30, 3) := by decide +kernel
theorem dX9_draw_106 : decode cX9_draw 106 = .ok (.iload 5, 2) := by decide +kernel
theorem dX9_draw_108 : decode cX9_draw 108 = .ok (.aload_n 0, 1) := by decide +kernel
theorem dX9_draw_109 : decode cX9_draw 109 = .ok (.getfield 38, 3) := by decide +kernel
theorem dX9_draw_112 : decode cX9_draw 112 = .ok (.iload 9, 2) := by decide +kernel
theorem dX9_draw_114 : decode cX9_draw 114 = .ok (.iaload, 1) := by decide +kernel
theorem dX9_draw_115 : decode cX9_draw 115 = .ok (.aload_n 0, 1) := by decide +kernel
theorem dX9_draw_116 : decode cX9_draw 116 = .ok (.getfield 44, 3) := by decide +kernel
theorem dX9_draw_119 : decode cX9_draw 119 = .ok (.iload 9, 2) := by decide +kernel
theorem dX9_draw_121 : decode cX9_draw 121 = .ok (.iaload, 1) := by decide +kernel
theorem dX9_draw_122 : decode cX9_draw 122 = .ok (.iadd, 1) := by decide +kernel
theorem dX9_draw_123 : decode cX9_draw 123 = .ok (.iload 6, 2) := by decide +kernel
theorem dX9_draw_125 : decode cX9_draw 125 = .ok (.isub, 1) := by decide +kernel
theorem dX9_draw_126 : decode cX9_draw 126 = .ok (.if_icmp .gt 7, 3) := by decide +kernel
theorem dX9_draw_129 : decode cX9_draw 129 = .ok (.iconst 1, 1) := by decide +kernel
theorem dX9_draw_130 : decode cX9_draw 130 = .ok (.goto 4, 3) := by decide +kernel
theorem dX9_draw_133 : decode cX9_draw 133 = .ok (.iconst 0, 1) := by decide +kernel
theorem dX9_draw_134 : decode cX9_draw 134 = .ok (.istore 10, 2) := by decide +kernel
theorem dX9_draw_136 : decode cX9_draw 136 = .ok (.aload_n 0, 1) := by decide +kernel
theorem dX9_draw_137 : decode cX9_draw 137 = .ok (.iload 10, 2) := by decide +kernel
theorem dX9_draw_139 : decode cX9_draw 139 = .ok (.ifCond .eq 14, 3) := by decide +kernel
theorem dX9_draw_142 : decode cX9_draw 142 = .ok (.iload 7, 2) := by decide +kernel
theorem dX9_draw_144 : decode cX9_draw 144 = .ok (.iconst 0, 1) := by decide +kernel
theorem dX9_draw_145 : decode cX9_draw 145 = .ok (.bipush 9, 2) := by decide +kernel
theorem dX9_draw_147 : decode cX9_draw 147 = .ok (.invokestatic 117, 3) := by decide +kernel
theorem dX9_draw_150 : decode cX9_draw 150 = .ok (.ifCond .ne 7, 3) := by decide +kernel
theorem dX9_draw_153 : decode cX9_draw 153 = .ok (.iconst 2, 1) := by decide +kernel
theorem dX9_draw_154 : decode cX9_draw 154 = .ok (.goto 16, 3) := by decide +kernel
theorem dX9_draw_157 : decode cX9_draw 157 = .ok (.aload_n 0, 1) := by decide +kernel
theorem dX9_draw_158 : decode cX9_draw 158 = .ok (.iload_n 1, 1) := by decide +kernel
theorem dX9_draw_159 : decode cX9_draw 159 = .ok (.invokevirtual 129, 3) := by decide +kernel
theorem dX9_draw_162 : decode cX9_draw 162 = .ok (.ifCond .eq 7, 3) := by decide +kernel
theorem dX9_draw_165 : decode cX9_draw 165 = .ok (.iconst 3, 1) := by decide +kernel
theorem dX9_draw_166 : decode cX9_draw 166 = .ok (.goto 4, 3) := by decide +kernel
theorem dX9_draw_169 : decode cX9_draw 169 = .ok (.iconst 0, 1) := by decide +kernel
theorem dX9_draw_170 : decode cX9_draw 170 = .ok (.putfield 111, 3) := by decide +kernel
theorem dX9_draw_173 : decode cX9_draw 173 = .ok (.aload_n 0, 1) := by decide +kernel
theorem dX9_draw_174 : decode cX9_draw 174 = .ok (.getfield 111, 3) := by decide +kernel
theorem dX9_draw_177 : decode cX9_draw 177 = .ok (.ifCond .ne 57, 3) := by decide +kernel
theorem dX9_draw_180 : decode cX9_draw 180 = .ok (.bipush 12, 2) := by decide +kernel
theorem dX9_draw_182 : decode cX9_draw 182 = .ok (.iload 9, 2) := by decide +kernel
theorem dX9_draw_184 : decode cX9_draw 184 = .ok (.imul, 1) := by decide +kernel
theorem dX9_draw_185 : decode cX9_draw 185 = .ok (.iload_n 3, 1) := by decide +kernel
theorem dX9_draw_186 : decode cX9_draw 186 = .ok (.iadd, 1) := by decide +kernel
theorem dX9_draw_187 : decode cX9_draw 187 = .ok (.istore 11, 2) := by decide +kernel
theorem dX9_draw_189 : decode cX9_draw 189 = .ok (.aload_n 0, 1) := by decide +kernel
theorem dX9_draw_190 : decode cX9_draw 190 = .ok (.getfield 47, 3) := by decide +kernel
theorem dX9_draw_193 : decode cX9_draw 193 = .ok (.iload 11, 2) := by decide +kernel
theorem dX9_draw_195 : decode cX9_draw 195 = .ok (.iload 4, 2) := by decide +kernel
theorem dX9_draw_197 : decode cX9_draw 197 = .ok (.iastore, 1) := by decide +kernel
theorem dX9_draw_198 : decode cX9_draw 198 = .ok (.aload_n 0, 1) := by decide +kernel
theorem dX9_draw_199 : decode cX9_draw 199 = .ok (.getfield 50, 3) := by decide +kernel
theorem dX9_draw_202 : decode cX9_draw 202 = .ok (.iload 11, 2) := by decide +kernel
theorem dX9_draw_204 : decode cX9_draw 204 = .ok (.iload 5, 2) := by decide +kernel
theorem dX9_draw_206 : decode cX9_draw 206 = .ok (.iastore, 1) := by decide +kernel
theorem dX9_draw_207 : decode cX9_draw 207 = .ok (.aload_n 0, 1) := by decide +kernel
theorem dX9_draw_208 : decode cX9_draw 208 = .ok (.getfield 53, 3) := by decide +kernel
theorem dX9_draw_211 : decode cX9_draw 211 = .ok (.iload 11, 2) := by decide +kernel
theorem dX9_draw_213 : decode cX9_draw 213 = .ok (.iload 6, 2) := by decide +kernel
theorem dX9_draw_215 : decode cX9_draw 215 = .ok (.iastore, 1) := by decide +kernel
theorem dX9_draw_216 : decode cX9_draw 216 = .ok (.aload_n 0, 1) := by decide +kernel
theorem dX9_draw_217 : decode cX9_draw 217 = .ok (.getfield 56, 3) := by decide +kernel
theorem dX9_draw_220 : decode cX9_draw 220 = .ok (.iload 11, 2) := by decide +kernel
theorem dX9_draw_222 : decode cX9_draw 222 = .ok (.iload 7, 2) := by decide +kernel
theorem dX9_draw_224 : decode cX9_draw 224 = .ok (.iastore, 1) := by decide +kernel
theorem dX9_draw_225 : decode cX9_draw 225 = .ok (.aload_n 0, 1) := by decide +kernel
theorem dX9_draw_226 : decode cX9_draw 226 = .ok (.getfield 59, 3) := by decide +kernel
theorem dX9_draw_229 : decode cX9_draw 229 = .ok (.iload 11, 2) := by decide +kernel
theorem dX9_draw_231 : decode cX9_draw 231 = .ok (.iload 8, 2) := by decide +kernel
theorem dX9_draw_233 : decode cX9_draw 233 = .ok (.bastore, 1) := by decide +kernel
theorem dX9_draw_234 : decode cX9_draw 234 = .ok (.return_, 1) := by decide +kernel
theorem dX9_balloon_0 : decode cX9_balloon 0 = .ok (.aload_n 0, 1) := by decide +kernel
theorem dX9_balloon_1 : decode cX9_balloon 1 = .ok (.aload_n 0, 1) := by decide +kernel
theorem dX9_balloon_2 : decode cX9_balloon 2 = .ok (.iload_n 1, 1) := by decide +kernel
theorem dX9_balloon_3 : decode cX9_balloon 3 = .ok (.iload_n 2, 1) := by decide +kernel
theorem dX9_balloon_4 : decode cX9_balloon 4 = .ok (.invokevirtual 165, 3) := by decide +kernel
theorem dX9_balloon_7 : decode cX9_balloon 7 = .ok (.ifCond .eq 24, 3) := by decide +kernel
theorem dX9_balloon_10 : decode cX9_balloon 10 = .ok (.iload 7, 2) := by decide +kernel
theorem dX9_balloon_12 : decode cX9_balloon 12 = .ok (.iconst (-1), 1) := by decide +kernel
theorem dX9_balloon_13 : decode cX9_balloon 13 = .ok (.if_icmp .eq 22, 3) := by decide +kernel
theorem dX9_balloon_16 : decode cX9_balloon 16 = .ok (.iload 7, 2) := by decide +kernel
theorem dX9_balloon_18 : decode cX9_balloon 18 = .ok (.iconst 0, 1) := by decide +kernel
theorem dX9_balloon_19 : decode cX9_balloon 19 = .ok (.aload_n 0, 1) := by decide +kernel
theorem dX9_balloon_20 : decode cX9_balloon 20 = .ok (.getfield 162, 3) := by decide +kernel
theorem dX9_balloon_23 : decode cX9_balloon 23 = .ok (.iconst 1, 1) := by decide +kernel
theorem dX9_balloon_24 : decode cX9_balloon 24 = .ok (.isub, 1) := by decide +kernel
theorem dX9_balloon_25 : decode cX9_balloon 25 = .ok (.invokestatic 117, 3) := by decide +kernel
theorem dX9_balloon_28 : decode cX9_balloon 28 = .ok (.ifCond .ne 7, 3) := by decide +kernel
theorem dX9_balloon_31 : decode cX9_balloon 31 = .ok (.iconst 1, 1) := by decide +kernel
theorem dX9_balloon_32 : decode cX9_balloon 32 = .ok (.goto 63, 3) := by decide +kernel
theorem dX9_balloon_35 : decode cX9_balloon 35 = .ok (.iload_n 3, 1) := by decide +kernel
theorem dX9_balloon_36 : decode cX9_balloon 36 = .ok (.iconst 0, 1) := by decide +kernel
theorem dX9_balloon_37 : decode cX9_balloon 37 = .ok (.bipush 59, 2) := by decide +kernel
theorem dX9_balloon_39 : decode cX9_balloon 39 = .ok (.invokestatic 117, 3) := by decide +kernel
theorem dX9_balloon_42 : decode cX9_balloon 42 = .ok (.ifCond .eq 48, 3) := by decide +kernel
theorem dX9_balloon_45 : decode cX9_balloon 45 = .ok (.iload 4, 2) := by decide +kernel
theorem dX9_balloon_47 : decode cX9_balloon 47 = .ok (.iconst 0, 1) := by decide +kernel
theorem dX9_balloon_48 : decode cX9_balloon 48 = .ok (.bipush 79, 2) := by decide +kernel
theorem dX9_balloon_50 : decode cX9_balloon 50 = .ok (.invokestatic 117, 3) := by decide +kernel
theorem dX9_balloon_53 : decode cX9_balloon 53 = .ok (.ifCond .eq 37, 3) := by decide +kernel
theorem dX9_balloon_56 : decode cX9_balloon 56 = .ok (.iload 5, 2) := by decide +kernel
theorem dX9_balloon_58 : decode cX9_balloon 58 = .ok (.iconst 2, 1) := by decide +kernel
theorem dX9_balloon_59 : decode cX9_balloon 59 = .ok (.bipush 60, 2) := by decide +kernel
theorem dX9_balloon_61 : decode cX9_balloon 61 = .ok (.invokestatic 117, 3) := by decide +kernel
theorem dX9_balloon_64 : decode cX9_balloon 64 = .ok (.ifCond .eq 26, 3) := by decide +kernel
theorem dX9_balloon_67 : decode cX9_balloon 67 = .ok (.iload 6, 2) := by decide +kernel
theorem dX9_balloon_69 : decode cX9_balloon 69 = .ok (.iconst 2, 1) := by decide +kernel
theorem dX9_balloon_70 : decode cX9_balloon 70 = .ok (.bipush 80, 2) := by decide +kernel
theorem dX9_balloon_72 : decode cX9_balloon 72 = .ok (.invokestatic 117, 3) := by decide +kernel
theorem dX9_balloon_75 : decode cX9_balloon 75 = .ok (.ifCond .eq 15, 3) := by decide +kernel
theorem dX9_balloon_78 : decode cX9_balloon 78 = .ok (.iload 8, 2) := by decide +kernel
theorem dX9_balloon_80 : decode cX9_balloon 80 = .ok (.iconst 1, 1) := by decide +kernel
theorem dX9_balloon_81 : decode cX9_balloon 81 = .ok (.sipush 200, 3) := by decide +kernel
theorem dX9_balloon_84 : decode cX9_balloon 84 = .ok (.invokestatic 117, 3) := by decide +kernel
theorem dX9_balloon_87 : decode cX9_balloon 87 = .ok (.ifCond .ne 7, 3) := by decide +kernel
theorem dX9_balloon_90 : decode cX9_balloon 90 = .ok (.iconst 2, 1) := by decide +kernel
theorem dX9_balloon_91 : decode cX9_balloon 91 = .ok (.goto 4, 3) := by decide +kernel
theorem dX9_balloon_94 : decode cX9_balloon 94 = .ok (.iconst 0, 1) := by decide +kernel
theorem dX9_balloon_95 : decode cX9_balloon 95 = .ok (.putfield 111, 3) := by decide +kernel
theorem dX9_balloon_98 : decode cX9_balloon 98 = .ok (.aload_n 0, 1) := by decide +kernel
theorem dX9_balloon_99 : decode cX9_balloon 99 = .ok (.aload_n 0, 1) := by decide +kernel
theorem dX9_balloon_100 : decode cX9_balloon 100 = .ok (.getfield 111, 3) := by decide +kernel
theorem dX9_balloon_103 : decode cX9_balloon 103 = .ok (.ifCond .le 10, 3) := by decide +kernel
theorem dX9_balloon_106 : decode cX9_balloon 106 = .ok (.aload_n 0, 1) := by decide +kernel
theorem dX9_balloon_107 : decode cX9_balloon 107 = .ok (.getfield 111, 3) := by decide +kernel
theorem dX9_balloon_110 : decode cX9_balloon 110 = .ok (.goto 27, 3) := by decide +kernel
theorem dX9_balloon_113 : decode cX9_balloon 113 = .ok (.aload_n 0, 1) := by decide +kernel
theorem dX9_balloon_114 : decode cX9_balloon 114 = .ok (.getfield 17, 3) := by decide +kernel
theorem dX9_balloon_117 : decode cX9_balloon 117 = .ok (.iload_n 1, 1) := by decide +kernel
theorem dX9_balloon_118 : decode cX9_balloon 118 = .ok (.iaload, 1) := by decide +kernel
theorem dX9_balloon_119 : decode cX9_balloon 119 = .ok (.bipush 20, 2) := by decide +kernel
theorem dX9_balloon_121 : decode cX9_balloon 121 = .ok (.if_icmp .eq 11, 3) := by decide +kernel
theorem dX9_balloon_124 : decode cX9_balloon 124 = .ok (.aload_n 0, 1) := by decide +kernel
theorem dX9_balloon_125 : decode cX9_balloon 125 = .ok (.iload_n 1, 1) := by decide +kernel
theorem dX9_balloon_126 : decode cX9_balloon 126 = .ok (.invokevirtual 129, 3) := by decide +kernel
theorem dX9_balloon_129 : decode cX9_balloon 129 = .ok (.ifCond .eq 7, 3) := by decide +kernel
theorem dX9_balloon_132 : decode cX9_balloon 132 = .ok (.iconst 3, 1) := by decide +kernel
theorem dX9_balloon_133 : decode cX9_balloon 133 = .ok (.goto 4, 3) := by decide +kernel
theorem dX9_balloon_136 : decode cX9_balloon 136 = .ok (.iconst 0, 1) := by decide +kernel
theorem dX9_balloon_137 : decode cX9_balloon 137 = .ok (.putfield 111, 3) := by decide +kernel
theorem dX9_balloon_140 : decode cX9_balloon 140 = .ok (.aload_n 0, 1) := by decide +kernel
theorem dX9_balloon_141 : decode cX9_balloon 141 = .ok (.getfield 111, 3) := by decide +kernel
theorem dX9_balloon_144 : decode cX9_balloon 144 = .ok (.ifCond .le 5, 3) := by decide +kernel
theorem dX9_balloon_147 : decode cX9_balloon 147 = .ok (.iconst 0, 1) := by decide +kernel
theorem dX9_balloon_148 : decode cX9_balloon 148 = .ok (.ireturn, 1) := by decide +kernel
theorem dX9_balloon_149 : decode cX9_balloon 149 = .ok (.bipush 20, 2) := by decide +kernel
theorem dX9_balloon_151 : decode cX9_balloon 151 = .ok (.iload_n 1, 1) := by decide +kernel
theorem dX9_balloon_152 : decode cX9_balloon 152 = .ok (.imul, 1) := by decide +kernel
theorem dX9_balloon_153 : decode cX9_balloon 153 = .ok (.aload_n 0, 1) := by decide +kernel
theorem dX9_balloon_154 : decode cX9_balloon 154 = .ok (.getfield 17, 3) := by decide +kernel
theorem dX9_balloon_157 : decode cX9_balloon 157 = .ok (.iload_n 1, 1) := by decide +kernel
theorem dX9_balloon_158 : decode cX9_balloon 158 = .ok (.iaload, 1) := by decide +kernel
theorem dX9_balloon_159 : decode cX9_balloon 159 = .ok (.iadd, 1) := by decide +kernel
theorem dX9_balloon_160 : decode cX9_balloon 160 = .ok (.istore 9, 2) := by decide +kernel
theorem dX9_balloon_162 : decode cX9_balloon 162 = .ok (.aload_n 0, 1) := by decide +kernel
theorem dX9_balloon_163 : decode cX9_balloon 163 = .ok (.getfield 62, 3) := by decide +kernel
theorem dX9_balloon_166 : decode cX9_balloon 166 = .ok (.iload 9, 2) := by decide +kernel
theorem dX9_balloon_168 : decode cX9_balloon 168 = .ok (.iload_n 2, 1) := by decide +kernel
theorem dX9_balloon_169 : decode cX9_balloon 169 = .ok (.iastore, 1) := by decide +kernel
theorem dX9_balloon_170 : decode cX9_balloon 170 = .ok (.aload_n 0, 1) := by decide +kernel
theorem dX9_balloon_171 : decode cX9_balloon 171 = .ok (.getfield 65, 3) := by decide +kernel
theorem dX9_balloon_174 : decode cX9_balloon 174 = .ok (.iload 9, 2) := by decide +kernel
theorem dX9_balloon_176 : decode cX9_balloon 176 = .ok (.iload_n 3, 1) := by decide +kernel
theorem dX9_balloon_177 : decode cX9_balloon 177 = .ok (.iastore, 1) := by decide +kernel
theorem dX9_balloon_178 : decode cX9_balloon 178 = .ok (.aload_n 0, 1) := by decide +kernel
theorem dX9_balloon_179 : decode cX9_balloon 179 = .ok (.getfield 68, 3) := by decide +kernel
theorem dX9_balloon_182 : decode cX9_balloon 182 = .ok (.iload 9, 2) := by decide +kernel
theorem dX9_balloon_184 : decode cX9_balloon 184 = .ok (.iload 4, 2) := by decide +kernel
theorem dX9_balloon_186 : decode cX9_balloon 186 = .ok (.iastore, 1) := by decide +kernel
theorem dX9_balloon_187 : decode cX9_balloon 187 = .ok (.aload_n 0, 1) := by decide +kernel
theorem dX9_balloon_188 : decode cX9_balloon 188 = .ok (.getfield 71, 3) := by decide +kernel
theorem dX9_balloon_191 : decode cX9_balloon 191 = .ok (.iload 9, 2) := by decide +kernel
theorem dX9_balloon_193 : decode cX9_balloon 193 = .ok (.iload 5, 2) := by decide +kernel
theorem dX9_balloon_195 : decode cX9_balloon 195 = .ok (.iastore, 1) := by decide +kernel
theorem dX9_balloon_196 : decode cX9_balloon 196 = .ok (.aload_n 0, 1) := by decide +kernel
theorem dX9_balloon_197 : decode cX9_balloon 197 = .ok (.getfield 74, 3) := by decide +kernel
theorem dX9_balloon_200 : decode cX9_balloon 200 = .ok (.iload 9, 2) := by decide +kernel
theorem dX9_balloon_202 : decode cX9_balloon 202 = .ok (.iload 6, 2) := by decide +kernel
theorem dX9_balloon_204 : decode cX9_balloon 204 = .ok (.iastore, 1) := by decide +kernel
theorem dX9_balloon_205 : decode cX9_balloon 205 = .ok (.aload_n 0, 1) := by decide +kernel
theorem dX9_balloon_206 : decode cX9_balloon 206 = .ok (.getfield 77, 3) := by decide +kernel
theorem dX9_balloon_209 : decode cX9_balloon 209 = .ok (.iload 9, 2) := by decide +kernel
theorem dX9_balloon_211 : decode cX9_balloon 211 = .ok (.iload 7, 2) := by decide +kernel
theorem dX9_balloon_213 : decode cX9_balloon 213 = .ok (.iastore, 1) := by decide +kernel
theorem dX9_balloon_214 : decode cX9_balloon 214 = .ok (.aload_n 0, 1) := by decide +kernel
theorem dX9_balloon_215 : decode cX9_balloon 215 = .ok (.getfield 80, 3) := by decide +kernel
theorem dX9_balloon_218 : decode cX9_balloon 218 = .ok (.iload 9, 2) := by decide +kernel
theorem dX9_balloon_220 : decode cX9_balloon 220 = .ok (.iload 8, 2) := by decide +kernel
theorem dX9_balloon_222 : decode cX9_balloon 222 = .ok (.iastore, 1) := by decide +kernel
theorem dX9_balloon_223 : decode cX9_balloon 223 = .ok (.aload_n 0, 1) := by decide +kernel
theorem dX9_balloon_224 : decode cX9_balloon 224 = .ok (.getfield 17, 3) := by decide +kernel
theorem dX9_balloon_227 : decode cX9_balloon 227 = .ok (.iload_n 1, 1) := by decide +kernel
theorem dX9_balloon_228 : decode cX9_balloon 228 = .ok (.dup2, 1) := by decide +kernel
theorem dX9_balloon_229 : decode cX9_balloon 229 = .ok (.iaload, 1) := by decide +kernel
theorem dX9_balloon_230 : decode cX9_balloon 230 = .ok (.iconst 1, 1) := by decide +kernel
theorem dX9_balloon_231 : decode cX9_balloon 231 = .ok (.iadd, 1) := by decide +kernel
theorem dX9_balloon_232 : decode cX9_balloon 232 = .ok (.iastore, 1) := by decide +kernel
theorem dX9_balloon_233 : decode cX9_balloon 233 = .ok (.aload_n 0, 1) := by decide +kernel
theorem dX9_balloon_234 : decode cX9_balloon 234 = .ok (.getfield 17, 3) := by decide +kernel
theorem dX9_balloon_237 : decode cX9_balloon 237 = .ok (.iload_n 1, 1) := by decide +kernel
theorem dX9_balloon_238 : decode cX9_balloon 238 = .ok (.iaload, 1) := by decide +kernel
theorem dX9_balloon_239 : decode cX9_balloon 239 = .ok (.iconst 1, 1) := by decide +kernel
theorem dX9_balloon_240 : decode cX9_balloon 240 = .ok (.isub, 1) := by decide +kernel
theorem dX9_balloon_241 : decode cX9_balloon 241 = .ok (.ireturn, 1) := by decide +kernel
theorem dX9_move_0 : decode cX9_move 0 = .ok (.aload_n 0, 1) := by decide +kernel
theorem dX9_move_1 : decode cX9_move 1 = .ok (.aload_n 0, 1) := by decide +kernel
theorem dX9_move_2 : decode cX9_move 2 = .ok (.iload_n 1, 1) := by decide +kernel
theorem dX9_move_3 : decode cX9_move 3 = .ok (.iload_n 2, 1) := by decide +kernel
theorem dX9_move_4 : decode cX9_move 4 = .ok (.invokevirtual 169, 3) := by decide +kernel
theorem dX9_move_7 : decode cX9_move 7 = .ok (.ifCond .ne 7, 3) := by decide +kernel
theorem dX9_move_10 : decode cX9_move 10 = .ok (.iconst 1, 1) := by decide +kernel
theorem dX9_move_11 : decode cX9_move 11 = .ok (.goto 29, 3) := by decide +kernel
theorem dX9_move_14 : decode cX9_move 14 = .ok (.iload_n 3, 1) := by decide +kernel
theorem dX9_move_15 : decode cX9_move 15 = .ok (.iconst 0, 1) := by decide +kernel
theorem dX9_move_16 : decode cX9_move 16 = .ok (.bipush 59, 2) := by decide +kernel
theorem dX9_move_18 : decode cX9_move 18 = .ok (.invokestatic 117, 3) := by decide +kernel
theorem dX9_move_21 : decode cX9_move 21 = .ok (.ifCond .eq 14, 3) := by decide +kernel
theorem dX9_move_24 : decode cX9_move 24 = .ok (.iload 4, 2) := by decide +kernel
theorem dX9_move_26 : decode cX9_move 26 = .ok (.iconst 0, 1) := by decide +kernel
theorem dX9_move_27 : decode cX9_move 27 = .ok (.bipush 79, 2) := by decide +kernel
theorem dX9_move_29 : decode cX9_move 29 = .ok (.invokestatic 117, 3) := by decide +kernel
theorem dX9_move_32 : decode cX9_move 32 = .ok (.ifCond .ne 7, 3) := by decide +kernel
theorem dX9_move_35 : decode cX9_move 35 = .ok (.iconst 2, 1) := by decide +kernel
theorem dX9_move_36 : decode cX9_move 36 = .ok (.goto 4, 3) := by decide +kernel
theorem dX9_move_39 : decode cX9_move 39 = .ok (.iconst 0, 1) := by decide +kernel
theorem dX9_move_40 : decode cX9_move 40 = .ok (.putfield 111, 3) := by decide +kernel
theorem dX9_move_43 : decode cX9_move 43 = .ok (.aload_n 0, 1) := by decide +kernel
theorem dX9_move_44 : decode cX9_move 44 = .ok (.aload_n 0, 1) := by decide +kernel
theorem dX9_move_45 : decode cX9_move 45 = .ok (.getfield 111, 3) := by decide +kernel
theorem dX9_move_48 : decode cX9_move 48 = .ok (.ifCond .le 10, 3) := by decide +kernel
theorem dX9_move_51 : decode cX9_move 51 = .ok (.aload_n 0, 1) := by decide +kernel
theorem dX9_move_52 : decode cX9_move 52 = .ok (.getfield 111, 3) := by decide +kernel
theorem dX9_move_55 : decode cX9_move 55 = .ok (.goto 16, 3) := by decide +kernel
theorem dX9_move_58 : decode cX9_move 58 = .ok (.aload_n 0, 1) := by decide +kernel
theorem dX9_move_59 : decode cX9_move 59 = .ok (.iload_n 1, 1) := by decide +kernel
theorem dX9_move_60 : decode cX9_move 60 = .ok (.invokevirtual 129, 3) := by decide +kernel
theorem dX9_move_63 : decode cX9_move 63 = .ok (.ifCond .eq 7, 3) := by decide +kernel
theorem dX9_move_66 : decode cX9_move 66 = .ok (.iconst 3, 1) := by decide +kernel
theorem dX9_move_67 : decode cX9_move 67 = .ok (.goto 4, 3) := by decide +kernel
theorem dX9_move_70 : decode cX9_move 70 = .ok (.iconst 0, 1) := by decide +kernel
theorem dX9_move_71 : decode cX9_move 71 = .ok (.putfield 111, 3) := by decide +kernel
theorem dX9_move_74 : decode cX9_move 74 = .ok (.aload_n 0, 1) := by decide +kernel
theorem dX9_move_75 : decode cX9_move 75 = .ok (.getfield 111, 3) := by decide +kernel
theorem dX9_move_78 : decode cX9_move 78 = .ok (.ifCond .ne 28, 3) := by decide +kernel
theorem dX9_move_81 : decode cX9_move 81 = .ok (.aload_n 0, 1) := by decide +kernel
theorem dX9_move_82 : decode cX9_move 82 = .ok (.getfield 65, 3) := by decide +kernel
theorem dX9_move_85 : decode cX9_move 85 = .ok (.bipush 20, 2) := by decide +kernel
theorem dX9_move_87 : decode cX9_move 87 = .ok (.iload_n 1, 1) := by decide +kernel
theorem dX9_move_88 : decode cX9_move 88 = .ok (.imul, 1) := by decide +kernel
theorem dX9_move_89 : decode cX9_move 89 = .ok (.iload_n 2, 1) := by decide +kernel
theorem dX9_move_90 : decode cX9_move 90 = .ok (.iadd, 1) := by decide +kernel
theorem dX9_move_91 : decode cX9_move 91 = .ok (.iload_n 3, 1) := by decide +kernel
theorem dX9_move_92 : decode cX9_move 92 = .ok (.iastore, 1) := by decide +kernel
theorem dX9_move_93 : decode cX9_move 93 = .ok (.aload_n 0, 1) := by decide +kernel
theorem dX9_move_94 : decode cX9_move 94 = .ok (.getfield 68, 3) := by decide +kernel
theorem dX9_move_97 : decode cX9_move 97 = .ok (.bipush 20, 2) := by decide +kernel
theorem dX9_move_99 : decode cX9_move 99 = .ok (.iload_n 1, 1) := by decide +kernel
theorem dX9_move_100 : decode cX9_move 100 = .ok (.imul, 1) := by decide +kernel
theorem dX9_move_101 : decode cX9_move 101 = .ok (.iload_n 2, 1) := by decide +kernel
theorem dX9_move_102 : decode cX9_move 102 = .ok (.iadd, 1) := by decide +kernel
theorem dX9_move_103 : decode cX9_move 103 = .ok (.iload 4, 2) := by decide +kernel
theorem dX9_move_105 : decode cX9_move 105 = .ok (.iastore, 1) := by decide +kernel
theorem dX9_move_106 : decode cX9_move 106 = .ok (.return_, 1) := by decide +kernel
theorem dX9_tailOf_0 : decode cX9_tailOf 0 = .ok (.bipush 20, 2) := by decide +kernel
theorem dX9_tailOf_2 : decode cX9_tailOf 2 = .ok (.iload_n 1, 1) := by decide +kernel
theorem dX9_tailOf_3 : decode cX9_tailOf 3 = .ok (.imul, 1) := by decide +kernel
theorem dX9_tailOf_4 : decode cX9_tailOf 4 = .ok (.iload_n 2, 1) := by decide +kernel
theorem dX9_tailOf_5 : decode cX9_tailOf 5 = .ok (.iadd, 1) := by decide +kernel
theorem dX9_tailOf_6 : decode cX9_tailOf 6 = .ok (.istore_n 3, 1) := by decide +kernel
theorem dX9_tailOf_7 : decode cX9_tailOf 7 = .ok (.aload_n 0, 1) := by decide +kernel
theorem dX9_tailOf_8 : decode cX9_tailOf 8 = .ok (.getfield 77, 3) := by decide +kernel
theorem dX9_tailOf_11 : decode cX9_tailOf 11 = .ok (.iload_n 3, 1) := by decide +kernel
theorem dX9_tailOf_12 : decode cX9_tailOf 12 = .ok (.iaload, 1) := by decide +kernel
theorem dX9_tailOf_13 : decode cX9_tailOf 13 = .ok (.iconst (-1), 1) := by decide +kernel
theorem dX9_tailOf_14 : decode cX9_tailOf 14 = .ok (.if_icmp .ne 7, 3) := by decide +kernel
theorem dX9_tailOf_17 : decode cX9_tailOf 17 = .ok (.iconst (-1), 1) := by decide +kernel
theorem dX9_tailOf_18 : decode cX9_tailOf 18 = .ok (.goto 24, 3) := by decide +kernel
theorem dX9_tailOf_21 : decode cX9_tailOf 21 = .ok (.bipush 12, 2) := by decide +kernel
theorem dX9_tailOf_23 : decode cX9_tailOf 23 = .ok (.bipush 8, 2) := by decide +kernel
theorem dX9_tailOf_25 : decode cX9_tailOf 25 = .ok (.iload_n 1, 1) := by decide +kernel
theorem dX9_tailOf_26 : decode cX9_tailOf 26 = .ok (.imul, 1) := by decide +kernel
theorem dX9_tailOf_27 : decode cX9_tailOf 27 = .ok (.aload_n 0, 1) := by decide +kernel
theorem dX9_tailOf_28 : decode cX9_tailOf 28 = .ok (.getfield 62, 3) := by decide +kernel
theorem dX9_tailOf_31 : decode cX9_tailOf 31 = .ok (.iload_n 3, 1) := by decide +kernel
theorem dX9_tailOf_32 : decode cX9_tailOf 32 = .ok (.iaload, 1) := by decide +kernel
theorem dX9_tailOf_33 : decode cX9_tailOf 33 = .ok (.iadd, 1) := by decide +kernel
theorem dX9_tailOf_34 : decode cX9_tailOf 34 = .ok (.imul, 1) := by decide +kernel
theorem dX9_tailOf_35 : decode cX9_tailOf 35 = .ok (.aload_n 0, 1) := by decide +kernel
theorem dX9_tailOf_36 : decode cX9_tailOf 36 = .ok (.getfield 77, 3) := by decide +kernel
theorem dX9_tailOf_39 : decode cX9_tailOf 39 = .ok (.iload_n 3, 1) := by decide +kernel
theorem dX9_tailOf_40 : decode cX9_tailOf 40 = .ok (.iaload, 1) := by decide +kernel
theorem dX9_tailOf_41 : decode cX9_tailOf 41 = .ok (.iadd, 1) := by decide +kernel
theorem dX9_tailOf_42 : decode cX9_tailOf 42 = .ok (.istore 4, 2) := by decide +kernel
theorem dX9_tailOf_44 : decode cX9_tailOf 44 = .ok (.iload 4, 2) := by decide +kernel
theorem dX9_tailOf_46 : decode cX9_tailOf 46 = .ok (.iconst (-1), 1) := by decide +kernel
theorem dX9_tailOf_47 : decode cX9_tailOf 47 = .ok (.if_icmp .eq 18, 3) := by decide +kernel
theorem dX9_tailOf_50 : decode cX9_tailOf 50 = .ok (.aload_n 0, 1) := by decide +kernel
theorem dX9_tailOf_51 : decode cX9_tailOf 51 = .ok (.getfield 53, 3) := by decide +kernel
theorem dX9_tailOf_54 : decode cX9_tailOf 54 = .ok (.iload 4, 2) := by decide +kernel
theorem dX9_tailOf_56 : decode cX9_tailOf 56 = .ok (.iaload, 1) := by decide +kernel
theorem dX9_tailOf_57 : decode cX9_tailOf 57 = .ok (.ifCond .le 8, 3) := by decide +kernel
theorem dX9_tailOf_60 : decode cX9_tailOf 60 = .ok (.iload 4, 2) := by decide +kernel
theorem dX9_tailOf_62 : decode cX9_tailOf 62 = .ok (.goto 4, 3) := by decide +kernel
theorem dX9_tailOf_65 : decode cX9_tailOf 65 = .ok (.iconst (-1), 1) := by decide +kernel
theorem dX9_tailOf_66 : decode cX9_tailOf 66 = .ok (.ireturn, 1) := by decide +kernel
theorem dX9_turnOf_0 : decode cX9_turnOf 0 = .ok (.iload_n 2, 1) := by decide +kernel
theorem dX9_turnOf_1 : decode cX9_turnOf 1 = .ok (.iload_n 0, 1) := by decide +kernel
theorem dX9_turnOf_2 : decode cX9_turnOf 2 = .ok (.isub, 1) := by decide +kernel
theorem dX9_turnOf_3 : decode cX9_turnOf 3 = .ok (.iload 5, 2) := by decide +kernel
theorem dX9_turnOf_5 : decode cX9_turnOf 5 = .ok (.iload_n 1, 1) := by decide +kernel
theorem dX9_turnOf_6 : decode cX9_turnOf 6 = .ok (.isub, 1) := by decide +kernel
theorem dX9_turnOf_7 : decode cX9_turnOf 7 = .ok (.imul, 1) := by decide +kernel
theorem dX9_turnOf_8 : decode cX9_turnOf 8 = .ok (.iload_n 3, 1) := by decide +kernel
theorem dX9_turnOf_9 : decode cX9_turnOf 9 = .ok (.iload_n 1, 1) := by decide +kernel
theorem dX9_turnOf_10 : decode cX9_turnOf 10 = .ok (.isub, 1) := by decide +kernel
theorem dX9_turnOf_11 : decode cX9_turnOf 11 = .ok (.iload 4, 2) := by decide +kernel
theorem dX9_turnOf_13 : decode cX9_turnOf 13 = .ok (.iload_n 0, 1) := by decide +kernel
theorem dX9_turnOf_14 : decode cX9_turnOf 14 = .ok (.isub, 1) := by decide +kernel
theorem dX9_turnOf_15 : decode cX9_turnOf 15 = .ok (.imul, 1) := by decide +kernel
theorem dX9_turnOf_16 : decode cX9_turnOf 16 = .ok (.isub, 1) := by decide +kernel
theorem dX9_turnOf_17 : decode cX9_turnOf 17 = .ok (.istore 6, 2) := by decide +kernel
theorem dX9_turnOf_19 : decode cX9_turnOf 19 = .ok (.iload 6, 2) := by decide +kernel
theorem dX9_turnOf_21 : decode cX9_turnOf 21 = .ok (.ifCond .le 7, 3) := by decide +kernel
theorem dX9_turnOf_24 : decode cX9_turnOf 24 = .ok (.iconst 1, 1) := by decide +kernel
theorem dX9_turnOf_25 : decode cX9_turnOf 25 = .ok (.goto 13, 3) := by decide +kernel
theorem dX9_turnOf_28 : decode cX9_turnOf 28 = .ok (.iload 6, 2) := by decide +kernel
theorem dX9_turnOf_30 : decode cX9_turnOf 30 = .ok (.ifCond .ge 7, 3) := by decide +kernel
theorem dX9_turnOf_33 : decode cX9_turnOf 33 = .ok (.iconst (-1), 1) := by decide +kernel
theorem dX9_turnOf_34 : decode cX9_turnOf 34 = .ok (.goto 4, 3) := by decide +kernel
theorem dX9_turnOf_37 : decode cX9_turnOf 37 = .ok (.iconst 0, 1) := by decide +kernel
theorem dX9_turnOf_38 : decode cX9_turnOf 38 = .ok (.ireturn, 1) := by decide +kernel
theorem dX9_isBetween_0 : decode cX9_isBetween 0 = .ok (.iload_n 0, 1) := by decide +kernel
theorem dX9_isBetween_1 : decode cX9_isBetween 1 = .ok (.iload_n 1, 1) := by decide +kernel
theorem dX9_isBetween_2 : decode cX9_isBetween 2 = .ok (.iload_n 2, 1) := by decide +kernel
theorem dX9_isBetween_3 : decode cX9_isBetween 3 = .ok (.if_icmp .ge 7, 3) := by decide +kernel
theorem dX9_isBetween_6 : decode cX9_isBetween 6 = .ok (.iload_n 1, 1) := by decide +kernel
theorem dX9_isBetween_7 : decode cX9_isBetween 7 = .ok (.goto 4, 3) := by decide +kernel
theorem dX9_isBetween_10 : decode cX9_isBetween 10 = .ok (.iload_n 2, 1) := by decide +kernel
theorem dX9_isBetween_11 : decode cX9_isBetween 11 = .ok (.if_icmp .lt 21, 3) := by decide +kernel
theorem dX9_isBetween_14 : decode cX9_isBetween 14 = .ok (.iload_n 0, 1) := by decide +kernel
theorem dX9_isBetween_15 : decode cX9_isBetween 15 = .ok (.iload_n 1, 1) := by decide +kernel
theorem dX9_isBetween_16 : decode cX9_isBetween 16 = .ok (.iload_n 2, 1) := by decide +kernel
theorem dX9_isBetween_17 : decode cX9_isBetween 17 = .ok (.if_icmp .ge 7, 3) := by decide +kernel
theorem dX9_isBetween_20 : decode cX9_isBetween 20 = .ok (.iload_n 2, 1) := by decide +kernel
theorem dX9_isBetween_21 : decode cX9_isBetween 21 = .ok (.goto 4, 3) := by decide +kernel
theorem dX9_isBetween_24 : decode cX9_isBetween 24 = .ok (.iload_n 1, 1) := by decide +kernel
theorem dX9_isBetween_25 : decode cX9_isBetween 25 = .ok (.if_icmp .gt 7, 3) := by decide +kernel
theorem dX9_isBetween_28 : decode cX9_isBetween 28 = .ok (.iconst 1, 1) := by decide +kernel
theorem dX9_isBetween_29 : decode cX9_isBetween 29 = .ok (.goto 4, 3) := by decide +kernel
theorem dX9_isBetween_32 : decode cX9_isBetween 32 = .ok (.iconst 0, 1) := by decide +kernel
theorem dX9_isBetween_33 : decode cX9_isBetween 33 = .ok (.ireturn, 1) := by decide +kernel
theorem dX9_cross_0 : decode cX9_cross 0 = .ok (.iload_n 0, 1) := by decide +kernel
theorem dX9_cross_1 : decode cX9_cross 1 = .ok (.iload_n 1, 1) := by decide +kernel
theorem dX9_cross_2 : decode cX9_cross 2 = .ok (.iload_n 2, 1) := by decide +kernel
theorem dX9_cross_3 : decode cX9_cross 3 = .ok (.iload_n 3, 1) := by decide +kernel
theorem dX9_cross_4 : decode cX9_cross 4 = .ok (.iload 4, 2) := by decide +kernel
theorem dX9_cross_6 : decode cX9_cross 6 = .ok (.iload 5, 2) := by decide +kernel
theorem dX9_cross_8 : decode cX9_cross 8 = .ok (.invokestatic 172, 3) := by decide +kernel
theorem dX9_cross_11 : decode cX9_cross 11 = .ok (.istore 8, 2) := by decide +kernel
theorem dX9_cross_13 : decode cX9_cross 13 = .ok (.iload_n 0, 1) := by decide +kernel
theorem dX9_cross_14 : decode cX9_cross 14 = .ok (.iload_n 1, 1) := by decide +kernel
theorem dX9_cross_15 : decode cX9_cross 15 = .ok (.iload_n 2, 1) := by decide +kernel
theorem dX9_cross_16 : decode cX9_cross 16 = .ok (.iload_n 3, 1) := by decide +kernel
theorem dX9_cross_17 : decode cX9_cross 17 = .ok (.iload 6, 2) := by decide +kernel
theorem dX9_cross_19 : decode cX9_cross 19 = .ok (.iload 7, 2) := by decide +kernel
theorem dX9_cross_21 : decode cX9_cross 21 = .ok (.invokestatic 172, 3) := by decide +kernel
theorem dX9_cross_24 : decode cX9_cross 24 = .ok (.istore 9, 2) := by decide +kernel
theorem dX9_cross_26 : decode cX9_cross 26 = .ok (.iload 4, 2) := by decide +kernel
theorem dX9_cross_28 : decode cX9_cross 28 = .ok (.iload 5, 2) := by decide +kernel
theorem dX9_cross_30 : decode cX9_cross 30 = .ok (.iload 6, 2) := by decide +kernel
theorem dX9_cross_32 : decode cX9_cross 32 = .ok (.iload 7, 2) := by decide +kernel
theorem dX9_cross_34 : decode cX9_cross 34 = .ok (.iload_n 0, 1) := by decide +kernel
theorem dX9_cross_35 : decode cX9_cross 35 = .ok (.iload_n 1, 1) := by decide +kernel
theorem dX9_cross_36 : decode cX9_cross 36 = .ok (.invokestatic 172, 3) := by decide +kernel
theorem dX9_cross_39 : decode cX9_cross 39 = .ok (.istore 10, 2) := by decide +kernel
theorem dX9_cross_41 : decode cX9_cross 41 = .ok (.iload 4, 2) := by decide +kernel
theorem dX9_cross_43 : decode cX9_cross 43 = .ok (.iload 5, 2) := by decide +kernel
theorem dX9_cross_45 : decode cX9_cross 45 = .ok (.iload 6, 2) := by decide +kernel
theorem dX9_cross_47 : decode cX9_cross 47 = .ok (.iload 7, 2) := by decide +kernel
theorem dX9_cross_49 : decode cX9_cross 49 = .ok (.iload_n 2, 1) := by decide +kernel
theorem dX9_cross_50 : decode cX9_cross 50 = .ok (.iload_n 3, 1) := by decide +kernel
theorem dX9_cross_51 : decode cX9_cross 51 = .ok (.invokestatic 172, 3) := by decide +kernel
theorem dX9_cross_54 : decode cX9_cross 54 = .ok (.istore 11, 2) := by decide +kernel
theorem dX9_cross_56 : decode cX9_cross 56 = .ok (.iload 8, 2) := by decide +kernel
theorem dX9_cross_58 : decode cX9_cross 58 = .ok (.iload 9, 2) := by decide +kernel
theorem dX9_cross_60 : decode cX9_cross 60 = .ok (.if_icmp .eq 40, 3) := by decide +kernel
theorem dX9_cross_63 : decode cX9_cross 63 = .ok (.iload 10, 2) := by decide +kernel
theorem dX9_cross_65 : decode cX9_cross 65 = .ok (.iload 11, 2) := by decide +kernel
theorem dX9_cross_67 : decode cX9_cross 67 = .ok (.if_icmp .eq 33, 3) := by decide +kernel
theorem dX9_cross_70 : decode cX9_cross 70 = .ok (.iload 8, 2) := by decide +kernel
theorem dX9_cross_72 : decode cX9_cross 72 = .ok (.iload 9, 2) := by decide +kernel
theorem dX9_cross_74 : decode cX9_cross 74 = .ok (.imul, 1) := by decide +kernel
theorem dX9_cross_75 : decode cX9_cross 75 = .ok (.ifCond .gt 25, 3) := by decide +kernel
theorem dX9_cross_78 : decode cX9_cross 78 = .ok (.iload 10, 2) := by decide +kernel
theorem dX9_cross_80 : decode cX9_cross 80 = .ok (.iload 11, 2) := by decide +kernel
theorem dX9_cross_82 : decode cX9_cross 82 = .ok (.imul, 1) := by decide +kernel
theorem dX9_cross_83 : decode cX9_cross 83 = .ok (.ifCond .gt 17, 3) := by decide +kernel
theorem dX9_cross_86 : decode cX9_cross 86 = .ok (.iload 8, 2) := by decide +kernel
theorem dX9_cross_88 : decode cX9_cross 88 = .ok (.ifCond .ne 8, 3) := by decide +kernel
theorem dX9_cross_91 : decode cX9_cross 91 = .ok (.iload 9, 2) := by decide +kernel
theorem dX9_cross_93 : decode cX9_cross 93 = .ok (.ifCond .eq 7, 3) := by decide +kernel
theorem dX9_cross_96 : decode cX9_cross 96 = .ok (.iconst 1, 1) := by decide +kernel
theorem dX9_cross_97 : decode cX9_cross 97 = .ok (.goto 4, 3) := by decide +kernel
theorem dX9_cross_100 : decode cX9_cross 100 = .ok (.iconst 0, 1) := by decide +kernel
theorem dX9_cross_101 : decode cX9_cross 101 = .ok (.istore 12, 2) := by decide +kernel
theorem dX9_cross_103 : decode cX9_cross 103 = .ok (.iload 12, 2) := by decide +kernel
theorem dX9_cross_105 : decode cX9_cross 105 = .ok (.ifCond .ne 28, 3) := by decide +kernel
theorem dX9_cross_108 : decode cX9_cross 108 = .ok (.iload 8, 2) := by decide +kernel
theorem dX9_cross_110 : decode cX9_cross 110 = .ok (.ifCond .ne 27, 3) := by decide +kernel
theorem dX9_cross_113 : decode cX9_cross 113 = .ok (.iload 4, 2) := by decide +kernel
theorem dX9_cross_115 : decode cX9_cross 115 = .ok (.iload_n 0, 1) := by decide +kernel
theorem dX9_cross_116 : decode cX9_cross 116 = .ok (.iload_n 2, 1) := by decide +kernel
theorem dX9_cross_117 : decode cX9_cross 117 = .ok (.invokestatic 176, 3) := by decide +kernel
theorem dX9_cross_120 : decode cX9_cross 120 = .ok (.ifCond .eq 17, 3) := by decide +kernel
theorem dX9_cross_123 : decode cX9_cross 123 = .ok (.iload 5, 2) := by decide +kernel
theorem dX9_cross_125 : decode cX9_cross 125 = .ok (.iload_n 1, 1) := by decide +kernel
theorem dX9_cross_126 : decode cX9_cross 126 = .ok (.iload_n 3, 1) := by decide +kernel
theorem dX9_cross_127 : decode cX9_cross 127 = .ok (.invokestatic 176, 3) := by decide +kernel
theorem dX9_cross_130 : decode cX9_cross 130 = .ok (.ifCond .eq 7, 3) := by decide +kernel
theorem dX9_cross_133 : decode cX9_cross 133 = .ok (.iconst 1, 1) := by decide +kernel
theorem dX9_cross_134 : decode cX9_cross 134 = .ok (.goto 4, 3) := by decide +kernel
theorem dX9_cross_137 : decode cX9_cross 137 = .ok (.iconst 0, 1) := by decide +kernel
theorem dX9_cross_138 : decode cX9_cross 138 = .ok (.istore 12, 2) := by decide +kernel
theorem dX9_cross_140 : decode cX9_cross 140 = .ok (.iload 12, 2) := by decide +kernel
theorem dX9_cross_142 : decode cX9_cross 142 = .ok (.ifCond .ne 28, 3) := by decide +kernel
theorem dX9_cross_145 : decode cX9_cross 145 = .ok (.iload 9, 2) := by decide +kernel
theorem dX9_cross_147 : decode cX9_cross 147 = .ok (.ifCond .ne 27, 3) := by decide +kernel
theorem dX9_cross_150 : decode cX9_cross 150 = .ok (.iload 6, 2) := by decide +kernel
theorem dX9_cross_152 : decode cX9_cross 152 = .ok (.iload_n 0, 1) := by decide +kernel
theorem dX9_cross_153 : decode cX9_cross 153 = .ok (.iload_n 2, 1) := by decide +kernel
theorem dX9_cross_154 : decode cX9_cross 154 = .ok (.invokestatic 176, 3) := by decide +kernel
theorem dX9_cross_157 : decode cX9_cross 157 = .ok (.ifCond .eq 17, 3) := by decide +kernel
theorem dX9_cross_160 : decode cX9_cross 160 = .ok (.iload 7, 2) := by decide +kernel
theorem dX9_cross_162 : decode cX9_cross 162 = .ok (.iload_n 1, 1) := by decide +kernel
theorem dX9_cross_163 : decode cX9_cross 163 = .ok (.iload_n 3, 1) := by decide +kernel
theorem dX9_cross_164 : decode cX9_cross 164 = .ok (.invokestatic 176, 3) := by decide +kernel
theorem dX9_cross_167 : decode cX9_cross 167 = .ok (.ifCond .eq 7, 3) := by decide +kernel
theorem dX9_cross_170 : decode cX9_cross 170 = .ok (.iconst 1, 1) := by decide +kernel
theorem dX9_cross_171 : decode cX9_cross 171 = .ok (.goto 4, 3) := by decide +kernel
theorem dX9_cross_174 : decode cX9_cross 174 = .ok (.iconst 0, 1) := by decide +kernel
theorem dX9_cross_175 : decode cX9_cross 175 = .ok (.istore 12, 2) := by decide +kernel
theorem dX9_cross_177 : decode cX9_cross 177 = .ok (.iload 12, 2) := by decide +kernel
theorem dX9_cross_179 : decode cX9_cross 179 = .ok (.ifCond .ne 30, 3) := by decide +kernel
theorem dX9_cross_182 : decode cX9_cross 182 = .ok (.iload 10, 2) := by decide +kernel
theorem dX9_cross_184 : decode cX9_cross 184 = .ok (.ifCond .ne 29, 3) := by decide +kernel
theorem dX9_cross_187 : decode cX9_cross 187 = .ok (.iload_n 0, 1) := by decide +kernel
theorem dX9_cross_188 : decode cX9_cross 188 = .ok (.iload 4, 2) := by decide +kernel
theorem dX9_cross_190 : decode cX9_cross 190 = .ok (.iload 6, 2) := by decide +kernel
theorem dX9_cross_192 : decode cX9_cross 192 = .ok (.invokestatic 176, 3) := by decide +kernel
theorem dX9_cross_195 : decode cX9_cross 195 = .ok (.ifCond .eq 18, 3) := by decide +kernel
theorem dX9_cross_198 : decode cX9_cross 198 = .ok (.iload_n 1, 1) := by decide +kernel
theorem dX9_cross_199 : decode cX9_cross 199 = .ok (.iload 5, 2) := by decide +kernel
theorem dX9_cross_201 : decode cX9_cross 201 = .ok (.iload 7, 2) := by decide +kernel
theorem dX9_cross_203 : decode cX9_cross 203 = .ok (.invokestatic 176, 3) := by decide +kernel
theorem dX9_cross_206 : decode cX9_cross 206 = .ok (.ifCond .eq 7, 3) := by decide +kernel
theorem dX9_cross_209 : decode cX9_cross 209 = .ok (.iconst 1, 1) := by decide +kernel
theorem dX9_cross_210 : decode cX9_cross 210 = .ok (.goto 4, 3) := by decide +kernel
theorem dX9_cross_213 : decode cX9_cross 213 = .ok (.iconst 0, 1) := by decide +kernel
theorem dX9_cross_214 : decode cX9_cross 214 = .ok (.istore 12, 2) := by decide +kernel
theorem dX9_cross_216 : decode cX9_cross 216 = .ok (.iload 12, 2) := by decide +kernel
theorem dX9_cross_218 : decode cX9_cross 218 = .ok (.ifCond .ne 30, 3) := by decide +kernel
theorem dX9_cross_221 : decode cX9_cross 221 = .ok (.iload 11, 2) := by decide +kernel
theorem dX9_cross_223 : decode cX9_cross 223 = .ok (.ifCond .ne 29, 3) := by decide +kernel
theorem dX9_cross_226 : decode cX9_cross 226 = .ok (.iload_n 2, 1) := by decide +kernel
theorem dX9_cross_227 : decode cX9_cross 227 = .ok (.iload 4, 2) := by decide +kernel
theorem dX9_cross_229 : decode cX9_cross 229 = .ok (.iload 6, 2) := by decide +kernel
theorem dX9_cross_231 : decode cX9_cross 231 = .ok (.invokestatic 176, 3) := by decide +kernel
theorem dX9_cross_234 : decode cX9_cross 234 = .ok (.ifCond .eq 18, 3) := by decide +kernel
theorem dX9_cross_237 : decode cX9_cross 237 = .ok (.iload_n 3, 1) := by decide +kernel
theorem dX9_cross_238 : decode cX9_cross 238 = .ok (.iload 5, 2) := by decide +kernel
theorem dX9_cross_240 : decode cX9_cross 240 = .ok (.iload 7, 2) := by decide +kernel
theorem dX9_cross_242 : decode cX9_cross 242 = .ok (.invokestatic 176, 3) := by decide +kernel
theorem dX9_cross_245 : decode cX9_cross 245 = .ok (.ifCond .eq 7, 3) := by decide +kernel
theorem dX9_cross_248 : decode cX9_cross 248 = .ok (.iconst 1, 1) := by decide +kernel
theorem dX9_cross_249 : decode cX9_cross 249 = .ok (.goto 4, 3) := by decide +kernel
theorem dX9_cross_252 : decode cX9_cross 252 = .ok (.iconst 0, 1) := by decide +kernel
theorem dX9_cross_253 : decode cX9_cross 253 = .ok (.ireturn, 1) := by decide +kernel
theorem dX9_hitsBox_0 : decode cX9_hitsBox 0 = .ok (.aload_n 0, 1) := by decide +kernel
theorem dX9_hitsBox_1 : decode cX9_hitsBox 1 = .ok (.getfield 65, 3) := by decide +kernel
theorem dX9_hitsBox_4 : decode cX9_hitsBox 4 = .ok (.iload 5, 2) := by decide +kernel
theorem dX9_hitsBox_6 : decode cX9_hitsBox 6 = .ok (.iaload, 1) := by decide +kernel
theorem dX9_hitsBox_7 : decode cX9_hitsBox 7 = .ok (.istore 6, 2) := by decide +kernel
theorem dX9_hitsBox_9 : decode cX9_hitsBox 9 = .ok (.aload_n 0, 1) := by decide +kernel
theorem dX9_hitsBox_10 : decode cX9_hitsBox 10 = .ok (.getfield 65, 3) := by decide +kernel
theorem dX9_hitsBox_13 : decode cX9_hitsBox 13 = .ok (.iload 5, 2) := by decide +kernel
theorem dX9_hitsBox_15 : decode cX9_hitsBox 15 = .ok (.iaload, 1) := by decide +kernel
theorem dX9_hitsBox_16 : decode cX9_hitsBox 16 = .ok (.aload_n 0, 1) := by decide +kernel
theorem dX9_hitsBox_17 : decode cX9_hitsBox 17 = .ok (.getfield 71, 3) := by decide +kernel
theorem dX9_hitsBox_20 : decode cX9_hitsBox 20 = .ok (.iload 5, 2) := by decide +kernel
theorem dX9_hitsBox_22 : decode cX9_hitsBox 22 = .ok (.iaload, 1) := by decide +kernel
theorem dX9_hitsBox_23 : decode cX9_hitsBox 23 = .ok (.iadd, 1) := by decide +kernel
theorem dX9_hitsBox_24 : decode cX9_hitsBox 24 = .ok (.istore 7, 2) := by decide +kernel
theorem dX9_hitsBox_26 : decode cX9_hitsBox 26 = .ok (.aload_n 0, 1) := by decide +kernel
theorem dX9_hitsBox_27 : decode cX9_hitsBox 27 = .ok (.getfield 68, 3) := by decide +kernel
theorem dX9_hitsBox_30 : decode cX9_hitsBox 30 = .ok (.iload 5, 2) := by decide +kernel
theorem dX9_hitsBox_32 : decode cX9_hitsBox 32 = .ok (.iaload, 1) := by decide +kernel
theorem dX9_hitsBox_33 : decode cX9_hitsBox 33 = .ok (.istore 8, 2) := by decide +kernel
theorem dX9_hitsBox_35 : decode cX9_hitsBox 35 = .ok (.aload_n 0, 1) := by decide +kernel
theorem dX9_hitsBox_36 : decode cX9_hitsBox 36 = .ok (.getfield 68, 3) := by decide +kernel
theorem dX9_hitsBox_39 : decode cX9_hitsBox 39 = .ok (.iload 5, 2) := by decide +kernel
theorem dX9_hitsBox_41 : decode cX9_hitsBox 41 = .ok (.iaload, 1) := by decide +kernel
theorem dX9_hitsBox_42 : decode cX9_hitsBox 42 = .ok (.aload_n 0, 1) := by decide +kernel
theorem dX9_hitsBox_43 : decode cX9_hitsBox 43 = .ok (.getfield 74, 3) := by decide +kernel
theorem dX9_hitsBox_46 : decode cX9_hitsBox 46 = .ok (.iload 5, 2) := by decide +kernel
theorem dX9_hitsBox_48 : decode cX9_hitsBox 48 = .ok (.iaload, 1) := by decide +kernel
theorem dX9_hitsBox_49 : decode cX9_hitsBox 49 = .ok (.iadd, 1) := by decide +kernel
theorem dX9_hitsBox_50 : decode cX9_hitsBox 50 = .ok (.istore 9, 2) := by decide +kernel
theorem dX9_hitsBox_52 : decode cX9_hitsBox 52 = .ok (.iload_n 1, 1) := by decide +kernel
theorem dX9_hitsBox_53 : decode cX9_hitsBox 53 = .ok (.iload 6, 2) := by decide +kernel
theorem dX9_hitsBox_55 : decode cX9_hitsBox 55 = .ok (.iload 7, 2) := by decide +kernel
theorem dX9_hitsBox_57 : decode cX9_hitsBox 57 = .ok (.invokestatic 176, 3) := by decide +kernel
theorem dX9_hitsBox_60 : decode cX9_hitsBox 60 = .ok (.ifCond .eq 14, 3) := by decide +kernel
theorem dX9_hitsBox_63 : decode cX9_hitsBox 63 = .ok (.iload_n 2, 1) := by decide +kernel
theorem dX9_hitsBox_64 : decode cX9_hitsBox 64 = .ok (.iload 8, 2) := by decide +kernel
theorem dX9_hitsBox_66 : decode cX9_hitsBox 66 = .ok (.iload 9, 2) := by decide +kernel
theorem dX9_hitsBox_68 : decode cX9_hitsBox 68 = .ok (.invokestatic 176, 3) := by decide +kernel
theorem dX9_hitsBox_71 : decode cX9_hitsBox 71 = .ok (.ifCond .ne 26, 3) := by decide +kernel
theorem dX9_hitsBox_74 : decode cX9_hitsBox 74 = .ok (.iload_n 3, 1) := by decide +kernel
theorem dX9_hitsBox_75 : decode cX9_hitsBox 75 = .ok (.iload 6, 2) := by decide +kernel
theorem dX9_hitsBox_77 : decode cX9_hitsBox 77 = .ok (.iload 7, 2) := by decide +kernel
theorem dX9_hitsBox_79 : decode cX9_hitsBox 79 = .ok (.invokestatic 176, 3) := by decide +kernel
theorem dX9_hitsBox_82 : decode cX9_hitsBox 82 = .ok (.ifCond .eq 19, 3) := by decide +kernel
theorem dX9_hitsBox_85 : decode cX9_hitsBox 85 = .ok (.iload 4, 2) := by decide +kernel
theorem dX9_hitsBox_87 : decode cX9_hitsBox 87 = .ok (.iload 8, 2) := by decide +kernel
theorem dX9_hitsBox_89 : decode cX9_hitsBox 89 = .ok (.iload 9, 2) := by decide +kernel
theorem dX9_hitsBox_91 : decode cX9_hitsBox 91 = .ok (.invokestatic 176, 3) := by decide +kernel
theorem dX9_hitsBox_94 : decode cX9_hitsBox 94 = .ok (.ifCond .eq 7, 3) := by decide +kernel
theorem dX9_hitsBox_97 : decode cX9_hitsBox 97 = .ok (.iconst 1, 1) := by decide +kernel
theorem dX9_hitsBox_98 : decode cX9_hitsBox 98 = .ok (.goto 4, 3) := by decide +kernel
theorem dX9_hitsBox_101 : decode cX9_hitsBox 101 = .ok (.iconst 0, 1) := by decide +kernel
theorem dX9_hitsBox_102 : decode cX9_hitsBox 102 = .ok (.istore 10, 2) := by decide +kernel
theorem dX9_hitsBox_104 : decode cX9_hitsBox 104 = .ok (.iload 10, 2) := by decide +kernel
theorem dX9_hitsBox_106 : decode cX9_hitsBox 106 = .ok (.ifCond .ne 41, 3) := by decide +kernel
theorem dX9_hitsBox_109 : decode cX9_hitsBox 109 = .ok (.iload_n 1, 1) := by decide +kernel
theorem dX9_hitsBox_110 : decode cX9_hitsBox 110 = .ok (.iload_n 2, 1) := by decide +kernel
theorem dX9_hitsBox_111 : decode cX9_hitsBox 111 = .ok (.iload_n 3, 1) := by decide +kernel
theorem dX9_hitsBox_112 : decode cX9_hitsBox 112 = .ok (.iload 4, 2) := by decide +kernel
theorem dX9_hitsBox_114 : decode cX9_hitsBox 114 = .ok (.iload 6, 2) := by decide +kernel
theorem dX9_hitsBox_116 : decode cX9_hitsBox 116 = .ok (.iload 8, 2) := by decide +kernel
theorem dX9_hitsBox_118 : decode cX9_hitsBox 118 = .ok (.iload 7, 2) := by decide +kernel
theorem dX9_hitsBox_120 : decode cX9_hitsBox 120 = .ok (.iload 8, 2) := by decide +kernel
theorem dX9_hitsBox_122 : decode cX9_hitsBox 122 = .ok (.invokestatic 179, 3) := by decide +kernel
theorem dX9_hitsBox_125 : decode cX9_hitsBox 125 = .ok (.ifCond .ne 22, 3) := by decide +kernel
theorem dX9_hitsBox_128 : decode cX9_hitsBox 128 = .ok (.iload_n 1, 1) := by decide +kernel
theorem dX9_hitsBox_129 : decode cX9_hitsBox 129 = .ok (.iload_n 2, 1) := by decide +kernel
theorem dX9_hitsBox_130 : decode cX9_hitsBox 130 = .ok (.iload_n 3, 1) := by decide +kernel
theorem dX9_hitsBox_131 : decode cX9_hitsBox 131 = .ok (.iload 4, 2) := by decide +kernel
theorem dX9_hitsBox_133 : decode cX9_hitsBox 133 = .ok (.iload 6, 2) := by decide +kernel
theorem dX9_hitsBox_135 : decode cX9_hitsBox 135 = .ok (.iload 9, 2) := by decide +kernel
theorem dX9_hitsBox_137 : decode cX9_hitsBox 137 = .ok (.iload 7, 2) := by decide +kernel
theorem dX9_hitsBox_139 : decode cX9_hitsBox 139 = .ok (.iload 9, 2) := by decide +kernel
theorem dX9_hitsBox_141 : decode cX9_hitsBox 141 = .ok (.invokestatic 179, 3) := by decide +kernel
theorem dX9_hitsBox_144 : decode cX9_hitsBox 144 = .ok (.ifCond .eq 7, 3) := by decide +kernel
theorem dX9_hitsBox_147 : decode cX9_hitsBox 147 = .ok (.iconst 1, 1) := by decide +kernel
theorem dX9_hitsBox_148 : decode cX9_hitsBox 148 = .ok (.goto 4, 3) := by decide +kernel
theorem dX9_hitsBox_151 : decode cX9_hitsBox 151 = .ok (.iconst 0, 1) := by decide +kernel
theorem dX9_hitsBox_152 : decode cX9_hitsBox 152 = .ok (.istore 10, 2) := by decide +kernel
theorem dX9_hitsBox_154 : decode cX9_hitsBox 154 = .ok (.iload 10, 2) := by decide +kernel
theorem dX9_hitsBox_156 : decode cX9_hitsBox 156 = .ok (.ifCond .ne 41, 3) := by decide +kernel
theorem dX9_hitsBox_159 : decode cX9_hitsBox 159 = .ok (.iload_n 1, 1) := by decide +kernel
theorem dX9_hitsBox_160 : decode cX9_hitsBox 160 = .ok (.iload_n 2, 1) := by decide +kernel
theorem dX9_hitsBox_161 : decode cX9_hitsBox 161 = .ok (.iload_n 3, 1) := by decide +kernel
theorem dX9_hitsBox_162 : decode cX9_hitsBox 162 = .ok (.iload 4, 2) := by decide +kernel
theorem dX9_hitsBox_164 : decode cX9_hitsBox 164 = .ok (.iload 6, 2) := by decide +kernel
theorem dX9_hitsBox_166 : decode cX9_hitsBox 166 = .ok (.iload 8, 2) := by decide +kernel
theorem dX9_hitsBox_168 : decode cX9_hitsBox 168 = .ok (.iload 6, 2) := by decide +kernel
theorem dX9_hitsBox_170 : decode cX9_hitsBox 170 = .ok (.iload 9, 2) := by decide +kernel
theorem dX9_hitsBox_172 : decode cX9_hitsBox 172 = .ok (.invokestatic 179, 3) := by decide +kernel
theorem dX9_hitsBox_175 : decode cX9_hitsBox 175 = .ok (.ifCond .ne 22, 3) := by decide +kernel
theorem dX9_hitsBox_178 : decode cX9_hitsBox 178 = .ok (.iload_n 1, 1) := by decide +kernel
theorem dX9_hitsBox_179 : decode cX9_hitsBox 179 = .ok (.iload_n 2, 1) := by decide +kernel
theorem dX9_hitsBox_180 : decode cX9_hitsBox 180 = .ok (.iload_n 3, 1) := by decide +kernel
theorem dX9_hitsBox_181 : decode cX9_hitsBox 181 = .ok (.iload 4, 2) := by decide +kernel
theorem dX9_hitsBox_183 : decode cX9_hitsBox 183 = .ok (.iload 7, 2) := by decide +kernel
theorem dX9_hitsBox_185 : decode cX9_hitsBox 185 = .ok (.iload 8, 2) := by decide +kernel
theorem dX9_hitsBox_187 : decode cX9_hitsBox 187 = .ok (.iload 7, 2) := by decide +kernel
theorem dX9_hitsBox_189 : decode cX9_hitsBox 189 = .ok (.iload 9, 2) := by decide +kernel
theorem dX9_hitsBox_191 : decode cX9_hitsBox 191 = .ok (.invokestatic 179, 3) := by decide +kernel
theorem dX9_hitsBox_194 : decode cX9_hitsBox 194 = .ok (.ifCond .eq 7, 3) := by decide +kernel
theorem dX9_hitsBox_197 : decode cX9_hitsBox 197 = .ok (.iconst 1, 1) := by decide +kernel
theorem dX9_hitsBox_198 : decode cX9_hitsBox 198 = .ok (.goto 4, 3) := by decide +kernel
theorem dX9_hitsBox_201 : decode cX9_hitsBox 201 = .ok (.iconst 0, 1) := by decide +kernel
theorem dX9_hitsBox_202 : decode cX9_hitsBox 202 = .ok (.ireturn, 1) := by decide +kernel
theorem dX9_runAlong_0 : decode cX9_runAlong 0 = .ok (.iload_n 0, 1) := by decide +kernel
theorem dX9_runAlong_1 : decode cX9_runAlong 1 = .ok (.iload 4, 2) := by decide +kernel
theorem dX9_runAlong_3 : decode cX9_runAlong 3 = .ok (.isub, 1) := by decide +kernel
theorem dX9_runAlong_4 : decode cX9_runAlong 4 = .ok (.iload_n 2, 1) := by decide +kernel
theorem dX9_runAlong_5 : decode cX9_runAlong 5 = .ok (.iload 4, 2) := by decide +kernel
theorem dX9_runAlong_7 : decode cX9_runAlong 7 = .ok (.isub, 1) := by decide +kernel
theorem dX9_runAlong_8 : decode cX9_runAlong 8 = .ok (.imul, 1) := by decide +kernel
theorem dX9_runAlong_9 : decode cX9_runAlong 9 = .ok (.iload_n 1, 1) := by decide +kernel
theorem dX9_runAlong_10 : decode cX9_runAlong 10 = .ok (.iload 5, 2) := by decide +kernel
theorem dX9_runAlong_12 : decode cX9_runAlong 12 = .ok (.isub, 1) := by decide +kernel
theorem dX9_runAlong_13 : decode cX9_runAlong 13 = .ok (.iload_n 3, 1) := by decide +kernel
theorem dX9_runAlong_14 : decode cX9_runAlong 14 = .ok (.iload 5, 2) := by decide +kernel
theorem dX9_runAlong_16 : decode cX9_runAlong 16 = .ok (.isub, 1) := by decide +kernel
theorem dX9_runAlong_17 : decode cX9_runAlong 17 = .ok (.imul, 1) := by decide +kernel
theorem dX9_runAlong_18 : decode cX9_runAlong 18 = .ok (.iadd, 1) := by decide +kernel
theorem dX9_runAlong_19 : decode cX9_runAlong 19 = .ok (.istore 6, 2) := by decide +kernel
theorem dX9_runAlong_21 : decode cX9_runAlong 21 = .ok (.iload 4, 2) := by decide +kernel
theorem dX9_runAlong_23 : decode cX9_runAlong 23 = .ok (.iload 5, 2) := by decide +kernel
theorem dX9_runAlong_25 : decode cX9_runAlong 25 = .ok (.iload_n 0, 1) := by decide +kernel
theorem dX9_runAlong_26 : decode cX9_runAlong 26 = .ok (.iload_n 1, 1) := by decide +kernel
theorem dX9_runAlong_27 : decode cX9_runAlong 27 = .ok (.iload_n 2, 1) := by decide +kernel
theorem dX9_runAlong_28 : decode cX9_runAlong 28 = .ok (.iload_n 3, 1) := by decide +kernel
theorem dX9_runAlong_29 : decode cX9_runAlong 29 = .ok (.invokestatic 172, 3) := by decide +kernel
theorem dX9_runAlong_32 : decode cX9_runAlong 32 = .ok (.ifCond .ne 12, 3) := by decide +kernel
theorem dX9_runAlong_35 : decode cX9_runAlong 35 = .ok (.iload 6, 2) := by decide +kernel
theorem dX9_runAlong_37 : decode cX9_runAlong 37 = .ok (.ifCond .le 7, 3) := by decide +kernel
theorem dX9_runAlong_40 : decode cX9_runAlong 40 = .ok (.iconst 1, 1) := by decide +kernel
theorem dX9_runAlong_41 : decode cX9_runAlong 41 = .ok (.goto 4, 3) := by decide +kernel
theorem dX9_runAlong_44 : decode cX9_runAlong 44 = .ok (.iconst 0, 1) := by decide +kernel
theorem dX9_runAlong_45 : decode cX9_runAlong 45 = .ok (.ireturn, 1) := by decide +kernel
theorem dX9_isTangled_0 : decode cX9_isTangled 0 = .ok (.bipush 20, 2) := by decide +kernel
theorem dX9_isTangled_2 : decode cX9_isTangled 2 = .ok (.iload_n 1, 1) := by decide +kernel
theorem dX9_isTangled_3 : decode cX9_isTangled 3 = .ok (.imul, 1) := by decide +kernel
theorem dX9_isTangled_4 : decode cX9_isTangled 4 = .ok (.iload_n 2, 1) := by decide +kernel
theorem dX9_isTangled_5 : decode cX9_isTangled 5 = .ok (.iadd, 1) := by decide +kernel
theorem dX9_isTangled_6 : decode cX9_isTangled 6 = .ok (.istore_n 3, 1) := by decide +kernel
theorem dX9_isTangled_7 : decode cX9_isTangled 7 = .ok (.aload_n 0, 1) := by decide +kernel
theorem dX9_isTangled_8 : decode cX9_isTangled 8 = .ok (.iload_n 1, 1) := by decide +kernel
theorem dX9_isTangled_9 : decode cX9_isTangled 9 = .ok (.iload_n 2, 1) := by decide +kernel
theorem dX9_isTangled_10 : decode cX9_isTangled 10 = .ok (.invokevirtual 183, 3) := by decide +kernel
theorem dX9_isTangled_13 : decode cX9_isTangled 13 = .ok (.istore 4, 2) := by decide +kernel
theorem dX9_isTangled_15 : decode cX9_isTangled 15 = .ok (.iload 4, 2) := by decide +kernel
theorem dX9_isTangled_17 : decode cX9_isTangled 17 = .ok (.iconst (-1), 1) := by decide +kernel
theorem dX9_isTangled_18 : decode cX9_isTangled 18 = .ok (.if_icmp .ne 5, 3) := by decide +kernel
theorem dX9_isTangled_21 : decode cX9_isTangled 21 = .ok (.iconst 0, 1) := by decide +kernel
theorem dX9_isTangled_22 : decode cX9_isTangled 22 = .ok (.ireturn, 1) := by decide +kernel
theorem dX9_isTangled_23 : decode cX9_isTangled 23 = .ok (.aload_n 0, 1) := by decide +kernel
theorem dX9_isTangled_24 : decode cX9_isTangled 24 = .ok (.getfield 65, 3) := by decide +kernel
theorem dX9_isTangled_27 : decode cX9_isTangled 27 = .ok (.iload_n 3, 1) := by decide +kernel
theorem dX9_isTangled_28 : decode cX9_isTangled 28 = .ok (.iaload, 1) := by decide +kernel
theorem dX9_isTangled_29 : decode cX9_isTangled 29 = .ok (.aload_n 0, 1) := by decide +kernel
theorem dX9_isTangled_30 : decode cX9_isTangled 30 = .ok (.getfield 71, 3) := by decide +kernel
theorem dX9_isTangled_33 : decode cX9_isTangled 33 = .ok (.iload_n 3, 1) := by decide +kernel
theorem dX9_isTangled_34 : decode cX9_isTangled 34 = .ok (.iaload, 1) := by decide +kernel
theorem dX9_isTangled_35 : decode cX9_isTangled 35 = .ok (.iconst 2, 1) := by decide +kernel
theorem dX9_isTangled_36 : decode cX9_isTangled 36 = .ok (.idiv, 1) := by decide +kernel
theorem dX9_isTangled_37 : decode cX9_isTangled 37 = .ok (.iadd, 1) := by decide +kernel
theorem dX9_isTangled_38 : decode cX9_isTangled 38 = .ok (.istore 5, 2) := by decide +kernel
theorem dX9_isTangled_40 : decode cX9_isTangled 40 = .ok (.aload_n 0, 1) := by decide +kernel
theorem dX9_isTangled_41 : decode cX9_isTangled 41 = .ok (.getfield 68, 3) := by decide +kernel
theorem dX9_isTangled_44 : decode cX9_isTangled 44 = .ok (.iload_n 3, 1) := by decide +kernel
theorem dX9_isTangled_45 : decode cX9_isTangled 45 = .ok (.iaload, 1) := by decide +kernel
theorem dX9_isTangled_46 : decode cX9_isTangled 46 = .ok (.aload_n 0, 1) := by decide +kernel
theorem dX9_isTangled_47 : decode cX9_isTangled 47 = .ok (.getfield 74, 3) := by decide +kernel
theorem dX9_isTangled_50 : decode cX9_isTangled 50 = .ok (.iload_n 3, 1) := by decide +kernel
theorem dX9_isTangled_51 : decode cX9_isTangled 51 = .ok (.iaload, 1) := by decide +kernel
theorem dX9_isTangled_52 : decode cX9_isTangled 52 = .ok (.iconst 2, 1) := by decide +kernel
theorem dX9_isTangled_53 : decode cX9_isTangled 53 = .ok (.idiv, 1) := by decide +kernel
theorem dX9_isTangled_54 : decode cX9_isTangled 54 = .ok (.iadd, 1) := by decide +kernel
theorem dX9_isTangled_55 : decode cX9_isTangled 55 = .ok (.istore 6, 2) := by decide +kernel
theorem dX9_isTangled_57 : decode cX9_isTangled 57 = .ok (.aload_n 0, 1) := by decide +kernel
theorem dX9_isTangled_58 : decode cX9_isTangled 58 = .ok (.getfield 47, 3) := by decide +kernel
theorem dX9_isTangled_61 : decode cX9_isTangled 61 = .ok (.iload 4, 2) := by decide +kernel
theorem dX9_isTangled_63 : decode cX9_isTangled 63 = .ok (.iaload, 1) := by decide +kernel
theorem dX9_isTangled_64 : decode cX9_isTangled 64 = .ok (.aload_n 0, 1) := by decide +kernel
theorem dX9_isTangled_65 : decode cX9_isTangled 65 = .ok (.getfield 53, 3) := by decide +kernel
theorem dX9_isTangled_68 : decode cX9_isTangled 68 = .ok (.iload 4, 2) := by decide +kernel
theorem dX9_isTangled_70 : decode cX9_isTangled 70 = .ok (.iaload, 1) := by decide +kernel
theorem dX9_isTangled_71 : decode cX9_isTangled 71 = .ok (.iconst 2, 1) := by decide +kernel
theorem dX9_isTangled_72 : decode cX9_isTangled 72 = .ok (.idiv, 1) := by decide +kernel
theorem dX9_isTangled_73 : decode cX9_isTangled 73 = .ok (.iadd, 1) := by decide +kernel
theorem dX9_isTangled_74 : decode cX9_isTangled 74 = .ok (.istore 7, 2) := by decide +kernel
theorem dX9_isTangled_76 : decode cX9_isTangled 76 = .ok (.aload_n 0, 1) := by decide +kernel
theorem dX9_isTangled_77 : decode cX9_isTangled 77 = .ok (.getfield 50, 3) := by decide +kernel
theorem dX9_isTangled_80 : decode cX9_isTangled 80 = .ok (.iload 4, 2) := by decide +kernel
theorem dX9_isTangled_82 : decode cX9_isTangled 82 = .ok (.iaload, 1) := by decide +kernel
theorem dX9_isTangled_83 : decode cX9_isTangled 83 = .ok (.aload_n 0, 1) := by decide +kernel
theorem dX9_isTangled_84 : decode cX9_isTangled 84 = .ok (.getfield 53, 3) := by decide +kernel
theorem dX9_isTangled_87 : decode cX9_isTangled 87 = .ok (.iload 4, 2) := by decide +kernel
theorem dX9_isTangled_89 : decode cX9_isTangled 89 = .ok (.iaload, 1) := by decide +kernel
theorem dX9_isTangled_90 : decode cX9_isTangled 90 = .ok (.iconst 2, 1) := by decide +kernel
theorem dX9_isTangled_91 : decode cX9_isTangled 91 = .ok (.idiv, 1) := by decide +kernel
theorem dX9_isTangled_92 : decode cX9_isTangled 92 = .ok (.iadd, 1) := by decide +kernel
theorem dX9_isTangled_93 : decode cX9_isTangled 93 = .ok (.istore 8, 2) := by decide +kernel
theorem dX9_isTangled_95 : decode cX9_isTangled 95 = .ok (.iconst 0, 1) := by decide +kernel
theorem dX9_isTangled_96 : decode cX9_isTangled 96 = .ok (.istore 9, 2) := by decide +kernel
theorem dX9_isTangled_98 : decode cX9_isTangled 98 = .ok (.iconst 0, 1) := by decide +kernel
theorem dX9_isTangled_99 : decode cX9_isTangled 99 = .ok (.istore 10, 2) := by decide +kernel
theorem dX9_isTangled_101 : decode cX9_isTangled 101 = .ok (.iload 10, 2) := by decide +kernel
theorem dX9_isTangled_103 : decode cX9_isTangled 103 = .ok (.aload_n 0, 1) := by decide +kernel
theorem dX9_isTangled_104 : decode cX9_isTangled 104 = .ok (.getfield 17, 3) := by decide +kernel
theorem dX9_isTangled_107 : decode cX9_isTangled 107 = .ok (.iload_n 1, 1) := by decide +kernel
theorem dX9_isTangled_108 : decode cX9_isTangled 108 = .ok (.iaload, 1) := by decide +kernel
theorem dX9_isTangled_109 : decode cX9_isTangled 109 = .ok (.if_icmp .ge 226, 3) := by decide +kernel
theorem dX9_isTangled_112 : decode cX9_isTangled 112 = .ok (.bipush 20, 2) := by decide +kernel
theorem dX9_isTangled_114 : decode cX9_isTangled 114 = .ok (.iload_n 1, 1) := by decide +kernel
theorem dX9_isTangled_115 : decode cX9_isTangled 115 = .ok (.imul, 1) := by decide +kernel
theorem dX9_isTangled_116 : decode cX9_isTangled 116 = .ok (.iload 10, 2) := by decide +kernel
theorem dX9_isTangled_118 : decode cX9_isTangled 118 = .ok (.iadd, 1) := by decide +kernel
theorem dX9_isTangled_119 : decode cX9_isTangled 119 = .ok (.istore 11, 2) := by decide +kernel
theorem dX9_isTangled_121 : decode cX9_isTangled 121 = .ok (.iload 10, 2) := by decide +kernel
theorem dX9_isTangled_123 : decode cX9_isTangled 123 = .ok (.iload_n 2, 1) := by decide +kernel
theorem dX9_isTangled_124 : decode cX9_isTangled 124 = .ok (.if_icmp .eq 205, 3) := by decide +kernel
theorem dX9_isTangled_127 : decode cX9_isTangled 127 = .ok (.aload_n 0, 1) := by decide +kernel
theorem dX9_isTangled_128 : decode cX9_isTangled 128 = .ok (.getfield 62, 3) := by decide +kernel
theorem dX9_isTangled_131 : decode cX9_isTangled 131 = .ok (.iload 11, 2) := by decide +kernel
theorem dX9_isTangled_133 : decode cX9_isTangled 133 = .ok (.iaload, 1) := by decide +kernel
theorem dX9_isTangled_134 : decode cX9_isTangled 134 = .ok (.aload_n 0, 1) := by decide +kernel
theorem dX9_isTangled_135 : decode cX9_isTangled 135 = .ok (.getfield 62, 3) := by decide +kernel
theorem dX9_isTangled_138 : decode cX9_isTangled 138 = .ok (.iload_n 3, 1) := by decide +kernel
theorem dX9_isTangled_139 : decode cX9_isTangled 139 = .ok (.iaload, 1) := by decide +kernel
theorem dX9_isTangled_140 : decode cX9_isTangled 140 = .ok (.if_icmp .ne 189, 3) := by decide +kernel
theorem dX9_isTangled_143 : decode cX9_isTangled 143 = .ok (.aload_n 0, 1) := by decide +kernel
theorem dX9_isTangled_144 : decode cX9_isTangled 144 = .ok (.iload_n 1, 1) := by decide +kernel
theorem dX9_isTangled_145 : decode cX9_isTangled 145 = .ok (.iload 10, 2) := by decide +kernel
theorem dX9_isTangled_147 : decode cX9_isTangled 147 = .ok (.invokevirtual 183, 3) := by decide +kernel
theorem dX9_isTangled_150 : decode cX9_isTangled 150 = .ok (.istore 12, 2) := by decide +kernel
theorem dX9_isTangled_152 : decode cX9_isTangled 152 = .ok (.aload_n 0, 1) := by decide +kernel
theorem dX9_isTangled_153 : decode cX9_isTangled 153 = .ok (.getfield 65, 3) := by decide +kernel
theorem dX9_isTangled_156 : decode cX9_isTangled 156 = .ok (.iload 11, 2) := by decide +kernel
theorem dX9_isTangled_158 : decode cX9_isTangled 158 = .ok (.iaload, 1) := by decide +kernel
theorem dX9_isTangled_159 : decode cX9_isTangled 159 = .ok (.aload_n 0, 1) := by decide +kernel
theorem dX9_isTangled_160 : decode cX9_isTangled 160 = .ok (.getfield 71, 3) := by decide +kernel
theorem dX9_isTangled_163 : decode cX9_isTangled 163 = .ok (.iload 11, 2) := by decide +kernel
theorem dX9_isTangled_165 : decode cX9_isTangled 165 = .ok (.iaload, 1) := by decide +kernel
theorem dX9_isTangled_166 : decode cX9_isTangled 166 = .ok (.iconst 2, 1) := by decide +kernel
theorem dX9_isTangled_167 : decode cX9_isTangled 167 = .ok (.idiv, 1) := by decide +kernel
theorem dX9_isTangled_168 : decode cX9_isTangled 168 = .ok (.iadd, 1) := by decide +kernel
theorem dX9_isTangled_169 : decode cX9_isTangled 169 = .ok (.istore 13, 2) := by decide +kernel
theorem dX9_isTangled_171 : decode cX9_isTangled 171 = .ok (.aload_n 0, 1) := by decide +kernel
theorem dX9_isTangled_172 : decode cX9_isTangled 172 = .ok (.getfield 68, 3) := by decide +kernel
theorem dX9_isTangled_175 : decode cX9_isTangled 175 = .ok (.iload 11, 2) := by decide +kernel
theorem dX9_isTangled_177 : decode cX9_isTangled 177 = .ok (.iaload, 1) := by decide +kernel
theorem dX9_isTangled_178 : decode cX9_isTangled 178 = .ok (.aload_n 0, 1) := by decide +kernel
theorem dX9_isTangled_179 : decode cX9_isTangled 179 = .ok (.getfield 74, 3) := by decide +kernel
theorem dX9_isTangled_182 : decode cX9_isTangled 182 = .ok (.iload 11, 2) := by decide +kernel
theorem dX9_isTangled_184 : decode cX9_isTangled 184 = .ok (.iaload, 1) := by decide +kernel
theorem dX9_isTangled_185 : decode cX9_isTangled 185 = .ok (.iconst 2, 1) := by decide +kernel
theorem dX9_isTangled_186 : decode cX9_isTangled 186 = .ok (.idiv, 1) := by decide +kernel
theorem dX9_isTangled_187 : decode cX9_isTangled 187 = .ok (.iadd, 1) := by decide +kernel
theorem dX9_isTangled_188 : decode cX9_isTangled 188 = .ok (.istore 14, 2) := by decide +kernel
theorem dX9_isTangled_190 : decode cX9_isTangled 190 = .ok (.iload 9, 2) := by decide +kernel
theorem dX9_isTangled_192 : decode cX9_isTangled 192 = .ok (.ifCond .ne 20, 3) := by decide +kernel
theorem dX9_isTangled_195 : decode cX9_isTangled 195 = .ok (.aload_n 0, 1) := by decide +kernel
theorem dX9_isTangled_196 : decode cX9_isTangled 196 = .ok (.iload 5, 2) := by decide +kernel
theorem dX9_isTangled_198 : decode cX9_isTangled 198 = .ok (.iload 6, 2) := by decide +kernel
theorem dX9_isTangled_200 : decode cX9_isTangled 200 = .ok (.iload 7, 2) := by decide +kernel
theorem dX9_isTangled_202 : decode cX9_isTangled 202 = .ok (.iload 8, 2) := by decide +kernel
theorem dX9_isTangled_204 : decode cX9_isTangled 204 = .ok (.iload 11, 2) := by decide +kernel
theorem dX9_isTangled_206 : decode cX9_isTangled 206 = .ok (.invokevirtual 187, 3) := by decide +kernel
theorem dX9_isTangled_209 : decode cX9_isTangled 209 = .ok (.ifCond .eq 7, 3) := by decide +kernel
theorem dX9_isTangled_212 : decode cX9_isTangled 212 = .ok (.iconst 1, 1) := by decide +kernel
theorem dX9_isTangled_213 : decode cX9_isTangled 213 = .ok (.goto 4, 3) := by decide +kernel
theorem dX9_isTangled_216 : decode cX9_isTangled 216 = .ok (.iconst 0, 1) := by decide +kernel
theorem dX9_isTangled_217 : decode cX9_isTangled 217 = .ok (.istore 9, 2) := by decide +kernel
theorem dX9_isTangled_219 : decode cX9_isTangled 219 = .ok (.iload 12, 2) := by decide +kernel
theorem dX9_isTangled_221 : decode cX9_isTangled 221 = .ok (.iload 4, 2) := by decide +kernel
theorem dX9_isTangled_223 : decode cX9_isTangled 223 = .ok (.if_icmp .ne 36, 3) := by decide +kernel
theorem dX9_isTangled_226 : decode cX9_isTangled 226 = .ok (.iload 9, 2) := by decide +kernel
theorem dX9_isTangled_228 : decode cX9_isTangled 228 = .ok (.ifCond .ne 21, 3) := by decide +kernel
theorem dX9_isTangled_231 : decode cX9_isTangled 231 = .ok (.iload 5, 2) := by decide +kernel
theorem dX9_isTangled_233 : decode cX9_isTangled 233 = .ok (.iload 6, 2) := by decide +kernel
theorem dX9_isTangled_235 : decode cX9_isTangled 235 = .ok (.iload 13, 2) := by decide +kernel
theorem dX9_isTangled_237 : decode cX9_isTangled 237 = .ok (.iload 14, 2) := by decide +kernel
theorem dX9_isTangled_239 : decode cX9_isTangled 239 = .ok (.iload 7, 2) := by decide +kernel
theorem dX9_isTangled_241 : decode cX9_isTangled 241 = .ok (.iload 8, 2) := by decide +kernel
theorem dX9_isTangled_243 : decode cX9_isTangled 243 = .ok (.invokestatic 191, 3) := by decide +kernel
theorem dX9_isTangled_246 : decode cX9_isTangled 246 = .ok (.ifCond .eq 7, 3) := by decide +kernel
theorem dX9_isTangled_249 : decode cX9_isTangled 249 = .ok (.iconst 1, 1) := by decide +kernel
theorem dX9_isTangled_250 : decode cX9_isTangled 250 = .ok (.goto 4, 3) := by decide +kernel
theorem dX9_isTangled_253 : decode cX9_isTangled 253 = .ok (.iconst 0, 1) := by decide +kernel
theorem dX9_isTangled_254 : decode cX9_isTangled 254 = .ok (.istore 9, 2) := by decide +kernel
theorem dX9_isTangled_256 : decode cX9_isTangled 256 = .ok (.goto 73, 3) := by decide +kernel
theorem dX9_isTangled_259 : decode cX9_isTangled 259 = .ok (.iload 12, 2) := by decide +kernel
theorem dX9_isTangled_261 : decode cX9_isTangled 261 = .ok (.iconst (-1), 1) := by decide +kernel
theorem dX9_isTangled_262 : decode cX9_isTangled 262 = .ok (.if_icmp .eq 67, 3) := by decide +kernel
theorem dX9_isTangled_265 : decode cX9_isTangled 265 = .ok (.iload 9, 2) := by decide +kernel
theorem dX9_isTangled_267 : decode cX9_isTangled 267 = .ok (.ifCond .ne 55, 3) := by decide +kernel
theorem dX9_isTangled_270 : decode cX9_isTangled 270 = .ok (.iload 5, 2) := by decide +kernel
theorem dX9_isTangled_272 : decode cX9_isTangled 272 = .ok (.iload 6, 2) := by decide +kernel
theorem dX9_isTangled_274 : decode cX9_isTangled 274 = .ok (.iload 7, 2) := by decide +kernel
theorem dX9_isTangled_276 : decode cX9_isTangled 276 = .ok (.iload 8, 2) := by decide +kernel
theorem dX9_isTangled_278 : decode cX9_isTangled 278 = .ok (.iload 13, 2) := by decide +kernel
theorem dX9_isTangled_280 : decode cX9_isTangled 280 = .ok (.iload 14, 2) := by decide +kernel
theorem dX9_isTangled_282 : decode cX9_isTangled 282 = .ok (.aload_n 0, 1) := by decide +kernel
theorem dX9_isTangled_283 : decode cX9_isTangled 283 = .ok (.getfield 47, 3) := by decide +kernel
theorem dX9_isTangled_286 : decode cX9_isTangled 286 = .ok (.iload 12, 2) := by decide +kernel
theorem dX9_isTangled_288 : decode cX9_isTangled 288 = .ok (.iaload, 1) := by decide +kernel
theorem dX9_isTangled_289 : decode cX9_isTangled 289 = .ok (.aload_n 0, 1) := by decide +kernel
theorem dX9_isTangled_290 : decode cX9_isTangled 290 = .ok (.getfield 53, 3) := by decide +kernel
theorem dX9_isTangled_293 : decode cX9_isTangled 293 = .ok (.iload 12, 2) := by decide +kernel
theorem dX9_isTangled_295 : decode cX9_isTangled 295 = .ok (.iaload, 1) := by decide +kernel
theorem dX9_isTangled_296 : decode cX9_isTangled 296 = .ok (.iconst 2, 1) := by decide +kernel
theorem dX9_isTangled_297 : decode cX9_isTangled 297 = .ok (.idiv, 1) := by decide +kernel
theorem dX9_isTangled_298 : decode cX9_isTangled 298 = .ok (.iadd, 1) := by decide +kernel
theorem dX9_isTangled_299 : decode cX9_isTangled 299 = .ok (.aload_n 0, 1) := by decide +kernel
theorem dX9_isTangled_300 : decode cX9_isTangled 300 = .ok (.getfield 50, 3) := by decide +kernel
theorem dX9_isTangled_303 : decode cX9_isTangled 303 = .ok (.iload 12, 2) := by decide +kernel
theorem dX9_isTangled_305 : decode cX9_isTangled 305 = .ok (.iaload, 1) := by decide +kernel
theorem dX9_isTangled_306 : decode cX9_isTangled 306 = .ok (.aload_n 0, 1) := by decide +kernel
theorem dX9_isTangled_307 : decode cX9_isTangled 307 = .ok (.getfield 53, 3) := by decide +kernel
theorem dX9_isTangled_310 : decode cX9_isTangled 310 = .ok (.iload 12, 2) := by decide +kernel
theorem dX9_isTangled_312 : decode cX9_isTangled 312 = .ok (.iaload, 1) := by decide +kernel
theorem dX9_isTangled_313 : decode cX9_isTangled 313 = .ok (.iconst 2, 1) := by decide +kernel
theorem dX9_isTangled_314 : decode cX9_isTangled 314 = .ok (.idiv, 1) := by decide +kernel
theorem dX9_isTangled_315 : decode cX9_isTangled 315 = .ok (.iadd, 1) := by decide +kernel
theorem dX9_isTangled_316 : decode cX9_isTangled 316 = .ok (.invokestatic 179, 3) := by decide +kernel
theorem dX9_isTangled_319 : decode cX9_isTangled 319 = .ok (.ifCond .eq 7, 3) := by decide +kernel
theorem dX9_isTangled_322 : decode cX9_isTangled 322 = .ok (.iconst 1, 1) := by decide +kernel
theorem dX9_isTangled_323 : decode cX9_isTangled 323 = .ok (.goto 4, 3) := by decide +kernel
theorem dX9_isTangled_326 : decode cX9_isTangled 326 = .ok (.iconst 0, 1) := by decide +kernel
theorem dX9_isTangled_327 : decode cX9_isTangled 327 = .ok (.istore 9, 2) := by decide +kernel
theorem dX9_isTangled_329 : decode cX9_isTangled 329 = .ok (.iinc 10 1, 3) := by decide +kernel
theorem dX9_isTangled_332 : decode cX9_isTangled 332 = .ok (.goto (-231), 3) := by decide +kernel
theorem dX9_isTangled_335 : decode cX9_isTangled 335 = .ok (.iload 9, 2) := by decide +kernel
theorem dX9_isTangled_337 : decode cX9_isTangled 337 = .ok (.ireturn, 1) := by decide +kernel
theorem dX9_faults_0 : decode cX9_faults 0 = .ok (.aload_n 0, 1) := by decide +kernel
theorem dX9_faults_1 : decode cX9_faults 1 = .ok (.aload_n 0, 1) := by decide +kernel
theorem dX9_faults_2 : decode cX9_faults 2 = .ok (.iload_n 1, 1) := by decide +kernel
theorem dX9_faults_3 : decode cX9_faults 3 = .ok (.iload_n 2, 1) := by decide +kernel
theorem dX9_faults_4 : decode cX9_faults 4 = .ok (.invokevirtual 169, 3) := by decide +kernel
theorem dX9_faults_7 : decode cX9_faults 7 = .ok (.ifCond .eq 7, 3) := by decide +kernel
theorem dX9_faults_10 : decode cX9_faults 10 = .ok (.iconst 0, 1) := by decide +kernel
theorem dX9_faults_11 : decode cX9_faults 11 = .ok (.goto 4, 3) := by decide +kernel
theorem dX9_faults_14 : decode cX9_faults 14 = .ok (.iconst 1, 1) := by decide +kernel
theorem dX9_faults_15 : decode cX9_faults 15 = .ok (.putfield 111, 3) := by decide +kernel
theorem dX9_faults_18 : decode cX9_faults 18 = .ok (.aload_n 0, 1) := by decide +kernel
theorem dX9_faults_19 : decode cX9_faults 19 = .ok (.getfield 111, 3) := by decide +kernel
theorem dX9_faults_22 : decode cX9_faults 22 = .ok (.ifCond .le 5, 3) := by decide +kernel
theorem dX9_faults_25 : decode cX9_faults 25 = .ok (.iconst 0, 1) := by decide +kernel
theorem dX9_faults_26 : decode cX9_faults 26 = .ok (.ireturn, 1) := by decide +kernel
theorem dX9_faults_27 : decode cX9_faults 27 = .ok (.bipush 20, 2) := by decide +kernel
theorem dX9_faults_29 : decode cX9_faults 29 = .ok (.iload_n 1, 1) := by decide +kernel
theorem dX9_faults_30 : decode cX9_faults 30 = .ok (.imul, 1) := by decide +kernel
theorem dX9_faults_31 : decode cX9_faults 31 = .ok (.iload_n 2, 1) := by decide +kernel
theorem dX9_faults_32 : decode cX9_faults 32 = .ok (.iadd, 1) := by decide +kernel
theorem dX9_faults_33 : decode cX9_faults 33 = .ok (.istore_n 3, 1) := by decide +kernel
theorem dX9_faults_34 : decode cX9_faults 34 = .ok (.bipush 8, 2) := by decide +kernel
theorem dX9_faults_36 : decode cX9_faults 36 = .ok (.iload_n 1, 1) := by decide +kernel
theorem dX9_faults_37 : decode cX9_faults 37 = .ok (.imul, 1) := by decide +kernel
theorem dX9_faults_38 : decode cX9_faults 38 = .ok (.aload_n 0, 1) := by decide +kernel
theorem dX9_faults_39 : decode cX9_faults 39 = .ok (.getfield 62, 3) := by decide +kernel
theorem dX9_faults_42 : decode cX9_faults 42 = .ok (.iload_n 3, 1) := by decide +kernel
theorem dX9_faults_43 : decode cX9_faults 43 = .ok (.iaload, 1) := by decide +kernel
theorem dX9_faults_44 : decode cX9_faults 44 = .ok (.iadd, 1) := by decide +kernel
theorem dX9_faults_45 : decode cX9_faults 45 = .ok (.istore 4, 2) := by decide +kernel
theorem dX9_faults_47 : decode cX9_faults 47 = .ok (.aload_n 0, 1) := by decide +kernel
theorem dX9_faults_48 : decode cX9_faults 48 = .ok (.getfield 65, 3) := by decide +kernel
theorem dX9_faults_51 : decode cX9_faults 51 = .ok (.iload_n 3, 1) := by decide +kernel
theorem dX9_faults_52 : decode cX9_faults 52 = .ok (.iaload, 1) := by decide +kernel
theorem dX9_faults_53 : decode cX9_faults 53 = .ok (.aload_n 0, 1) := by decide +kernel
theorem dX9_faults_54 : decode cX9_faults 54 = .ok (.getfield 35, 3) := by decide +kernel
theorem dX9_faults_57 : decode cX9_faults 57 = .ok (.iload 4, 2) := by decide +kernel
theorem dX9_faults_59 : decode cX9_faults 59 = .ok (.iaload, 1) := by decide +kernel
theorem dX9_faults_60 : decode cX9_faults 60 = .ok (.if_icmp .lt 85, 3) := by decide +kernel
theorem dX9_faults_63 : decode cX9_faults 63 = .ok (.aload_n 0, 1) := by decide +kernel
theorem dX9_faults_64 : decode cX9_faults 64 = .ok (.getfield 68, 3) := by decide +kernel
theorem dX9_faults_67 : decode cX9_faults 67 = .ok (.iload_n 3, 1) := by decide +kernel
theorem dX9_faults_68 : decode cX9_faults 68 = .ok (.iaload, 1) := by decide +kernel
theorem dX9_faults_69 : decode cX9_faults 69 = .ok (.aload_n 0, 1) := by decide +kernel
theorem dX9_faults_70 : decode cX9_faults 70 = .ok (.getfield 38, 3) := by decide +kernel
theorem dX9_faults_73 : decode cX9_faults 73 = .ok (.iload 4, 2) := by decide +kernel
theorem dX9_faults_75 : decode cX9_faults 75 = .ok (.iaload, 1) := by decide +kernel
theorem dX9_faults_76 : decode cX9_faults 76 = .ok (.if_icmp .lt 69, 3) := by decide +kernel
theorem dX9_faults_79 : decode cX9_faults 79 = .ok (.aload_n 0, 1) := by decide +kernel
theorem dX9_faults_80 : decode cX9_faults 80 = .ok (.getfield 65, 3) := by decide +kernel
theorem dX9_faults_83 : decode cX9_faults 83 = .ok (.iload_n 3, 1) := by decide +kernel
theorem dX9_faults_84 : decode cX9_faults 84 = .ok (.iaload, 1) := by decide +kernel
theorem dX9_faults_85 : decode cX9_faults 85 = .ok (.aload_n 0, 1) := by decide +kernel
theorem dX9_faults_86 : decode cX9_faults 86 = .ok (.getfield 71, 3) := by decide +kernel
theorem dX9_faults_89 : decode cX9_faults 89 = .ok (.iload_n 3, 1) := by decide +kernel
theorem dX9_faults_90 : decode cX9_faults 90 = .ok (.iaload, 1) := by decide +kernel
theorem dX9_faults_91 : decode cX9_faults 91 = .ok (.iadd, 1) := by decide +kernel
theorem dX9_faults_92 : decode cX9_faults 92 = .ok (.aload_n 0, 1) := by decide +kernel
theorem dX9_faults_93 : decode cX9_faults 93 = .ok (.getfield 35, 3) := by decide +kernel
theorem dX9_faults_96 : decode cX9_faults 96 = .ok (.iload 4, 2) := by decide +kernel
theorem dX9_faults_98 : decode cX9_faults 98 = .ok (.iaload, 1) := by decide +kernel
theorem dX9_faults_99 : decode cX9_faults 99 = .ok (.aload_n 0, 1) := by decide +kernel
theorem dX9_faults_100 : decode cX9_faults 100 = .ok (.getfield 41, 3) := by decide +kernel
theorem dX9_faults_103 : decode cX9_faults 103 = .ok (.iload 4, 2) := by decide +kernel
theorem dX9_faults_105 : decode cX9_faults 105 = .ok (.iaload, 1) := by decide +kernel
theorem dX9_faults_106 : decode cX9_faults 106 = .ok (.iadd, 1) := by decide +kernel
theorem dX9_faults_107 : decode cX9_faults 107 = .ok (.if_icmp .gt 38, 3) := by decide +kernel
theorem dX9_faults_110 : decode cX9_faults 110 = .ok (.aload_n 0, 1) := by decide +kernel
theorem dX9_faults_111 : decode cX9_faults 111 = .ok (.getfield 68, 3) := by decide +kernel
theorem dX9_faults_114 : decode cX9_faults 114 = .ok (.iload_n 3, 1) := by decide +kernel
theorem dX9_faults_115 : decode cX9_faults 115 = .ok (.iaload, 1) := by decide +kernel
theorem dX9_faults_116 : decode cX9_faults 116 = .ok (.aload_n 0, 1) := by decide +kernel
theorem dX9_faults_117 : decode cX9_faults 117 = .ok (.getfield 74, 3) := by decide +kernel
theorem dX9_faults_120 : decode cX9_faults 120 = .ok (.iload_n 3, 1) := by decide +kernel
theorem dX9_faults_121 : decode cX9_faults 121 = .ok (.iaload, 1) := by decide +kernel
theorem dX9_faults_122 : decode cX9_faults 122 = .ok (.iadd, 1) := by decide +kernel
theorem dX9_faults_123 : decode cX9_faults 123 = .ok (.aload_n 0, 1) := by decide +kernel
theorem dX9_faults_124 : decode cX9_faults 124 = .ok (.getfield 38, 3) := by decide +kernel
theorem dX9_faults_127 : decode cX9_faults 127 = .ok (.iload 4, 2) := by decide +kernel
theorem dX9_faults_129 : decode cX9_faults 129 = .ok (.iaload, 1) := by decide +kernel
theorem dX9_faults_130 : decode cX9_faults 130 = .ok (.aload_n 0, 1) := by decide +kernel
theorem dX9_faults_131 : decode cX9_faults 131 = .ok (.getfield 44, 3) := by decide +kernel
theorem dX9_faults_134 : decode cX9_faults 134 = .ok (.iload 4, 2) := by decide +kernel
theorem dX9_faults_136 : decode cX9_faults 136 = .ok (.iaload, 1) := by decide +kernel
theorem dX9_faults_137 : decode cX9_faults 137 = .ok (.iadd, 1) := by decide +kernel
theorem dX9_faults_138 : decode cX9_faults 138 = .ok (.if_icmp .gt 7, 3) := by decide +kernel
theorem dX9_faults_141 : decode cX9_faults 141 = .ok (.iconst 1, 1) := by decide +kernel
theorem dX9_faults_142 : decode cX9_faults 142 = .ok (.goto 4, 3) := by decide +kernel
theorem dX9_faults_145 : decode cX9_faults 145 = .ok (.iconst 0, 1) := by decide +kernel
theorem dX9_faults_146 : decode cX9_faults 146 = .ok (.istore 5, 2) := by decide +kernel
theorem dX9_faults_148 : decode cX9_faults 148 = .ok (.iconst 0, 1) := by decide +kernel
theorem dX9_faults_149 : decode cX9_faults 149 = .ok (.istore 6, 2) := by decide +kernel
theorem dX9_faults_151 : decode cX9_faults 151 = .ok (.iconst 0, 1) := by decide +kernel
theorem dX9_faults_152 : decode cX9_faults 152 = .ok (.istore 7, 2) := by decide +kernel
theorem dX9_faults_154 : decode cX9_faults 154 = .ok (.iconst 0, 1) := by decide +kernel
theorem dX9_faults_155 : decode cX9_faults 155 = .ok (.istore 8, 2) := by decide +kernel
theorem dX9_faults_157 : decode cX9_faults 157 = .ok (.iload 8, 2) := by decide +kernel
theorem dX9_faults_159 : decode cX9_faults 159 = .ok (.aload_n 0, 1) := by decide +kernel
theorem dX9_faults_160 : decode cX9_faults 160 = .ok (.getfield 17, 3) := by decide +kernel
theorem dX9_faults_163 : decode cX9_faults 163 = .ok (.iload_n 1, 1) := by decide +kernel
theorem dX9_faults_164 : decode cX9_faults 164 = .ok (.iaload, 1) := by decide +kernel
theorem dX9_faults_165 : decode cX9_faults 165 = .ok (.if_icmp .ge 242, 3) := by decide +kernel
theorem dX9_faults_168 : decode cX9_faults 168 = .ok (.bipush 20, 2) := by decide +kernel
theorem dX9_faults_170 : decode cX9_faults 170 = .ok (.iload_n 1, 1) := by decide +kernel
theorem dX9_faults_171 : decode cX9_faults 171 = .ok (.imul, 1) := by decide +kernel
theorem dX9_faults_172 : decode cX9_faults 172 = .ok (.iload 8, 2) := by decide +kernel
theorem dX9_faults_174 : decode cX9_faults 174 = .ok (.iadd, 1) := by decide +kernel
theorem dX9_faults_175 : decode cX9_faults 175 = .ok (.istore 9, 2) := by decide +kernel
theorem dX9_faults_177 : decode cX9_faults 177 = .ok (.iload 8, 2) := by decide +kernel
theorem dX9_faults_179 : decode cX9_faults 179 = .ok (.iload_n 2, 1) := by decide +kernel
theorem dX9_faults_180 : decode cX9_faults 180 = .ok (.if_icmp .eq 221, 3) := by decide +kernel
theorem dX9_faults_183 : decode cX9_faults 183 = .ok (.aload_n 0, 1) := by decide +kernel
theorem dX9_faults_184 : decode cX9_faults 184 = .ok (.getfield 62, 3) := by decide +kernel
theorem dX9_faults_187 : decode cX9_faults 187 = .ok (.iload 9, 2) := by decide +kernel
theorem dX9_faults_189 : decode cX9_faults 189 = .ok (.iaload, 1) := by decide +kernel
theorem dX9_faults_190 : decode cX9_faults 190 = .ok (.aload_n 0, 1) := by decide +kernel
theorem dX9_faults_191 : decode cX9_faults 191 = .ok (.getfield 62, 3) := by decide +kernel
theorem dX9_faults_194 : decode cX9_faults 194 = .ok (.iload_n 3, 1) := by decide +kernel
theorem dX9_faults_195 : decode cX9_faults 195 = .ok (.iaload, 1) := by decide +kernel
theorem dX9_faults_196 : decode cX9_faults 196 = .ok (.if_icmp .ne 205, 3) := by decide +kernel
theorem dX9_faults_199 : decode cX9_faults 199 = .ok (.iload 6, 2) := by decide +kernel
theorem dX9_faults_201 : decode cX9_faults 201 = .ok (.ifCond .ne 67, 3) := by decide +kernel
theorem dX9_faults_204 : decode cX9_faults 204 = .ok (.aload_n 0, 1) := by decide +kernel
theorem dX9_faults_205 : decode cX9_faults 205 = .ok (.getfield 65, 3) := by decide +kernel
theorem dX9_faults_208 : decode cX9_faults 208 = .ok (.iload_n 3, 1) := by decide +kernel
theorem dX9_faults_209 : decode cX9_faults 209 = .ok (.iaload, 1) := by decide +kernel
theorem dX9_faults_210 : decode cX9_faults 210 = .ok (.aload_n 0, 1) := by decide +kernel
theorem dX9_faults_211 : decode cX9_faults 211 = .ok (.getfield 71, 3) := by decide +kernel
theorem dX9_faults_214 : decode cX9_faults 214 = .ok (.iload_n 3, 1) := by decide +kernel
theorem dX9_faults_215 : decode cX9_faults 215 = .ok (.iaload, 1) := by decide +kernel
theorem dX9_faults_216 : decode cX9_faults 216 = .ok (.aload_n 0, 1) := by decide +kernel
theorem dX9_faults_217 : decode cX9_faults 217 = .ok (.getfield 65, 3) := by decide +kernel
theorem dX9_faults_220 : decode cX9_faults 220 = .ok (.iload 9, 2) := by decide +kernel
theorem dX9_faults_222 : decode cX9_faults 222 = .ok (.iaload, 1) := by decide +kernel
theorem dX9_faults_223 : decode cX9_faults 223 = .ok (.aload_n 0, 1) := by decide +kernel
theorem dX9_faults_224 : decode cX9_faults 224 = .ok (.getfield 71, 3) := by decide +kernel
theorem dX9_faults_227 : decode cX9_faults 227 = .ok (.iload 9, 2) := by decide +kernel
theorem dX9_faults_229 : decode cX9_faults 229 = .ok (.iaload, 1) := by decide +kernel
theorem dX9_faults_230 : decode cX9_faults 230 = .ok (.invokestatic 132, 3) := by decide +kernel
theorem dX9_faults_233 : decode cX9_faults 233 = .ok (.ifCond .eq 39, 3) := by decide +kernel
theorem dX9_faults_236 : decode cX9_faults 236 = .ok (.aload_n 0, 1) := by decide +kernel
theorem dX9_faults_237 : decode cX9_faults 237 = .ok (.getfield 68, 3) := by decide +kernel
theorem dX9_faults_240 : decode cX9_faults 240 = .ok (.iload_n 3, 1) := by decide +kernel
theorem dX9_faults_241 : decode cX9_faults 241 = .ok (.iaload, 1) := by decide +kernel
theorem dX9_faults_242 : decode cX9_faults 242 = .ok (.aload_n 0, 1) := by decide +kernel
theorem dX9_faults_243 : decode cX9_faults 243 = .ok (.getfield 74, 3) := by decide +kernel
theorem dX9_faults_246 : decode cX9_faults 246 = .ok (.iload_n 3, 1) := by decide +kernel
theorem dX9_faults_247 : decode cX9_faults 247 = .ok (.iaload, 1) := by decide +kernel
theorem dX9_faults_248 : decode cX9_faults 248 = .ok (.aload_n 0, 1) := by decide +kernel
theorem dX9_faults_249 : decode cX9_faults 249 = .ok (.getfield 68, 3) := by decide +kernel
theorem dX9_faults_252 : decode cX9_faults 252 = .ok (.iload 9, 2) := by decide +kernel
theorem dX9_faults_254 : decode cX9_faults 254 = .ok (.iaload, 1) := by decide +kernel
theorem dX9_faults_255 : decode cX9_faults 255 = .ok (.aload_n 0, 1) := by decide +kernel
theorem dX9_faults_256 : decode cX9_faults 256 = .ok (.getfield 74, 3) := by decide +kernel
theorem dX9_faults_259 : decode cX9_faults 259 = .ok (.iload 9, 2) := by decide +kernel
theorem dX9_faults_261 : decode cX9_faults 261 = .ok (.iaload, 1) := by decide +kernel
theorem dX9_faults_262 : decode cX9_faults 262 = .ok (.invokestatic 132, 3) := by decide +kernel
theorem dX9_faults_265 : decode cX9_faults 265 = .ok (.ifCond .eq 7, 3) := by decide +kernel
theorem dX9_faults_268 : decode cX9_faults 268 = .ok (.iconst 1, 1) := by decide +kernel
theorem dX9_faults_269 : decode cX9_faults 269 = .ok (.goto 4, 3) := by decide +kernel
theorem dX9_faults_272 : decode cX9_faults 272 = .ok (.iconst 0, 1) := by decide +kernel
theorem dX9_faults_273 : decode cX9_faults 273 = .ok (.istore 6, 2) := by decide +kernel
theorem dX9_faults_275 : decode cX9_faults 275 = .ok (.aload_n 0, 1) := by decide +kernel
theorem dX9_faults_276 : decode cX9_faults 276 = .ok (.getfield 7, 3) := by decide +kernel
theorem dX9_faults_279 : decode cX9_faults 279 = .ok (.iload_n 1, 1) := by decide +kernel
theorem dX9_faults_280 : decode cX9_faults 280 = .ok (.baload, 1) := by decide +kernel
theorem dX9_faults_281 : decode cX9_faults 281 = .ok (.ifCond .eq 42, 3) := by decide +kernel
theorem dX9_faults_284 : decode cX9_faults 284 = .ok (.aload_n 0, 1) := by decide +kernel
theorem dX9_faults_285 : decode cX9_faults 285 = .ok (.getfield 65, 3) := by decide +kernel
theorem dX9_faults_288 : decode cX9_faults 288 = .ok (.iload_n 3, 1) := by decide +kernel
theorem dX9_faults_289 : decode cX9_faults 289 = .ok (.iaload, 1) := by decide +kernel
theorem dX9_faults_290 : decode cX9_faults 290 = .ok (.aload_n 0, 1) := by decide +kernel
theorem dX9_faults_291 : decode cX9_faults 291 = .ok (.getfield 71, 3) := by decide +kernel
theorem dX9_faults_294 : decode cX9_faults 294 = .ok (.iload_n 3, 1) := by decide +kernel
theorem dX9_faults_295 : decode cX9_faults 295 = .ok (.iaload, 1) := by decide +kernel
theorem dX9_faults_296 : decode cX9_faults 296 = .ok (.iadd, 1) := by decide +kernel
theorem dX9_faults_297 : decode cX9_faults 297 = .ok (.aload_n 0, 1) := by decide +kernel
theorem dX9_faults_298 : decode cX9_faults 298 = .ok (.getfield 65, 3) := by decide +kernel
theorem dX9_faults_301 : decode cX9_faults 301 = .ok (.iload 9, 2) := by decide +kernel
theorem dX9_faults_303 : decode cX9_faults 303 = .ok (.iaload, 1) := by decide +kernel
theorem dX9_faults_304 : decode cX9_faults 304 = .ok (.aload_n 0, 1) := by decide +kernel
theorem dX9_faults_305 : decode cX9_faults 305 = .ok (.getfield 71, 3) := by decide +kernel
theorem dX9_faults_308 : decode cX9_faults 308 = .ok (.iload 9, 2) := by decide +kernel
theorem dX9_faults_310 : decode cX9_faults 310 = .ok (.iaload, 1) := by decide +kernel
theorem dX9_faults_311 : decode cX9_faults 311 = .ok (.iadd, 1) := by decide +kernel
theorem dX9_faults_312 : decode cX9_faults 312 = .ok (.if_icmp .le 7, 3) := by decide +kernel
theorem dX9_faults_315 : decode cX9_faults 315 = .ok (.iconst 1, 1) := by decide +kernel
theorem dX9_faults_316 : decode cX9_faults 316 = .ok (.goto 28, 3) := by decide +kernel
theorem dX9_faults_319 : decode cX9_faults 319 = .ok (.iconst 0, 1) := by decide +kernel
theorem dX9_faults_320 : decode cX9_faults 320 = .ok (.goto 24, 3) := by decide +kernel
theorem dX9_faults_323 : decode cX9_faults 323 = .ok (.aload_n 0, 1) := by decide +kernel
theorem dX9_faults_324 : decode cX9_faults 324 = .ok (.getfield 65, 3) := by decide +kernel
theorem dX9_faults_327 : decode cX9_faults 327 = .ok (.iload_n 3, 1) := by decide +kernel
theorem dX9_faults_328 : decode cX9_faults 328 = .ok (.iaload, 1) := by decide +kernel
theorem dX9_faults_329 : decode cX9_faults 329 = .ok (.aload_n 0, 1) := by decide +kernel
theorem dX9_faults_330 : decode cX9_faults 330 = .ok (.getfield 65, 3) := by decide +kernel
theorem dX9_faults_333 : decode cX9_faults 333 = .ok (.iload 9, 2) := by decide +kernel
theorem dX9_faults_335 : decode cX9_faults 335 = .ok (.iaload, 1) := by decide +kernel
theorem dX9_faults_336 : decode cX9_faults 336 = .ok (.if_icmp .ge 7, 3) := by decide +kernel
theorem dX9_faults_339 : decode cX9_faults 339 = .ok (.iconst 1, 1) := by decide +kernel
theorem dX9_faults_340 : decode cX9_faults 340 = .ok (.goto 4, 3) := by decide +kernel
theorem dX9_faults_343 : decode cX9_faults 343 = .ok (.iconst 0, 1) := by decide +kernel
theorem dX9_faults_344 : decode cX9_faults 344 = .ok (.istore 10, 2) := by decide +kernel
theorem dX9_faults_346 : decode cX9_faults 346 = .ok (.iload 7, 2) := by decide +kernel
theorem dX9_faults_348 : decode cX9_faults 348 = .ok (.ifCond .ne 46, 3) := by decide +kernel
theorem dX9_faults_351 : decode cX9_faults 351 = .ok (.iload 8, 2) := by decide +kernel
theorem dX9_faults_353 : decode cX9_faults 353 = .ok (.iload_n 2, 1) := by decide +kernel
theorem dX9_faults_354 : decode cX9_faults 354 = .ok (.if_icmp .ge 44, 3) := by decide +kernel
theorem dX9_faults_357 : decode cX9_faults 357 = .ok (.aload_n 0, 1) := by decide +kernel
theorem dX9_faults_358 : decode cX9_faults 358 = .ok (.getfield 68, 3) := by decide +kernel
theorem dX9_faults_361 : decode cX9_faults 361 = .ok (.iload_n 3, 1) := by decide +kernel
theorem dX9_faults_362 : decode cX9_faults 362 = .ok (.iaload, 1) := by decide +kernel
theorem dX9_faults_363 : decode cX9_faults 363 = .ok (.aload_n 0, 1) := by decide +kernel
theorem dX9_faults_364 : decode cX9_faults 364 = .ok (.getfield 68, 3) := by decide +kernel
theorem dX9_faults_367 : decode cX9_faults 367 = .ok (.iload 9, 2) := by decide +kernel
theorem dX9_faults_369 : decode cX9_faults 369 = .ok (.iaload, 1) := by decide +kernel
theorem dX9_faults_370 : decode cX9_faults 370 = .ok (.if_icmp .lt 24, 3) := by decide +kernel
theorem dX9_faults_373 : decode cX9_faults 373 = .ok (.aload_n 0, 1) := by decide +kernel
theorem dX9_faults_374 : decode cX9_faults 374 = .ok (.getfield 68, 3) := by decide +kernel
theorem dX9_faults_377 : decode cX9_faults 377 = .ok (.iload_n 3, 1) := by decide +kernel
theorem dX9_faults_378 : decode cX9_faults 378 = .ok (.iaload, 1) := by decide +kernel
theorem dX9_faults_379 : decode cX9_faults 379 = .ok (.aload_n 0, 1) := by decide +kernel
theorem dX9_faults_380 : decode cX9_faults 380 = .ok (.getfield 68, 3) := by decide +kernel
theorem dX9_faults_383 : decode cX9_faults 383 = .ok (.iload 9, 2) := by decide +kernel
theorem dX9_faults_385 : decode cX9_faults 385 = .ok (.iaload, 1) := by decide +kernel
theorem dX9_faults_386 : decode cX9_faults 386 = .ok (.if_icmp .ne 12, 3) := by decide +kernel
theorem dX9_faults_389 : decode cX9_faults 389 = .ok (.iload 10, 2) := by decide +kernel
theorem dX9_faults_391 : decode cX9_faults 391 = .ok (.ifCond .eq 7, 3) := by decide +kernel
theorem dX9_faults_394 : decode cX9_faults 394 = .ok (.iconst 1, 1) := by decide +kernel
theorem dX9_faults_395 : decode cX9_faults 395 = .ok (.goto 4, 3) := by decide +kernel
theorem dX9_faults_398 : decode cX9_faults 398 = .ok (.iconst 0, 1) := by decide +kernel
theorem dX9_faults_399 : decode cX9_faults 399 = .ok (.istore 7, 2) := by decide +kernel
theorem dX9_faults_401 : decode cX9_faults 401 = .ok (.iinc 8 1, 3) := by decide +kernel
theorem dX9_faults_404 : decode cX9_faults 404 = .ok (.goto (-247), 3) := by decide +kernel
theorem dX9_faults_407 : decode cX9_faults 407 = .ok (.iconst 0, 1) := by decide +kernel
theorem dX9_faults_408 : decode cX9_faults 408 = .ok (.istore 8, 2) := by decide +kernel
theorem dX9_faults_410 : decode cX9_faults 410 = .ok (.iconst 0, 1) := by decide +kernel
theorem dX9_faults_411 : decode cX9_faults 411 = .ok (.istore 9, 2) := by decide +kernel
theorem dX9_faults_413 : decode cX9_faults 413 = .ok (.iload 9, 2) := by decide +kernel
theorem dX9_faults_415 : decode cX9_faults 415 = .ok (.bipush 12, 2) := by decide +kernel
theorem dX9_faults_417 : decode cX9_faults 417 = .ok (.if_icmp .ge 105, 3) := by decide +kernel
theorem dX9_faults_420 : decode cX9_faults 420 = .ok (.bipush 12, 2) := by decide +kernel
theorem dX9_faults_422 : decode cX9_faults 422 = .ok (.iload 4, 2) := by decide +kernel
theorem dX9_faults_424 : decode cX9_faults 424 = .ok (.imul, 1) := by decide +kernel
theorem dX9_faults_425 : decode cX9_faults 425 = .ok (.iload 9, 2) := by decide +kernel
theorem dX9_faults_427 : decode cX9_faults 427 = .ok (.iadd, 1) := by decide +kernel
theorem dX9_faults_428 : decode cX9_faults 428 = .ok (.istore 10, 2) := by decide +kernel
theorem dX9_faults_430 : decode cX9_faults 430 = .ok (.iload 8, 2) := by decide +kernel
theorem dX9_faults_432 : decode cX9_faults 432 = .ok (.ifCond .ne 77, 3) := by decide +kernel
theorem dX9_faults_435 : decode cX9_faults 435 = .ok (.aload_n 0, 1) := by decide +kernel
theorem dX9_faults_436 : decode cX9_faults 436 = .ok (.getfield 53, 3) := by decide +kernel
theorem dX9_faults_439 : decode cX9_faults 439 = .ok (.iload 10, 2) := by decide +kernel
theorem dX9_faults_441 : decode cX9_faults 441 = .ok (.iaload, 1) := by decide +kernel
theorem dX9_faults_442 : decode cX9_faults 442 = .ok (.ifCond .le 71, 3) := by decide +kernel
theorem dX9_faults_445 : decode cX9_faults 445 = .ok (.aload_n 0, 1) := by decide +kernel
theorem dX9_faults_446 : decode cX9_faults 446 = .ok (.getfield 65, 3) := by decide +kernel
theorem dX9_faults_449 : decode cX9_faults 449 = .ok (.iload_n 3, 1) := by decide +kernel
theorem dX9_faults_450 : decode cX9_faults 450 = .ok (.iaload, 1) := by decide +kernel
theorem dX9_faults_451 : decode cX9_faults 451 = .ok (.aload_n 0, 1) := by decide +kernel
theorem dX9_faults_452 : decode cX9_faults 452 = .ok (.getfield 71, 3) := by decide +kernel
theorem dX9_faults_455 : decode cX9_faults 455 = .ok (.iload_n 3, 1) := by decide +kernel
theorem dX9_faults_456 : decode cX9_faults 456 = .ok (.iaload, 1) := by decide +kernel
theorem dX9_faults_457 : decode cX9_faults 457 = .ok (.aload_n 0, 1) := by decide +kernel
theorem dX9_faults_458 : decode cX9_faults 458 = .ok (.getfield 47, 3) := by decide +kernel
theorem dX9_faults_461 : decode cX9_faults 461 = .ok (.iload 10, 2) := by decide +kernel
theorem dX9_faults_463 : decode cX9_faults 463 = .ok (.iaload, 1) := by decide +kernel
theorem dX9_faults_464 : decode cX9_faults 464 = .ok (.aload_n 0, 1) := by decide +kernel
theorem dX9_faults_465 : decode cX9_faults 465 = .ok (.getfield 53, 3) := by decide +kernel
theorem dX9_faults_468 : decode cX9_faults 468 = .ok (.iload 10, 2) := by decide +kernel
theorem dX9_faults_470 : decode cX9_faults 470 = .ok (.iaload, 1) := by decide +kernel
theorem dX9_faults_471 : decode cX9_faults 471 = .ok (.invokestatic 132, 3) := by decide +kernel
theorem dX9_faults_474 : decode cX9_faults 474 = .ok (.ifCond .eq 39, 3) := by decide +kernel
theorem dX9_faults_477 : decode cX9_faults 477 = .ok (.aload_n 0, 1) := by decide +kernel
theorem dX9_faults_478 : decode cX9_faults 478 = .ok (.getfield 68, 3) := by decide +kernel
theorem dX9_faults_481 : decode cX9_faults 481 = .ok (.iload_n 3, 1) := by decide +kernel
theorem dX9_faults_482 : decode cX9_faults 482 = .ok (.iaload, 1) := by decide +kernel
theorem dX9_faults_483 : decode cX9_faults 483 = .ok (.aload_n 0, 1) := by decide +kernel
theorem dX9_faults_484 : decode cX9_faults 484 = .ok (.getfield 74, 3) := by decide +kernel
theorem dX9_faults_487 : decode cX9_faults 487 = .ok (.iload_n 3, 1) := by decide +kernel
theorem dX9_faults_488 : decode cX9_faults 488 = .ok (.iaload, 1) := by decide +kernel
theorem dX9_faults_489 : decode cX9_faults 489 = .ok (.aload_n 0, 1) := by decide +kernel
theorem dX9_faults_490 : decode cX9_faults 490 = .ok (.getfield 50, 3) := by decide +kernel
theorem dX9_faults_493 : decode cX9_faults 493 = .ok (.iload 10, 2) := by decide +kernel
theorem dX9_faults_495 : decode cX9_faults 495 = .ok (.iaload, 1) := by decide +kernel
theorem dX9_faults_496 : decode cX9_faults 496 = .ok (.aload_n 0, 1) := by decide +kernel
theorem dX9_faults_497 : decode cX9_faults 497 = .ok (.getfield 53, 3) := by decide +kernel
theorem dX9_faults_500 : decode cX9_faults 500 = .ok (.iload 10, 2) := by decide +kernel
theorem dX9_faults_502 : decode cX9_faults 502 = .ok (.iaload, 1) := by decide +kernel
theorem dX9_faults_503 : decode cX9_faults 503 = .ok (.invokestatic 132, 3) := by decide +kernel
theorem dX9_faults_506 : decode cX9_faults 506 = .ok (.ifCond .eq 7, 3) := by decide +kernel
theorem dX9_faults_509 : decode cX9_faults 509 = .ok (.iconst 1, 1) := by decide +kernel
theorem dX9_faults_510 : decode cX9_faults 510 = .ok (.goto 4, 3) := by decide +kernel
theorem dX9_faults_513 : decode cX9_faults 513 = .ok (.iconst 0, 1) := by decide +kernel
theorem dX9_faults_514 : decode cX9_faults 514 = .ok (.istore 8, 2) := by decide +kernel
theorem dX9_faults_516 : decode cX9_faults 516 = .ok (.iinc 9 1, 3) := by decide +kernel
theorem dX9_faults_519 : decode cX9_faults 519 = .ok (.goto (-106), 3) := by decide +kernel
theorem dX9_faults_522 : decode cX9_faults 522 = .ok (.iload 5, 2) := by decide +kernel
theorem dX9_faults_524 : decode cX9_faults 524 = .ok (.ifCond .eq 7, 3) := by decide +kernel
theorem dX9_faults_527 : decode cX9_faults 527 = .ok (.iconst 0, 1) := by decide +kernel
theorem dX9_faults_528 : decode cX9_faults 528 = .ok (.goto 4, 3) := by decide +kernel
theorem dX9_faults_531 : decode cX9_faults 531 = .ok (.iconst 1, 1) := by decide +kernel
theorem dX9_faults_532 : decode cX9_faults 532 = .ok (.iload 6, 2) := by decide +kernel
theorem dX9_faults_534 : decode cX9_faults 534 = .ok (.ifCond .eq 7, 3) := by decide +kernel
theorem dX9_faults_537 : decode cX9_faults 537 = .ok (.iconst 2, 1) := by decide +kernel
theorem dX9_faults_538 : decode cX9_faults 538 = .ok (.goto 4, 3) := by decide +kernel
theorem dX9_faults_541 : decode cX9_faults 541 = .ok (.iconst 0, 1) := by decide +kernel
theorem dX9_faults_542 : decode cX9_faults 542 = .ok (.ior, 1) := by decide +kernel
theorem dX9_faults_543 : decode cX9_faults 543 = .ok (.iload 8, 2) := by decide +kernel
theorem dX9_faults_545 : decode cX9_faults 545 = .ok (.ifCond .eq 7, 3) := by decide +kernel
theorem dX9_faults_548 : decode cX9_faults 548 = .ok (.iconst 4, 1) := by decide +kernel
theorem dX9_faults_549 : decode cX9_faults 549 = .ok (.goto 4, 3) := by decide +kernel
theorem dX9_faults_552 : decode cX9_faults 552 = .ok (.iconst 0, 1) := by decide +kernel
theorem dX9_faults_553 : decode cX9_faults 553 = .ok (.ior, 1) := by decide +kernel
theorem dX9_faults_554 : decode cX9_faults 554 = .ok (.aload_n 0, 1) := by decide +kernel
theorem dX9_faults_555 : decode cX9_faults 555 = .ok (.getfield 77, 3) := by decide +kernel
theorem dX9_faults_558 : decode cX9_faults 558 = .ok (.iload_n 3, 1) := by decide +kernel
theorem dX9_faults_559 : decode cX9_faults 559 = .ok (.iaload, 1) := by decide +kernel
theorem dX9_faults_560 : decode cX9_faults 560 = .ok (.iconst (-1), 1) := by decide +kernel
theorem dX9_faults_561 : decode cX9_faults 561 = .ok (.if_icmp .eq 18, 3) := by decide +kernel
theorem dX9_faults_564 : decode cX9_faults 564 = .ok (.aload_n 0, 1) := by decide +kernel
theorem dX9_faults_565 : decode cX9_faults 565 = .ok (.iload_n 1, 1) := by decide +kernel
theorem dX9_faults_566 : decode cX9_faults 566 = .ok (.iload_n 2, 1) := by decide +kernel
theorem dX9_faults_567 : decode cX9_faults 567 = .ok (.invokevirtual 183, 3) := by decide +kernel
theorem dX9_faults_570 : decode cX9_faults 570 = .ok (.iconst (-1), 1) := by decide +kernel
theorem dX9_faults_571 : decode cX9_faults 571 = .ok (.if_icmp .ne 8, 3) := by decide +kernel
theorem dX9_faults_574 : decode cX9_faults 574 = .ok (.bipush 8, 2) := by decide +kernel
theorem dX9_faults_576 : decode cX9_faults 576 = .ok (.goto 4, 3) := by decide +kernel
theorem dX9_faults_579 : decode cX9_faults 579 = .ok (.iconst 0, 1) := by decide +kernel
theorem dX9_faults_580 : decode cX9_faults 580 = .ok (.ior, 1) := by decide +kernel
theorem dX9_faults_581 : decode cX9_faults 581 = .ok (.istore 9, 2) := by decide +kernel
theorem dX9_faults_583 : decode cX9_faults 583 = .ok (.iload 9, 2) := by decide +kernel
theorem dX9_faults_585 : decode cX9_faults 585 = .ok (.aload_n 0, 1) := by decide +kernel
theorem dX9_faults_586 : decode cX9_faults 586 = .ok (.iload_n 1, 1) := by decide +kernel
theorem dX9_faults_587 : decode cX9_faults 587 = .ok (.iload_n 2, 1) := by decide +kernel
theorem dX9_faults_588 : decode cX9_faults 588 = .ok (.invokevirtual 195, 3) := by decide +kernel
theorem dX9_faults_591 : decode cX9_faults 591 = .ok (.ifCond .eq 8, 3) := by decide +kernel
theorem dX9_faults_594 : decode cX9_faults 594 = .ok (.bipush 16, 2) := by decide +kernel
theorem dX9_faults_596 : decode cX9_faults 596 = .ok (.goto 4, 3) := by decide +kernel
theorem dX9_faults_599 : decode cX9_faults 599 = .ok (.iconst 0, 1) := by decide +kernel
theorem dX9_faults_600 : decode cX9_faults 600 = .ok (.ior, 1) := by decide +kernel
theorem dX9_faults_601 : decode cX9_faults 601 = .ok (.bipush 8, 2) := by decide +kernel
theorem dX9_faults_603 : decode cX9_faults 603 = .ok (.aload_n 0, 1) := by decide +kernel
theorem dX9_faults_604 : decode cX9_faults 604 = .ok (.getfield 80, 3) := by decide +kernel
theorem dX9_faults_607 : decode cX9_faults 607 = .ok (.iload_n 3, 1) := by decide +kernel
theorem dX9_faults_608 : decode cX9_faults 608 = .ok (.iaload, 1) := by decide +kernel
theorem dX9_faults_609 : decode cX9_faults 609 = .ok (.imul, 1) := by decide +kernel
theorem dX9_faults_610 : decode cX9_faults 610 = .ok (.aload_n 0, 1) := by decide +kernel
theorem dX9_faults_611 : decode cX9_faults 611 = .ok (.getfield 71, 3) := by decide +kernel
theorem dX9_faults_614 : decode cX9_faults 614 = .ok (.iload_n 3, 1) := by decide +kernel
theorem dX9_faults_615 : decode cX9_faults 615 = .ok (.iaload, 1) := by decide +kernel
theorem dX9_faults_616 : decode cX9_faults 616 = .ok (.aload_n 0, 1) := by decide +kernel
theorem dX9_faults_617 : decode cX9_faults 617 = .ok (.getfield 74, 3) := by decide +kernel
theorem dX9_faults_620 : decode cX9_faults 620 = .ok (.iload_n 3, 1) := by decide +kernel
theorem dX9_faults_621 : decode cX9_faults 621 = .ok (.iaload, 1) := by decide +kernel
theorem dX9_faults_622 : decode cX9_faults 622 = .ok (.imul, 1) := by decide +kernel
theorem dX9_faults_623 : decode cX9_faults 623 = .ok (.if_icmp .le 8, 3) := by decide +kernel
theorem dX9_faults_626 : decode cX9_faults 626 = .ok (.bipush 32, 2) := by decide +kernel
theorem dX9_faults_628 : decode cX9_faults 628 = .ok (.goto 4, 3) := by decide +kernel
theorem dX9_faults_631 : decode cX9_faults 631 = .ok (.iconst 0, 1) := by decide +kernel
theorem dX9_faults_632 : decode cX9_faults 632 = .ok (.ior, 1) := by decide +kernel
theorem dX9_faults_633 : decode cX9_faults 633 = .ok (.iload 7, 2) := by decide +kernel
theorem dX9_faults_635 : decode cX9_faults 635 = .ok (.ifCond .eq 8, 3) := by decide +kernel
theorem dX9_faults_638 : decode cX9_faults 638 = .ok (.bipush 64, 2) := by decide +kernel
theorem dX9_faults_640 : decode cX9_faults 640 = .ok (.goto 4, 3) := by decide +kernel
theorem dX9_faults_643 : decode cX9_faults 643 = .ok (.iconst 0, 1) := by decide +kernel
theorem dX9_faults_644 : decode cX9_faults 644 = .ok (.ior, 1) := by decide +kernel
theorem dX9_faults_645 : decode cX9_faults 645 = .ok (.ireturn, 1) := by decide +kernel
theorem dX9_breaks_0 : decode cX9_breaks 0 = .ok (.aload_n 0, 1) := by decide +kernel
theorem dX9_breaks_1 : decode cX9_breaks 1 = .ok (.iconst 0, 1) := by decide +kernel
theorem dX9_breaks_2 : decode cX9_breaks 2 = .ok (.putfield 111, 3) := by decide +kernel
theorem dX9_breaks_5 : decode cX9_breaks 5 = .ok (.iconst 0, 1) := by decide +kernel
theorem dX9_breaks_6 : decode cX9_breaks 6 = .ok (.istore_n 1, 1) := by decide +kernel
theorem dX9_breaks_7 : decode cX9_breaks 7 = .ok (.iconst 0, 1) := by decide +kernel
theorem dX9_breaks_8 : decode cX9_breaks 8 = .ok (.istore_n 2, 1) := by decide +kernel
theorem dX9_breaks_9 : decode cX9_breaks 9 = .ok (.iload_n 2, 1) := by decide +kernel
theorem dX9_breaks_10 : decode cX9_breaks 10 = .ok (.aload_n 0, 1) := by decide +kernel
theorem dX9_breaks_11 : decode cX9_breaks 11 = .ok (.getfield 162, 3) := by decide +kernel
theorem dX9_breaks_14 : decode cX9_breaks 14 = .ok (.if_icmp .ge 132, 3) := by decide +kernel
theorem dX9_breaks_17 : decode cX9_breaks 17 = .ok (.iconst (-1), 1) := by decide +kernel
theorem dX9_breaks_18 : decode cX9_breaks 18 = .ok (.istore_n 3, 1) := by decide +kernel
theorem dX9_breaks_19 : decode cX9_breaks 19 = .ok (.iconst 0, 1) := by decide +kernel
theorem dX9_breaks_20 : decode cX9_breaks 20 = .ok (.istore 4, 2) := by decide +kernel
theorem dX9_breaks_22 : decode cX9_breaks 22 = .ok (.iload 4, 2) := by decide +kernel
theorem dX9_breaks_24 : decode cX9_breaks 24 = .ok (.aload_n 0, 1) := by decide +kernel
theorem dX9_breaks_25 : decode cX9_breaks 25 = .ok (.getfield 114, 3) := by decide +kernel
theorem dX9_breaks_28 : decode cX9_breaks 28 = .ok (.if_icmp .ge 112, 3) := by decide +kernel
theorem dX9_breaks_31 : decode cX9_breaks 31 = .ok (.aload_n 0, 1) := by decide +kernel
theorem dX9_breaks_32 : decode cX9_breaks 32 = .ok (.iload 4, 2) := by decide +kernel
theorem dX9_breaks_34 : decode cX9_breaks 34 = .ok (.aload_n 0, 1) := by decide +kernel
theorem dX9_breaks_35 : decode cX9_breaks 35 = .ok (.getfield 7, 3) := by decide +kernel
theorem dX9_breaks_38 : decode cX9_breaks 38 = .ok (.iload 4, 2) := by decide +kernel
theorem dX9_breaks_40 : decode cX9_breaks 40 = .ok (.baload, 1) := by decide +kernel
theorem dX9_breaks_41 : decode cX9_breaks 41 = .ok (.invokevirtual 155, 3) := by decide +kernel
theorem dX9_breaks_44 : decode cX9_breaks 44 = .ok (.iconst 0, 1) := by decide +kernel
theorem dX9_breaks_45 : decode cX9_breaks 45 = .ok (.istore 5, 2) := by decide +kernel
theorem dX9_breaks_47 : decode cX9_breaks 47 = .ok (.iload 5, 2) := by decide +kernel
theorem dX9_breaks_49 : decode cX9_breaks 49 = .ok (.aload_n 0, 1) := by decide +kernel
theorem dX9_breaks_50 : decode cX9_breaks 50 = .ok (.getfield 142, 3) := by decide +kernel
theorem dX9_breaks_53 : decode cX9_breaks 53 = .ok (.if_icmp .ge 81, 3) := by decide +kernel
theorem dX9_breaks_56 : decode cX9_breaks 56 = .ok (.bipush 12, 2) := by decide +kernel
theorem dX9_breaks_58 : decode cX9_breaks 58 = .ok (.bipush 8, 2) := by decide +kernel
theorem dX9_breaks_60 : decode cX9_breaks 60 = .ok (.iload 4, 2) := by decide +kernel
theorem dX9_breaks_62 : decode cX9_breaks 62 = .ok (.imul, 1) := by decide +kernel
theorem dX9_breaks_63 : decode cX9_breaks 63 = .ok (.aload_n 0, 1) := by decide +kernel
theorem dX9_breaks_64 : decode cX9_breaks 64 = .ok (.getfield 102, 3) := by decide +kernel
theorem dX9_breaks_67 : decode cX9_breaks 67 = .ok (.iload 5, 2) := by decide +kernel
theorem dX9_breaks_69 : decode cX9_breaks 69 = .ok (.iaload, 1) := by decide +kernel
theorem dX9_breaks_70 : decode cX9_breaks 70 = .ok (.iadd, 1) := by decide +kernel
theorem dX9_breaks_71 : decode cX9_breaks 71 = .ok (.imul, 1) := by decide +kernel
theorem dX9_breaks_72 : decode cX9_breaks 72 = .ok (.iload_n 2, 1) := by decide +kernel
theorem dX9_breaks_73 : decode cX9_breaks 73 = .ok (.iadd, 1) := by decide +kernel
theorem dX9_breaks_74 : decode cX9_breaks 74 = .ok (.istore 6, 2) := by decide +kernel
theorem dX9_breaks_76 : decode cX9_breaks 76 = .ok (.aload_n 0, 1) := by decide +kernel
theorem dX9_breaks_77 : decode cX9_breaks 77 = .ok (.getfield 53, 3) := by decide +kernel
theorem dX9_breaks_80 : decode cX9_breaks 80 = .ok (.iload 6, 2) := by decide +kernel
theorem dX9_breaks_82 : decode cX9_breaks 82 = .ok (.iaload, 1) := by decide +kernel
theorem dX9_breaks_83 : decode cX9_breaks 83 = .ok (.ifCond .le 45, 3) := by decide +kernel
theorem dX9_breaks_86 : decode cX9_breaks 86 = .ok (.iload_n 1, 1) := by decide +kernel
theorem dX9_breaks_87 : decode cX9_breaks 87 = .ok (.iload_n 3, 1) := by decide +kernel
theorem dX9_breaks_88 : decode cX9_breaks 88 = .ok (.iconst (-1), 1) := by decide +kernel
theorem dX9_breaks_89 : decode cX9_breaks 89 = .ok (.if_icmp .eq 28, 3) := by decide +kernel
theorem dX9_breaks_92 : decode cX9_breaks 92 = .ok (.iload_n 3, 1) := by decide +kernel
theorem dX9_breaks_93 : decode cX9_breaks 93 = .ok (.aload_n 0, 1) := by decide +kernel
theorem dX9_breaks_94 : decode cX9_breaks 94 = .ok (.getfield 56, 3) := by decide +kernel
theorem dX9_breaks_97 : decode cX9_breaks 97 = .ok (.iload 6, 2) := by decide +kernel
theorem dX9_breaks_99 : decode cX9_breaks 99 = .ok (.iaload, 1) := by decide +kernel
theorem dX9_breaks_100 : decode cX9_breaks 100 = .ok (.if_icmp .eq 17, 3) := by decide +kernel
theorem dX9_breaks_103 : decode cX9_breaks 103 = .ok (.aload_n 0, 1) := by decide +kernel
theorem dX9_breaks_104 : decode cX9_breaks 104 = .ok (.getfield 59, 3) := by decide +kernel
theorem dX9_breaks_107 : decode cX9_breaks 107 = .ok (.iload 6, 2) := by decide +kernel
theorem dX9_breaks_109 : decode cX9_breaks 109 = .ok (.baload, 1) := by decide +kernel
theorem dX9_breaks_110 : decode cX9_breaks 110 = .ok (.ifCond .ne 7, 3) := by decide +kernel
theorem dX9_breaks_113 : decode cX9_breaks 113 = .ok (.iconst 1, 1) := by decide +kernel
theorem dX9_breaks_114 : decode cX9_breaks 114 = .ok (.goto 4, 3) := by decide +kernel
theorem dX9_breaks_117 : decode cX9_breaks 117 = .ok (.iconst 0, 1) := by decide +kernel
theorem dX9_breaks_118 : decode cX9_breaks 118 = .ok (.iadd, 1) := by decide +kernel
theorem dX9_breaks_119 : decode cX9_breaks 119 = .ok (.istore_n 1, 1) := by decide +kernel
theorem dX9_breaks_120 : decode cX9_breaks 120 = .ok (.aload_n 0, 1) := by decide +kernel
theorem dX9_breaks_121 : decode cX9_breaks 121 = .ok (.getfield 56, 3) := by decide +kernel
theorem dX9_breaks_124 : decode cX9_breaks 124 = .ok (.iload 6, 2) := by decide +kernel
theorem dX9_breaks_126 : decode cX9_breaks 126 = .ok (.iaload, 1) := by decide +kernel
theorem dX9_breaks_127 : decode cX9_breaks 127 = .ok (.istore_n 3, 1) := by decide +kernel
theorem dX9_breaks_128 : decode cX9_breaks 128 = .ok (.iinc 5 1, 3) := by decide +kernel
theorem dX9_breaks_131 : decode cX9_breaks 131 = .ok (.goto (-84), 3) := by decide +kernel
theorem dX9_breaks_134 : decode cX9_breaks 134 = .ok (.iinc 4 1, 3) := by decide +kernel
theorem dX9_breaks_137 : decode cX9_breaks 137 = .ok (.goto (-115), 3) := by decide +kernel
theorem dX9_breaks_140 : decode cX9_breaks 140 = .ok (.iinc 2 1, 3) := by decide +kernel
theorem dX9_breaks_143 : decode cX9_breaks 143 = .ok (.goto (-134), 3) := by decide +kernel
theorem dX9_breaks_146 : decode cX9_breaks 146 = .ok (.iload_n 1, 1) := by decide +kernel
theorem dX9_breaks_147 : decode cX9_breaks 147 = .ok (.ireturn, 1) := by decide +kernel
theorem dX9_tell_0 : decode cX9_tell 0 = .ok (.aload_n 0, 1) := by decide +kernel
theorem dX9_tell_1 : decode cX9_tell 1 = .ok (.iload_n 1, 1) := by decide +kernel
theorem dX9_tell_2 : decode cX9_tell 2 = .ok (.iconst 0, 1) := by decide +kernel
theorem dX9_tell_3 : decode cX9_tell 3 = .ok (.bipush 9, 2) := by decide +kernel
theorem dX9_tell_5 : decode cX9_tell 5 = .ok (.invokestatic 117, 3) := by decide +kernel
theorem dX9_tell_8 : decode cX9_tell 8 = .ok (.ifCond .ne 7, 3) := by decide +kernel
theorem dX9_tell_11 : decode cX9_tell 11 = .ok (.iconst 1, 1) := by decide +kernel
theorem dX9_tell_12 : decode cX9_tell 12 = .ok (.goto 41, 3) := by decide +kernel
theorem dX9_tell_15 : decode cX9_tell 15 = .ok (.iload_n 2, 1) := by decide +kernel
theorem dX9_tell_16 : decode cX9_tell 16 = .ok (.iconst 0, 1) := by decide +kernel
theorem dX9_tell_17 : decode cX9_tell 17 = .ok (.bipush 99, 2) := by decide +kernel
theorem dX9_tell_19 : decode cX9_tell 19 = .ok (.invokestatic 117, 3) := by decide +kernel
theorem dX9_tell_22 : decode cX9_tell 22 = .ok (.ifCond .eq 13, 3) := by decide +kernel
theorem dX9_tell_25 : decode cX9_tell 25 = .ok (.iload_n 3, 1) := by decide +kernel
theorem dX9_tell_26 : decode cX9_tell 26 = .ok (.iconst 0, 1) := by decide +kernel
theorem dX9_tell_27 : decode cX9_tell 27 = .ok (.bipush 9, 2) := by decide +kernel
theorem dX9_tell_29 : decode cX9_tell 29 = .ok (.invokestatic 117, 3) := by decide +kernel
theorem dX9_tell_32 : decode cX9_tell 32 = .ok (.ifCond .ne 7, 3) := by decide +kernel
theorem dX9_tell_35 : decode cX9_tell 35 = .ok (.iconst 2, 1) := by decide +kernel
theorem dX9_tell_36 : decode cX9_tell 36 = .ok (.goto 17, 3) := by decide +kernel
theorem dX9_tell_39 : decode cX9_tell 39 = .ok (.aload_n 0, 1) := by decide +kernel
theorem dX9_tell_40 : decode cX9_tell 40 = .ok (.getfield 198, 3) := by decide +kernel
theorem dX9_tell_43 : decode cX9_tell 43 = .ok (.bipush 40, 2) := by decide +kernel
theorem dX9_tell_45 : decode cX9_tell 45 = .ok (.if_icmp .ne 7, 3) := by decide +kernel
theorem dX9_tell_48 : decode cX9_tell 48 = .ok (.iconst 3, 1) := by decide +kernel
theorem dX9_tell_49 : decode cX9_tell 49 = .ok (.goto 4, 3) := by decide +kernel
theorem dX9_tell_52 : decode cX9_tell 52 = .ok (.iconst 0, 1) := by decide +kernel
theorem dX9_tell_53 : decode cX9_tell 53 = .ok (.putfield 111, 3) := by decide +kernel
theorem dX9_tell_56 : decode cX9_tell 56 = .ok (.aload_n 0, 1) := by decide +kernel
theorem dX9_tell_57 : decode cX9_tell 57 = .ok (.getfield 111, 3) := by decide +kernel
theorem dX9_tell_60 : decode cX9_tell 60 = .ok (.ifCond .le 5, 3) := by decide +kernel
theorem dX9_tell_63 : decode cX9_tell 63 = .ok (.iconst 0, 1) := by decide +kernel
theorem dX9_tell_64 : decode cX9_tell 64 = .ok (.ireturn, 1) := by decide +kernel
theorem dX9_tell_65 : decode cX9_tell 65 = .ok (.aload_n 0, 1) := by decide +kernel
theorem dX9_tell_66 : decode cX9_tell 66 = .ok (.getfield 83, 3) := by decide +kernel
theorem dX9_tell_69 : decode cX9_tell 69 = .ok (.aload_n 0, 1) := by decide +kernel
theorem dX9_tell_70 : decode cX9_tell 70 = .ok (.getfield 198, 3) := by decide +kernel
theorem dX9_tell_73 : decode cX9_tell 73 = .ok (.iload_n 1, 1) := by decide +kernel
theorem dX9_tell_74 : decode cX9_tell 74 = .ok (.iastore, 1) := by decide +kernel
theorem dX9_tell_75 : decode cX9_tell 75 = .ok (.aload_n 0, 1) := by decide +kernel
theorem dX9_tell_76 : decode cX9_tell 76 = .ok (.getfield 86, 3) := by decide +kernel
theorem dX9_tell_79 : decode cX9_tell 79 = .ok (.aload_n 0, 1) := by decide +kernel
theorem dX9_tell_80 : decode cX9_tell 80 = .ok (.getfield 198, 3) := by decide +kernel
theorem dX9_tell_83 : decode cX9_tell 83 = .ok (.iload_n 2, 1) := by decide +kernel
theorem dX9_tell_84 : decode cX9_tell 84 = .ok (.iastore, 1) := by decide +kernel
theorem dX9_tell_85 : decode cX9_tell 85 = .ok (.aload_n 0, 1) := by decide +kernel
theorem dX9_tell_86 : decode cX9_tell 86 = .ok (.getfield 89, 3) := by decide +kernel
theorem dX9_tell_89 : decode cX9_tell 89 = .ok (.aload_n 0, 1) := by decide +kernel
theorem dX9_tell_90 : decode cX9_tell 90 = .ok (.getfield 198, 3) := by decide +kernel
theorem dX9_tell_93 : decode cX9_tell 93 = .ok (.iload_n 3, 1) := by decide +kernel
theorem dX9_tell_94 : decode cX9_tell 94 = .ok (.iastore, 1) := by decide +kernel
theorem dX9_tell_95 : decode cX9_tell 95 = .ok (.aload_n 0, 1) := by decide +kernel
theorem dX9_tell_96 : decode cX9_tell 96 = .ok (.getfield 92, 3) := by decide +kernel
theorem dX9_tell_99 : decode cX9_tell 99 = .ok (.aload_n 0, 1) := by decide +kernel
theorem dX9_tell_100 : decode cX9_tell 100 = .ok (.getfield 198, 3) := by decide +kernel
theorem dX9_tell_103 : decode cX9_tell 103 = .ok (.iload 4, 2) := by decide +kernel
theorem dX9_tell_105 : decode cX9_tell 105 = .ok (.bastore, 1) := by decide +kernel
theorem dX9_tell_106 : decode cX9_tell 106 = .ok (.aload_n 0, 1) := by decide +kernel
theorem dX9_tell_107 : decode cX9_tell 107 = .ok (.getfield 95, 3) := by decide +kernel
theorem dX9_tell_110 : decode cX9_tell 110 = .ok (.aload_n 0, 1) := by decide +kernel
theorem dX9_tell_111 : decode cX9_tell 111 = .ok (.getfield 198, 3) := by decide +kernel
theorem dX9_tell_114 : decode cX9_tell 114 = .ok (.aload_n 0, 1) := by decide +kernel
theorem dX9_tell_115 : decode cX9_tell 115 = .ok (.getfield 201, 3) := by decide +kernel
theorem dX9_tell_118 : decode cX9_tell 118 = .ok (.iastore, 1) := by decide +kernel
theorem dX9_tell_119 : decode cX9_tell 119 = .ok (.aload_n 0, 1) := by decide +kernel
theorem dX9_tell_120 : decode cX9_tell 120 = .ok (.dup, 1) := by decide +kernel
theorem dX9_tell_121 : decode cX9_tell 121 = .ok (.getfield 198, 3) := by decide +kernel
theorem dX9_tell_124 : decode cX9_tell 124 = .ok (.iconst 1, 1) := by decide +kernel
theorem dX9_tell_125 : decode cX9_tell 125 = .ok (.iadd, 1) := by decide +kernel
theorem dX9_tell_126 : decode cX9_tell 126 = .ok (.putfield 198, 3) := by decide +kernel
theorem dX9_tell_129 : decode cX9_tell 129 = .ok (.aload_n 0, 1) := by decide +kernel
theorem dX9_tell_130 : decode cX9_tell 130 = .ok (.getfield 198, 3) := by decide +kernel
theorem dX9_tell_133 : decode cX9_tell 133 = .ok (.iconst 1, 1) := by decide +kernel
theorem dX9_tell_134 : decode cX9_tell 134 = .ok (.isub, 1) := by decide +kernel
theorem dX9_tell_135 : decode cX9_tell 135 = .ok (.ireturn, 1) := by decide +kernel
theorem dX9_known_0 : decode cX9_known 0 = .ok (.aload_n 0, 1) := by decide +kernel
theorem dX9_known_1 : decode cX9_known 1 = .ok (.iload_n 1, 1) := by decide +kernel
theorem dX9_known_2 : decode cX9_known 2 = .ok (.iconst 0, 1) := by decide +kernel
theorem dX9_known_3 : decode cX9_known 3 = .ok (.bipush 9, 2) := by decide +kernel
theorem dX9_known_5 : decode cX9_known 5 = .ok (.invokestatic 117, 3) := by decide +kernel
theorem dX9_known_8 : decode cX9_known 8 = .ok (.ifCond .ne 7, 3) := by decide +kernel
theorem dX9_known_11 : decode cX9_known 11 = .ok (.iconst 1, 1) := by decide +kernel
theorem dX9_known_12 : decode cX9_known 12 = .ok (.goto 29, 3) := by decide +kernel
theorem dX9_known_15 : decode cX9_known 15 = .ok (.iload_n 2, 1) := by decide +kernel
theorem dX9_known_16 : decode cX9_known 16 = .ok (.iconst 0, 1) := by decide +kernel
theorem dX9_known_17 : decode cX9_known 17 = .ok (.bipush 99, 2) := by decide +kernel
theorem dX9_known_19 : decode cX9_known 19 = .ok (.invokestatic 117, 3) := by decide +kernel
theorem dX9_known_22 : decode cX9_known 22 = .ok (.ifCond .eq 14, 3) := by decide +kernel
theorem dX9_known_25 : decode cX9_known 25 = .ok (.iload_n 3, 1) := by decide +kernel
theorem dX9_known_26 : decode cX9_known 26 = .ok (.iconst 0, 1) := by decide +kernel
theorem dX9_known_27 : decode cX9_known 27 = .ok (.sipush 200, 3) := by decide +kernel
theorem dX9_known_30 : decode cX9_known 30 = .ok (.invokestatic 117, 3) := by decide +kernel
theorem dX9_known_33 : decode cX9_known 33 = .ok (.ifCond .ne 7, 3) := by decide +kernel
theorem dX9_known_36 : decode cX9_known 36 = .ok (.iconst 2, 1) := by decide +kernel
theorem dX9_known_37 : decode cX9_known 37 = .ok (.goto 4, 3) := by decide +kernel
theorem dX9_known_40 : decode cX9_known 40 = .ok (.iconst 0, 1) := by decide +kernel
theorem dX9_known_41 : decode cX9_known 41 = .ok (.putfield 111, 3) := by decide +kernel
theorem dX9_known_44 : decode cX9_known 44 = .ok (.iconst (-1), 1) := by decide +kernel
theorem dX9_known_45 : decode cX9_known 45 = .ok (.istore 4, 2) := by decide +kernel
theorem dX9_known_47 : decode cX9_known 47 = .ok (.iconst 0, 1) := by decide +kernel
theorem dX9_known_48 : decode cX9_known 48 = .ok (.istore 5, 2) := by decide +kernel
theorem dX9_known_50 : decode cX9_known 50 = .ok (.iload 5, 2) := by decide +kernel
theorem dX9_known_52 : decode cX9_known 52 = .ok (.aload_n 0, 1) := by decide +kernel
theorem dX9_known_53 : decode cX9_known 53 = .ok (.getfield 198, 3) := by decide +kernel
theorem dX9_known_56 : decode cX9_known 56 = .ok (.if_icmp .ge 130, 3) := by decide +kernel
theorem dX9_known_59 : decode cX9_known 59 = .ok (.aload_n 0, 1) := by decide +kernel
theorem dX9_known_60 : decode cX9_known 60 = .ok (.getfield 111, 3) := by decide +kernel
theorem dX9_known_63 : decode cX9_known 63 = .ok (.ifCond .ne 123, 3) := by decide +kernel
theorem dX9_known_66 : decode cX9_known 66 = .ok (.aload_n 0, 1) := by decide +kernel
theorem dX9_known_67 : decode cX9_known 67 = .ok (.getfield 83, 3) := by decide +kernel
theorem dX9_known_70 : decode cX9_known 70 = .ok (.iload 5, 2) := by decide +kernel
theorem dX9_known_72 : decode cX9_known 72 = .ok (.iaload, 1) := by decide +kernel
theorem dX9_known_73 : decode cX9_known 73 = .ok (.iload_n 1, 1) := by decide +kernel
theorem dX9_known_74 : decode cX9_known 74 = .ok (.if_icmp .ne 106, 3) := by decide +kernel
theorem dX9_known_77 : decode cX9_known 77 = .ok (.aload_n 0, 1) := by decide +kernel
theorem dX9_known_78 : decode cX9_known 78 = .ok (.getfield 86, 3) := by decide +kernel
theorem dX9_known_81 : decode cX9_known 81 = .ok (.iload 5, 2) := by decide +kernel
theorem dX9_known_83 : decode cX9_known 83 = .ok (.iaload, 1) := by decide +kernel
theorem dX9_known_84 : decode cX9_known 84 = .ok (.iload_n 2, 1) := by decide +kernel
theorem dX9_known_85 : decode cX9_known 85 = .ok (.if_icmp .gt 95, 3) := by decide +kernel
theorem dX9_known_88 : decode cX9_known 88 = .ok (.aload_n 0, 1) := by decide +kernel
theorem dX9_known_89 : decode cX9_known 89 = .ok (.getfield 95, 3) := by decide +kernel
theorem dX9_known_92 : decode cX9_known 92 = .ok (.iload 5, 2) := by decide +kernel
theorem dX9_known_94 : decode cX9_known 94 = .ok (.iaload, 1) := by decide +kernel
theorem dX9_known_95 : decode cX9_known 95 = .ok (.iload_n 3, 1) := by decide +kernel
theorem dX9_known_96 : decode cX9_known 96 = .ok (.if_icmp .gt 84, 3) := by decide +kernel
theorem dX9_known_99 : decode cX9_known 99 = .ok (.iload 4, 2) := by decide +kernel
theorem dX9_known_101 : decode cX9_known 101 = .ok (.iconst (-1), 1) := by decide +kernel
theorem dX9_known_102 : decode cX9_known 102 = .ok (.if_icmp .eq 57, 3) := by decide +kernel
theorem dX9_known_105 : decode cX9_known 105 = .ok (.aload_n 0, 1) := by decide +kernel
theorem dX9_known_106 : decode cX9_known 106 = .ok (.getfield 86, 3) := by decide +kernel
theorem dX9_known_109 : decode cX9_known 109 = .ok (.iload 5, 2) := by decide +kernel
theorem dX9_known_111 : decode cX9_known 111 = .ok (.iaload, 1) := by decide +kernel
theorem dX9_known_112 : decode cX9_known 112 = .ok (.aload_n 0, 1) := by decide +kernel
theorem dX9_known_113 : decode cX9_known 113 = .ok (.getfield 86, 3) := by decide +kernel
theorem dX9_known_116 : decode cX9_known 116 = .ok (.iload 4, 2) := by decide +kernel
theorem dX9_known_118 : decode cX9_known 118 = .ok (.iaload, 1) := by decide +kernel
theorem dX9_known_119 : decode cX9_known 119 = .ok (.if_icmp .gt 40, 3) := by decide +kernel
theorem dX9_known_122 : decode cX9_known 122 = .ok (.aload_n 0, 1) := by decide +kernel
theorem dX9_known_123 : decode cX9_known 123 = .ok (.getfield 86, 3) := by decide +kernel
theorem dX9_known_126 : decode cX9_known 126 = .ok (.iload 5, 2) := by decide +kernel
theorem dX9_known_128 : decode cX9_known 128 = .ok (.iaload, 1) := by decide +kernel
theorem dX9_known_129 : decode cX9_known 129 = .ok (.aload_n 0, 1) := by decide +kernel
theorem dX9_known_130 : decode cX9_known 130 = .ok (.getfield 86, 3) := by decide +kernel
theorem dX9_known_133 : decode cX9_known 133 = .ok (.iload 4, 2) := by decide +kernel
theorem dX9_known_135 : decode cX9_known 135 = .ok (.iaload, 1) := by decide +kernel
theorem dX9_known_136 : decode cX9_known 136 = .ok (.if_icmp .ne 27, 3) := by decide +kernel
theorem dX9_known_139 : decode cX9_known 139 = .ok (.aload_n 0, 1) := by decide +kernel
theorem dX9_known_140 : decode cX9_known 140 = .ok (.getfield 92, 3) := by decide +kernel
theorem dX9_known_143 : decode cX9_known 143 = .ok (.iload 5, 2) := by decide +kernel
theorem dX9_known_145 : decode cX9_known 145 = .ok (.baload, 1) := by decide +kernel
theorem dX9_known_146 : decode cX9_known 146 = .ok (.ifCond .ne 13, 3) := by decide +kernel
theorem dX9_known_149 : decode cX9_known 149 = .ok (.aload_n 0, 1) := by decide +kernel
theorem dX9_known_150 : decode cX9_known 150 = .ok (.getfield 92, 3) := by decide +kernel
theorem dX9_known_153 : decode cX9_known 153 = .ok (.iload 4, 2) := by decide +kernel
theorem dX9_known_155 : decode cX9_known 155 = .ok (.baload, 1) := by decide +kernel
theorem dX9_known_156 : decode cX9_known 156 = .ok (.ifCond .ne 7, 3) := by decide +kernel
theorem dX9_known_159 : decode cX9_known 159 = .ok (.iconst 1, 1) := by decide +kernel
theorem dX9_known_160 : decode cX9_known 160 = .ok (.goto 4, 3) := by decide +kernel
theorem dX9_known_163 : decode cX9_known 163 = .ok (.iconst 0, 1) := by decide +kernel
theorem dX9_known_164 : decode cX9_known 164 = .ok (.istore 6, 2) := by decide +kernel
theorem dX9_known_166 : decode cX9_known 166 = .ok (.iload 6, 2) := by decide +kernel
theorem dX9_known_168 : decode cX9_known 168 = .ok (.ifCond .eq 8, 3) := by decide +kernel
theorem dX9_known_171 : decode cX9_known 171 = .ok (.iload 5, 2) := by decide +kernel
theorem dX9_known_173 : decode cX9_known 173 = .ok (.goto 5, 3) := by decide +kernel
theorem dX9_known_176 : decode cX9_known 176 = .ok (.iload 4, 2) := by decide +kernel
theorem dX9_known_178 : decode cX9_known 178 = .ok (.istore 4, 2) := by decide +kernel
theorem dX9_known_180 : decode cX9_known 180 = .ok (.iinc 5 1, 3) := by decide +kernel
theorem dX9_known_183 : decode cX9_known 183 = .ok (.goto (-133), 3) := by decide +kernel
theorem dX9_known_186 : decode cX9_known 186 = .ok (.aload_n 0, 1) := by decide +kernel
theorem dX9_known_187 : decode cX9_known 187 = .ok (.getfield 111, 3) := by decide +kernel
theorem dX9_known_190 : decode cX9_known 190 = .ok (.ifCond .le 7, 3) := by decide +kernel
theorem dX9_known_193 : decode cX9_known 193 = .ok (.iconst 0, 1) := by decide +kernel
theorem dX9_known_194 : decode cX9_known 194 = .ok (.goto 20, 3) := by decide +kernel
theorem dX9_known_197 : decode cX9_known 197 = .ok (.iload 4, 2) := by decide +kernel
theorem dX9_known_199 : decode cX9_known 199 = .ok (.iconst (-1), 1) := by decide +kernel
theorem dX9_known_200 : decode cX9_known 200 = .ok (.if_icmp .ne 7, 3) := by decide +kernel
theorem dX9_known_203 : decode cX9_known 203 = .ok (.iconst (-1), 1) := by decide +kernel
theorem dX9_known_204 : decode cX9_known 204 = .ok (.goto 10, 3) := by decide +kernel
theorem dX9_known_207 : decode cX9_known 207 = .ok (.aload_n 0, 1) := by decide +kernel
theorem dX9_known_208 : decode cX9_known 208 = .ok (.getfield 89, 3) := by decide +kernel
theorem dX9_known_211 : decode cX9_known 211 = .ok (.iload 4, 2) := by decide +kernel
theorem dX9_known_213 : decode cX9_known 213 = .ok (.iaload, 1) := by decide +kernel
theorem dX9_known_214 : decode cX9_known 214 = .ok (.ireturn, 1) := by decide +kernel
theorem dX9_contradictions_0 : decode cX9_contradictions 0 = .ok (.aload_n 0, 1) := by decide +kernel
theorem dX9_contradictions_1 : decode cX9_contradictions 1 = .ok (.iload_n 1, 1) := by decide +kernel
theorem dX9_contradictions_2 : decode cX9_contradictions 2 = .ok (.iconst 0, 1) := by decide +kernel
theorem dX9_contradictions_3 : decode cX9_contradictions 3 = .ok (.bipush 9, 2) := by decide +kernel
theorem dX9_contradictions_5 : decode cX9_contradictions 5 = .ok (.invokestatic 117, 3) := by decide +kernel
theorem dX9_contradictions_8 : decode cX9_contradictions 8 = .ok (.ifCond .eq 7, 3) := by decide +kernel
theorem dX9_contradictions_11 : decode cX9_contradictions 11 = .ok (.iconst 0, 1) := by decide +kernel
theorem dX9_contradictions_12 : decode cX9_contradictions 12 = .ok (.goto 4, 3) := by decide +kernel
theorem dX9_contradictions_15 : decode cX9_contradictions 15 = .ok (.iconst 1, 1) := by decide +kernel
theorem dX9_contradictions_16 : decode cX9_contradictions 16 = .ok (.putfield 111, 3) := by decide +kernel
theorem dX9_contradictions_19 : decode cX9_contradictions 19 = .ok (.iconst 0, 1) := by decide +kernel
theorem dX9_contradictions_20 : decode cX9_contradictions 20 = .ok (.istore_n 2, 1) := by decide +kernel
theorem dX9_contradictions_21 : decode cX9_contradictions 21 = .ok (.iconst 0, 1) := by decide +kernel
theorem dX9_contradictions_22 : decode cX9_contradictions 22 = .ok (.istore_n 3, 1) := by decide +kernel
theorem dX9_contradictions_23 : decode cX9_contradictions 23 = .ok (.iload_n 3, 1) := by decide +kernel
theorem dX9_contradictions_24 : decode cX9_contradictions 24 = .ok (.aload_n 0, 1) := by decide +kernel
theorem dX9_contradictions_25 : decode cX9_contradictions 25 = .ok (.getfield 198, 3) := by decide +kernel
theorem dX9_contradictions_28 : decode cX9_contradictions 28 = .ok (.if_icmp .ge 107, 3) := by decide +kernel
theorem dX9_contradictions_31 : decode cX9_contradictions 31 = .ok (.aload_n 0, 1) := by decide +kernel
theorem dX9_contradictions_32 : decode cX9_contradictions 32 = .ok (.getfield 111, 3) := by decide +kernel
theorem dX9_contradictions_35 : decode cX9_contradictions 35 = .ok (.ifCond .ne 100, 3) := by decide +kernel
theorem dX9_contradictions_38 : decode cX9_contradictions 38 = .ok (.iload_n 3, 1) := by decide +kernel
theorem dX9_contradictions_39 : decode cX9_contradictions 39 = .ok (.iconst 1, 1) := by decide +kernel
theorem dX9_contradictions_40 : decode cX9_contradictions 40 = .ok (.iadd, 1) := by decide +kernel
theorem dX9_contradictions_41 : decode cX9_contradictions 41 = .ok (.istore 4, 2) := by decide +kernel
theorem dX9_contradictions_43 : decode cX9_contradictions 43 = .ok (.iload 4, 2) := by decide +kernel
theorem dX9_contradictions_45 : decode cX9_contradictions 45 = .ok (.aload_n 0, 1) := by decide +kernel
theorem dX9_contradictions_46 : decode cX9_contradictions 46 = .ok (.getfield 198, 3) := by decide +kernel
theorem dX9_contradictions_49 : decode cX9_contradictions 49 = .ok (.if_icmp .ge 80, 3) := by decide +kernel
theorem dX9_contradictions_52 : decode cX9_contradictions 52 = .ok (.iload_n 2, 1) := by decide +kernel
theorem dX9_contradictions_53 : decode cX9_contradictions 53 = .ok (.aload_n 0, 1) := by decide +kernel
theorem dX9_contradictions_54 : decode cX9_contradictions 54 = .ok (.getfield 83, 3) := by decide +kernel
theorem dX9_contradictions_57 : decode cX9_contradictions 57 = .ok (.iload_n 3, 1) := by decide +kernel
theorem dX9_contradictions_58 : decode cX9_contradictions 58 = .ok (.iaload, 1) := by decide +kernel
theorem dX9_contradictions_59 : decode cX9_contradictions 59 = .ok (.iload_n 1, 1) := by decide +kernel
theorem dX9_contradictions_60 : decode cX9_contradictions 60 = .ok (.if_icmp .ne 60, 3) := by decide +kernel
theorem dX9_contradictions_63 : decode cX9_contradictions 63 = .ok (.aload_n 0, 1) := by decide +kernel
theorem dX9_contradictions_64 : decode cX9_contradictions 64 = .ok (.getfield 83, 3) := by decide +kernel
theorem dX9_contradictions_67 : decode cX9_contradictions 67 = .ok (.iload 4, 2) := by decide +kernel
theorem dX9_contradictions_69 : decode cX9_contradictions 69 = .ok (.iaload, 1) := by decide +kernel
theorem dX9_contradictions_70 : decode cX9_contradictions 70 = .ok (.iload_n 1, 1) := by decide +kernel
theorem dX9_contradictions_71 : decode cX9_contradictions 71 = .ok (.if_icmp .ne 49, 3) := by decide +kernel
theorem dX9_contradictions_74 : decode cX9_contradictions 74 = .ok (.aload_n 0, 1) := by decide +kernel
theorem dX9_contradictions_75 : decode cX9_contradictions 75 = .ok (.getfield 86, 3) := by decide +kernel
theorem dX9_contradictions_78 : decode cX9_contradictions 78 = .ok (.iload_n 3, 1) := by decide +kernel
theorem dX9_contradictions_79 : decode cX9_contradictions 79 = .ok (.iaload, 1) := by decide +kernel
theorem dX9_contradictions_80 : decode cX9_contradictions 80 = .ok (.aload_n 0, 1) := by decide +kernel
theorem dX9_contradictions_81 : decode cX9_contradictions 81 = .ok (.getfield 86, 3) := by decide +kernel
theorem dX9_contradictions_84 : decode cX9_contradictions 84 = .ok (.iload 4, 2) := by decide +kernel
theorem dX9_contradictions_86 : decode cX9_contradictions 86 = .ok (.iaload, 1) := by decide +kernel
theorem dX9_contradictions_87 : decode cX9_contradictions 87 = .ok (.if_icmp .ne 33, 3) := by decide +kernel
theorem dX9_contradictions_90 : decode cX9_contradictions 90 = .ok (.aload_n 0, 1) := by decide +kernel
theorem dX9_contradictions_91 : decode cX9_contradictions 91 = .ok (.getfield 89, 3) := by decide +kernel
theorem dX9_contradictions_94 : decode cX9_contradictions 94 = .ok (.iload_n 3, 1) := by decide +kernel
theorem dX9_contradictions_95 : decode cX9_contradictions 95 = .ok (.iaload, 1) := by decide +kernel
theorem dX9_contradictions_96 : decode cX9_contradictions 96 = .ok (.aload_n 0, 1) := by decide +kernel
theorem dX9_contradictions_97 : decode cX9_contradictions 97 = .ok (.getfield 89, 3) := by decide +kernel
theorem dX9_contradictions_100 : decode cX9_contradictions 100 = .ok (.iload 4, 2) := by decide +kernel
theorem dX9_contradictions_102 : decode cX9_contradictions 102 = .ok (.iaload, 1) := by decide +kernel
theorem dX9_contradictions_103 : decode cX9_contradictions 103 = .ok (.if_icmp .eq 17, 3) := by decide +kernel
theorem dX9_contradictions_106 : decode cX9_contradictions 106 = .ok (.aload_n 0, 1) := by decide +kernel
theorem dX9_contradictions_107 : decode cX9_contradictions 107 = .ok (.getfield 92, 3) := by decide +kernel
theorem dX9_contradictions_110 : decode cX9_contradictions 110 = .ok (.iload 4, 2) := by decide +kernel
theorem dX9_contradictions_112 : decode cX9_contradictions 112 = .ok (.baload, 1) := by decide +kernel
theorem dX9_contradictions_113 : decode cX9_contradictions 113 = .ok (.ifCond .ne 7, 3) := by decide +kernel
theorem dX9_contradictions_116 : decode cX9_contradictions 116 = .ok (.iconst 1, 1) := by decide +kernel
theorem dX9_contradictions_117 : decode cX9_contradictions 117 = .ok (.goto 4, 3) := by decide +kernel
theorem dX9_contradictions_120 : decode cX9_contradictions 120 = .ok (.iconst 0, 1) := by decide +kernel
theorem dX9_contradictions_121 : decode cX9_contradictions 121 = .ok (.iadd, 1) := by decide +kernel
theorem dX9_contradictions_122 : decode cX9_contradictions 122 = .ok (.istore_n 2, 1) := by decide +kernel
theorem dX9_contradictions_123 : decode cX9_contradictions 123 = .ok (.iinc 4 1, 3) := by decide +kernel
theorem dX9_contradictions_126 : decode cX9_contradictions 126 = .ok (.goto (-83), 3) := by decide +kernel
theorem dX9_contradictions_129 : decode cX9_contradictions 129 = .ok (.iinc 3 1, 3) := by decide +kernel
theorem dX9_contradictions_132 : decode cX9_contradictions 132 = .ok (.goto (-109), 3) := by decide +kernel
theorem dX9_contradictions_135 : decode cX9_contradictions 135 = .ok (.iload_n 2, 1) := by decide +kernel
theorem dX9_contradictions_136 : decode cX9_contradictions 136 = .ok (.ireturn, 1) := by decide +kernel
theorem dX9_workers_0 : decode cX9_workers 0 = .ok (.aload_n 0, 1) := by decide +kernel
theorem dX9_workers_1 : decode cX9_workers 1 = .ok (.iload_n 1, 1) := by decide +kernel
theorem dX9_workers_2 : decode cX9_workers 2 = .ok (.iconst 1, 1) := by decide +kernel
theorem dX9_workers_3 : decode cX9_workers 3 = .ok (.iconst 5, 1) := by decide +kernel
theorem dX9_workers_4 : decode cX9_workers 4 = .ok (.invokestatic 117, 3) := by decide +kernel
theorem dX9_workers_7 : decode cX9_workers 7 = .ok (.ifCond .eq 7, 3) := by decide +kernel
theorem dX9_workers_10 : decode cX9_workers 10 = .ok (.iconst 0, 1) := by decide +kernel
theorem dX9_workers_11 : decode cX9_workers 11 = .ok (.goto 4, 3) := by decide +kernel
theorem dX9_workers_14 : decode cX9_workers 14 = .ok (.iconst 1, 1) := by decide +kernel
theorem dX9_workers_15 : decode cX9_workers 15 = .ok (.putfield 111, 3) := by decide +kernel
theorem dX9_workers_18 : decode cX9_workers 18 = .ok (.aload_n 0, 1) := by decide +kernel
theorem dX9_workers_19 : decode cX9_workers 19 = .ok (.getfield 111, 3) := by decide +kernel
theorem dX9_workers_22 : decode cX9_workers 22 = .ok (.ifCond .le 5, 3) := by decide +kernel
theorem dX9_workers_25 : decode cX9_workers 25 = .ok (.iconst 0, 1) := by decide +kernel
theorem dX9_workers_26 : decode cX9_workers 26 = .ok (.ireturn, 1) := by decide +kernel
theorem dX9_workers_27 : decode cX9_workers 27 = .ok (.aload_n 0, 1) := by decide +kernel
theorem dX9_workers_28 : decode cX9_workers 28 = .ok (.getfield 98, 3) := by decide +kernel
theorem dX9_workers_31 : decode cX9_workers 31 = .ok (.istore_n 2, 1) := by decide +kernel
theorem dX9_workers_32 : decode cX9_workers 32 = .ok (.aload_n 0, 1) := by decide +kernel
theorem dX9_workers_33 : decode cX9_workers 33 = .ok (.iload_n 1, 1) := by decide +kernel
theorem dX9_workers_34 : decode cX9_workers 34 = .ok (.putfield 98, 3) := by decide +kernel
theorem dX9_workers_37 : decode cX9_workers 37 = .ok (.iload_n 2, 1) := by decide +kernel
theorem dX9_workers_38 : decode cX9_workers 38 = .ok (.ireturn, 1) := by decide +kernel
theorem dX9_pass_0 : decode cX9_pass 0 = .ok (.aload_n 0, 1) := by decide +kernel
theorem dX9_pass_1 : decode cX9_pass 1 = .ok (.iload_n 1, 1) := by decide +kernel
theorem dX9_pass_2 : decode cX9_pass 2 = .ok (.iconst 1, 1) := by decide +kernel
theorem dX9_pass_3 : decode cX9_pass 3 = .ok (.bipush 50, 2) := by decide +kernel
theorem dX9_pass_5 : decode cX9_pass 5 = .ok (.invokestatic 117, 3) := by decide +kernel
theorem dX9_pass_8 : decode cX9_pass 8 = .ok (.ifCond .ne 7, 3) := by decide +kernel
theorem dX9_pass_11 : decode cX9_pass 11 = .ok (.iconst 1, 1) := by decide +kernel
theorem dX9_pass_12 : decode cX9_pass 12 = .ok (.goto 20, 3) := by decide +kernel
theorem dX9_pass_15 : decode cX9_pass 15 = .ok (.aload_n 0, 1) := by decide +kernel
theorem dX9_pass_16 : decode cX9_pass 16 = .ok (.getfield 201, 3) := by decide +kernel
theorem dX9_pass_19 : decode cX9_pass 19 = .ok (.iload_n 1, 1) := by decide +kernel
theorem dX9_pass_20 : decode cX9_pass 20 = .ok (.iadd, 1) := by decide +kernel
theorem dX9_pass_21 : decode cX9_pass 21 = .ok (.sipush 200, 3) := by decide +kernel
theorem dX9_pass_24 : decode cX9_pass 24 = .ok (.if_icmp .le 7, 3) := by decide +kernel
theorem dX9_pass_27 : decode cX9_pass 27 = .ok (.iconst 2, 1) := by decide +kernel
theorem dX9_pass_28 : decode cX9_pass 28 = .ok (.goto 4, 3) := by decide +kernel
theorem dX9_pass_31 : decode cX9_pass 31 = .ok (.iconst 0, 1) := by decide +kernel
theorem dX9_pass_32 : decode cX9_pass 32 = .ok (.putfield 111, 3) := by decide +kernel
theorem dX9_pass_35 : decode cX9_pass 35 = .ok (.iconst 0, 1) := by decide +kernel
theorem dX9_pass_36 : decode cX9_pass 36 = .ok (.istore_n 2, 1) := by decide +kernel
theorem dX9_pass_37 : decode cX9_pass 37 = .ok (.iload_n 2, 1) := by decide +kernel
theorem dX9_pass_38 : decode cX9_pass 38 = .ok (.iload_n 1, 1) := by decide +kernel
theorem dX9_pass_39 : decode cX9_pass 39 = .ok (.if_icmp .ge 78, 3) := by decide +kernel
theorem dX9_pass_42 : decode cX9_pass 42 = .ok (.aload_n 0, 1) := by decide +kernel
theorem dX9_pass_43 : decode cX9_pass 43 = .ok (.getfield 111, 3) := by decide +kernel
theorem dX9_pass_46 : decode cX9_pass 46 = .ok (.ifCond .ne 71, 3) := by decide +kernel
theorem dX9_pass_49 : decode cX9_pass 49 = .ok (.aload_n 0, 1) := by decide +kernel
theorem dX9_pass_50 : decode cX9_pass 50 = .ok (.getfield 98, 3) := by decide +kernel
theorem dX9_pass_53 : decode cX9_pass 53 = .ok (.istore_n 3, 1) := by decide +kernel
theorem dX9_pass_54 : decode cX9_pass 54 = .ok (.iconst 0, 1) := by decide +kernel
theorem dX9_pass_55 : decode cX9_pass 55 = .ok (.istore 4, 2) := by decide +kernel
theorem dX9_pass_57 : decode cX9_pass 57 = .ok (.iload 4, 2) := by decide +kernel
theorem dX9_pass_59 : decode cX9_pass 59 = .ok (.aload_n 0, 1) := by decide +kernel
theorem dX9_pass_60 : decode cX9_pass 60 = .ok (.getfield 114, 3) := by decide +kernel
theorem dX9_pass_63 : decode cX9_pass 63 = .ok (.if_icmp .ge 38, 3) := by decide +kernel
theorem dX9_pass_66 : decode cX9_pass 66 = .ok (.iload_n 3, 1) := by decide +kernel
theorem dX9_pass_67 : decode cX9_pass 67 = .ok (.ifCond .le 34, 3) := by decide +kernel
theorem dX9_pass_70 : decode cX9_pass 70 = .ok (.aload_n 0, 1) := by decide +kernel
theorem dX9_pass_71 : decode cX9_pass 71 = .ok (.getfield 20, 3) := by decide +kernel
theorem dX9_pass_74 : decode cX9_pass 74 = .ok (.iload 4, 2) := by decide +kernel
theorem dX9_pass_76 : decode cX9_pass 76 = .ok (.iaload, 1) := by decide +kernel
theorem dX9_pass_77 : decode cX9_pass 77 = .ok (.iconst 4, 1) := by decide +kernel
theorem dX9_pass_78 : decode cX9_pass 78 = .ok (.if_icmp .ge 17, 3) := by decide +kernel
theorem dX9_pass_81 : decode cX9_pass 81 = .ok (.aload_n 0, 1) := by decide +kernel
theorem dX9_pass_82 : decode cX9_pass 82 = .ok (.getfield 20, 3) := by decide +kernel
theorem dX9_pass_85 : decode cX9_pass 85 = .ok (.iload 4, 2) := by decide +kernel
theorem dX9_pass_87 : decode cX9_pass 87 = .ok (.dup2, 1) := by decide +kernel
theorem dX9_pass_88 : decode cX9_pass 88 = .ok (.iaload, 1) := by decide +kernel
theorem dX9_pass_89 : decode cX9_pass 89 = .ok (.iconst 1, 1) := by decide +kernel
theorem dX9_pass_90 : decode cX9_pass 90 = .ok (.iadd, 1) := by decide +kernel
theorem dX9_pass_91 : decode cX9_pass 91 = .ok (.iastore, 1) := by decide +kernel
theorem dX9_pass_92 : decode cX9_pass 92 = .ok (.iinc 3 (-1), 3) := by decide +kernel
theorem dX9_pass_95 : decode cX9_pass 95 = .ok (.iinc 4 1, 3) := by decide +kernel
theorem dX9_pass_98 : decode cX9_pass 98 = .ok (.goto (-41), 3) := by decide +kernel
theorem dX9_pass_101 : decode cX9_pass 101 = .ok (.aload_n 0, 1) := by decide +kernel
theorem dX9_pass_102 : decode cX9_pass 102 = .ok (.dup, 1) := by decide +kernel
theorem dX9_pass_103 : decode cX9_pass 103 = .ok (.getfield 201, 3) := by decide +kernel
theorem dX9_pass_106 : decode cX9_pass 106 = .ok (.iconst 1, 1) := by decide +kernel
theorem dX9_pass_107 : decode cX9_pass 107 = .ok (.iadd, 1) := by decide +kernel
theorem dX9_pass_108 : decode cX9_pass 108 = .ok (.putfield 201, 3) := by decide +kernel
theorem dX9_pass_111 : decode cX9_pass 111 = .ok (.iinc 2 1, 3) := by decide +kernel
theorem dX9_pass_114 : decode cX9_pass 114 = .ok (.goto (-77), 3) := by decide +kernel
theorem dX9_pass_117 : decode cX9_pass 117 = .ok (.aload_n 0, 1) := by decide +kernel
theorem dX9_pass_118 : decode cX9_pass 118 = .ok (.getfield 111, 3) := by decide +kernel
theorem dX9_pass_121 : decode cX9_pass 121 = .ok (.ifCond .ne 10, 3) := by decide +kernel
theorem dX9_pass_124 : decode cX9_pass 124 = .ok (.aload_n 0, 1) := by decide +kernel
theorem dX9_pass_125 : decode cX9_pass 125 = .ok (.getfield 201, 3) := by decide +kernel
theorem dX9_pass_128 : decode cX9_pass 128 = .ok (.goto 4, 3) := by decide +kernel
theorem dX9_pass_131 : decode cX9_pass 131 = .ok (.iconst 0, 1) := by decide +kernel
theorem dX9_pass_132 : decode cX9_pass 132 = .ok (.ireturn, 1) := by decide +kernel
theorem dX9_stage_0 : decode cX9_stage 0 = .ok (.aload_n 0, 1) := by decide +kernel
theorem dX9_stage_1 : decode cX9_stage 1 = .ok (.aload_n 0, 1) := by decide +kernel
theorem dX9_stage_2 : decode cX9_stage 2 = .ok (.iload_n 1, 1) := by decide +kernel
theorem dX9_stage_3 : decode cX9_stage 3 = .ok (.invokevirtual 121, 3) := by decide +kernel
theorem dX9_stage_6 : decode cX9_stage 6 = .ok (.ifCond .eq 7, 3) := by decide +kernel
theorem dX9_stage_9 : decode cX9_stage 9 = .ok (.iconst 0, 1) := by decide +kernel
theorem dX9_stage_10 : decode cX9_stage 10 = .ok (.goto 4, 3) := by decide +kernel
theorem dX9_stage_13 : decode cX9_stage 13 = .ok (.iconst 1, 1) := by decide +kernel
theorem dX9_stage_14 : decode cX9_stage 14 = .ok (.putfield 111, 3) := by decide +kernel
theorem dX9_stage_17 : decode cX9_stage 17 = .ok (.aload_n 0, 1) := by decide +kernel
theorem dX9_stage_18 : decode cX9_stage 18 = .ok (.getfield 111, 3) := by decide +kernel
theorem dX9_stage_21 : decode cX9_stage 21 = .ok (.ifCond .ne 12, 3) := by decide +kernel
theorem dX9_stage_24 : decode cX9_stage 24 = .ok (.aload_n 0, 1) := by decide +kernel
theorem dX9_stage_25 : decode cX9_stage 25 = .ok (.getfield 20, 3) := by decide +kernel
theorem dX9_stage_28 : decode cX9_stage 28 = .ok (.iload_n 1, 1) := by decide +kernel
theorem dX9_stage_29 : decode cX9_stage 29 = .ok (.iaload, 1) := by decide +kernel
theorem dX9_stage_30 : decode cX9_stage 30 = .ok (.goto 4, 3) := by decide +kernel
theorem dX9_stage_33 : decode cX9_stage 33 = .ok (.iconst 0, 1) := by decide +kernel
theorem dX9_stage_34 : decode cX9_stage 34 = .ok (.ireturn, 1) := by decide +kernel
theorem dX9_press_0 : decode cX9_press 0 = .ok (.aload_n 0, 1) := by decide +kernel
theorem dX9_press_1 : decode cX9_press 1 = .ok (.aload_n 0, 1) := by decide +kernel
theorem dX9_press_2 : decode cX9_press 2 = .ok (.iload_n 1, 1) := by decide +kernel
theorem dX9_press_3 : decode cX9_press 3 = .ok (.invokevirtual 121, 3) := by decide +kernel
theorem dX9_press_6 : decode cX9_press 6 = .ok (.ifCond .ne 7, 3) := by decide +kernel
theorem dX9_press_9 : decode cX9_press 9 = .ok (.iconst 1, 1) := by decide +kernel
theorem dX9_press_10 : decode cX9_press 10 = .ok (.goto 26, 3) := by decide +kernel
theorem dX9_press_13 : decode cX9_press 13 = .ok (.aload_n 0, 1) := by decide +kernel
theorem dX9_press_14 : decode cX9_press 14 = .ok (.getfield 20, 3) := by decide +kernel
theorem dX9_press_17 : decode cX9_press 17 = .ok (.iload_n 1, 1) := by decide +kernel
theorem dX9_press_18 : decode cX9_press 18 = .ok (.iaload, 1) := by decide +kernel
theorem dX9_press_19 : decode cX9_press 19 = .ok (.iconst 4, 1) := by decide +kernel
theorem dX9_press_20 : decode cX9_press 20 = .ok (.if_icmp .lt 11, 3) := by decide +kernel
theorem dX9_press_23 : decode cX9_press 23 = .ok (.aload_n 0, 1) := by decide +kernel
theorem dX9_press_24 : decode cX9_press 24 = .ok (.iload_n 1, 1) := by decide +kernel
theorem dX9_press_25 : decode cX9_press 25 = .ok (.invokevirtual 129, 3) := by decide +kernel
theorem dX9_press_28 : decode cX9_press 28 = .ok (.ifCond .eq 7, 3) := by decide +kernel
theorem dX9_press_31 : decode cX9_press 31 = .ok (.iconst 2, 1) := by decide +kernel
theorem dX9_press_32 : decode cX9_press 32 = .ok (.goto 4, 3) := by decide +kernel
theorem dX9_press_35 : decode cX9_press 35 = .ok (.iconst 0, 1) := by decide +kernel
theorem dX9_press_36 : decode cX9_press 36 = .ok (.putfield 111, 3) := by decide +kernel
theorem dX9_press_39 : decode cX9_press 39 = .ok (.aload_n 0, 1) := by decide +kernel
theorem dX9_press_40 : decode cX9_press 40 = .ok (.getfield 111, 3) := by decide +kernel
theorem dX9_press_43 : decode cX9_press 43 = .ok (.ifCond .le 5, 3) := by decide +kernel
theorem dX9_press_46 : decode cX9_press 46 = .ok (.iconst 0, 1) := by decide +kernel
theorem dX9_press_47 : decode cX9_press 47 = .ok (.ireturn, 1) := by decide +kernel
theorem dX9_press_48 : decode cX9_press 48 = .ok (.aload_n 0, 1) := by decide +kernel
theorem dX9_press_49 : decode cX9_press 49 = .ok (.iload_n 1, 1) := by decide +kernel
theorem dX9_press_50 : decode cX9_press 50 = .ok (.aload_n 0, 1) := by decide +kernel
theorem dX9_press_51 : decode cX9_press 51 = .ok (.getfield 7, 3) := by decide +kernel
theorem dX9_press_54 : decode cX9_press 54 = .ok (.iload_n 1, 1) := by decide +kernel
theorem dX9_press_55 : decode cX9_press 55 = .ok (.baload, 1) := by decide +kernel
theorem dX9_press_56 : decode cX9_press 56 = .ok (.invokevirtual 155, 3) := by decide +kernel
theorem dX9_press_59 : decode cX9_press 59 = .ok (.aload_n 0, 1) := by decide +kernel
theorem dX9_press_60 : decode cX9_press 60 = .ok (.getfield 23, 3) := by decide +kernel
theorem dX9_press_63 : decode cX9_press 63 = .ok (.iload_n 1, 1) := by decide +kernel
theorem dX9_press_64 : decode cX9_press 64 = .ok (.aload_n 0, 1) := by decide +kernel
theorem dX9_press_65 : decode cX9_press 65 = .ok (.getfield 201, 3) := by decide +kernel
theorem dX9_press_68 : decode cX9_press 68 = .ok (.iastore, 1) := by decide +kernel
theorem dX9_press_69 : decode cX9_press 69 = .ok (.aload_n 0, 1) := by decide +kernel
theorem dX9_press_70 : decode cX9_press 70 = .ok (.getfield 26, 3) := by decide +kernel
theorem dX9_press_73 : decode cX9_press 73 = .ok (.iload_n 1, 1) := by decide +kernel
theorem dX9_press_74 : decode cX9_press 74 = .ok (.aload_n 0, 1) := by decide +kernel
theorem dX9_press_75 : decode cX9_press 75 = .ok (.getfield 13, 3) := by decide +kernel
theorem dX9_press_78 : decode cX9_press 78 = .ok (.iload_n 1, 1) := by decide +kernel
theorem dX9_press_79 : decode cX9_press 79 = .ok (.iaload, 1) := by decide +kernel
theorem dX9_press_80 : decode cX9_press 80 = .ok (.iastore, 1) := by decide +kernel
theorem dX9_press_81 : decode cX9_press 81 = .ok (.iconst 0, 1) := by decide +kernel
theorem dX9_press_82 : decode cX9_press 82 = .ok (.istore_n 2, 1) := by decide +kernel
theorem dX9_press_83 : decode cX9_press 83 = .ok (.iload_n 2, 1) := by decide +kernel
theorem dX9_press_84 : decode cX9_press 84 = .ok (.bipush 8, 2) := by decide +kernel
theorem dX9_press_86 : decode cX9_press 86 = .ok (.if_icmp .ge 38, 3) := by decide +kernel
theorem dX9_press_89 : decode cX9_press 89 = .ok (.aload_n 0, 1) := by decide +kernel
theorem dX9_press_90 : decode cX9_press 90 = .ok (.getfield 32, 3) := by decide +kernel
theorem dX9_press_93 : decode cX9_press 93 = .ok (.bipush 8, 2) := by decide +kernel
theorem dX9_press_95 : decode cX9_press 95 = .ok (.iload_n 1, 1) := by decide +kernel
theorem dX9_press_96 : decode cX9_press 96 = .ok (.imul, 1) := by decide +kernel
theorem dX9_press_97 : decode cX9_press 97 = .ok (.iload_n 2, 1) := by decide +kernel
theorem dX9_press_98 : decode cX9_press 98 = .ok (.iadd, 1) := by decide +kernel
theorem dX9_press_99 : decode cX9_press 99 = .ok (.iload_n 2, 1) := by decide +kernel
theorem dX9_press_100 : decode cX9_press 100 = .ok (.aload_n 0, 1) := by decide +kernel
theorem dX9_press_101 : decode cX9_press 101 = .ok (.getfield 142, 3) := by decide +kernel
theorem dX9_press_104 : decode cX9_press 104 = .ok (.if_icmp .ge 12, 3) := by decide +kernel
theorem dX9_press_107 : decode cX9_press 107 = .ok (.aload_n 0, 1) := by decide +kernel
theorem dX9_press_108 : decode cX9_press 108 = .ok (.getfield 102, 3) := by decide +kernel
theorem dX9_press_111 : decode cX9_press 111 = .ok (.iload_n 2, 1) := by decide +kernel
theorem dX9_press_112 : decode cX9_press 112 = .ok (.iaload, 1) := by decide +kernel
theorem dX9_press_113 : decode cX9_press 113 = .ok (.goto 4, 3) := by decide +kernel
theorem dX9_press_116 : decode cX9_press 116 = .ok (.iconst (-1), 1) := by decide +kernel
theorem dX9_press_117 : decode cX9_press 117 = .ok (.iastore, 1) := by decide +kernel
theorem dX9_press_118 : decode cX9_press 118 = .ok (.iinc 2 1, 3) := by decide +kernel
theorem dX9_press_121 : decode cX9_press 121 = .ok (.goto (-38), 3) := by decide +kernel
theorem dX9_press_124 : decode cX9_press 124 = .ok (.iconst 0, 1) := by decide +kernel
theorem dX9_press_125 : decode cX9_press 125 = .ok (.istore_n 2, 1) := by decide +kernel
theorem dX9_press_126 : decode cX9_press 126 = .ok (.iload_n 2, 1) := by decide +kernel
theorem dX9_press_127 : decode cX9_press 127 = .ok (.aload_n 0, 1) := by decide +kernel
theorem dX9_press_128 : decode cX9_press 128 = .ok (.getfield 17, 3) := by decide +kernel
theorem dX9_press_131 : decode cX9_press 131 = .ok (.iload_n 1, 1) := by decide +kernel
theorem dX9_press_132 : decode cX9_press 132 = .ok (.iaload, 1) := by decide +kernel
theorem dX9_press_133 : decode cX9_press 133 = .ok (.if_icmp .ge 29, 3) := by decide +kernel
theorem dX9_press_136 : decode cX9_press 136 = .ok (.aload_n 0, 1) := by decide +kernel
theorem dX9_press_137 : decode cX9_press 137 = .ok (.getfield 29, 3) := by decide +kernel
theorem dX9_press_140 : decode cX9_press 140 = .ok (.iload_n 1, 1) := by decide +kernel
theorem dX9_press_141 : decode cX9_press 141 = .ok (.dup2, 1) := by decide +kernel
theorem dX9_press_142 : decode cX9_press 142 = .ok (.iaload, 1) := by decide +kernel
theorem dX9_press_143 : decode cX9_press 143 = .ok (.aload_n 0, 1) := by decide +kernel
theorem dX9_press_144 : decode cX9_press 144 = .ok (.getfield 80, 3) := by decide +kernel
theorem dX9_press_147 : decode cX9_press 147 = .ok (.bipush 20, 2) := by decide +kernel
theorem dX9_press_149 : decode cX9_press 149 = .ok (.iload_n 1, 1) := by decide +kernel
theorem dX9_press_150 : decode cX9_press 150 = .ok (.imul, 1) := by decide +kernel
theorem dX9_press_151 : decode cX9_press 151 = .ok (.iload_n 2, 1) := by decide +kernel
theorem dX9_press_152 : decode cX9_press 152 = .ok (.iadd, 1) := by decide +kernel
theorem dX9_press_153 : decode cX9_press 153 = .ok (.iaload, 1) := by decide +kernel
theorem dX9_press_154 : decode cX9_press 154 = .ok (.iadd, 1) := by decide +kernel
theorem dX9_press_155 : decode cX9_press 155 = .ok (.iastore, 1) := by decide +kernel
theorem dX9_press_156 : decode cX9_press 156 = .ok (.iinc 2 1, 3) := by decide +kernel
theorem dX9_press_159 : decode cX9_press 159 = .ok (.goto (-33), 3) := by decide +kernel
theorem dX9_press_162 : decode cX9_press 162 = .ok (.aload_n 0, 1) := by decide +kernel
theorem dX9_press_163 : decode cX9_press 163 = .ok (.getfield 13, 3) := by decide +kernel
theorem dX9_press_166 : decode cX9_press 166 = .ok (.iload_n 1, 1) := by decide +kernel
theorem dX9_press_167 : decode cX9_press 167 = .ok (.iaload, 1) := by decide +kernel
theorem dX9_press_168 : decode cX9_press 168 = .ok (.ireturn, 1) := by decide +kernel
theorem dX9_printed_0 : decode cX9_printed 0 = .ok (.aload_n 0, 1) := by decide +kernel
theorem dX9_printed_1 : decode cX9_printed 1 = .ok (.aload_n 0, 1) := by decide +kernel
theorem dX9_printed_2 : decode cX9_printed 2 = .ok (.iload_n 1, 1) := by decide +kernel
theorem dX9_printed_3 : decode cX9_printed 3 = .ok (.invokevirtual 121, 3) := by decide +kernel
theorem dX9_printed_6 : decode cX9_printed 6 = .ok (.ifCond .ne 7, 3) := by decide +kernel
theorem dX9_printed_9 : decode cX9_printed 9 = .ok (.iconst 1, 1) := by decide +kernel
theorem dX9_printed_10 : decode cX9_printed 10 = .ok (.goto 18, 3) := by decide +kernel
theorem dX9_printed_13 : decode cX9_printed 13 = .ok (.iload_n 2, 1) := by decide +kernel
theorem dX9_printed_14 : decode cX9_printed 14 = .ok (.iconst 0, 1) := by decide +kernel
theorem dX9_printed_15 : decode cX9_printed 15 = .ok (.bipush 10, 2) := by decide +kernel
theorem dX9_printed_17 : decode cX9_printed 17 = .ok (.invokestatic 117, 3) := by decide +kernel
theorem dX9_printed_20 : decode cX9_printed 20 = .ok (.ifCond .ne 7, 3) := by decide +kernel
theorem dX9_printed_23 : decode cX9_printed 23 = .ok (.iconst 2, 1) := by decide +kernel
theorem dX9_printed_24 : decode cX9_printed 24 = .ok (.goto 4, 3) := by decide +kernel
theorem dX9_printed_27 : decode cX9_printed 27 = .ok (.iconst 0, 1) := by decide +kernel
theorem dX9_printed_28 : decode cX9_printed 28 = .ok (.putfield 111, 3) := by decide +kernel
theorem dX9_printed_31 : decode cX9_printed 31 = .ok (.aload_n 0, 1) := by decide +kernel
theorem dX9_printed_32 : decode cX9_printed 32 = .ok (.getfield 111, 3) := by decide +kernel
theorem dX9_printed_35 : decode cX9_printed 35 = .ok (.ifCond .le 5, 3) := by decide +kernel
theorem dX9_printed_38 : decode cX9_printed 38 = .ok (.iconst 0, 1) := by decide +kernel
theorem dX9_printed_39 : decode cX9_printed 39 = .ok (.ireturn, 1) := by decide +kernel
theorem dX9_printed_40 : decode cX9_printed 40 = .ok (.aload_n 0, 1) := by decide +kernel
theorem dX9_printed_41 : decode cX9_printed 41 = .ok (.iload_n 1, 1) := by decide +kernel
theorem dX9_printed_42 : decode cX9_printed 42 = .ok (.invokevirtual 129, 3) := by decide +kernel
theorem dX9_printed_45 : decode cX9_printed 45 = .ok (.ifCond .ne 7, 3) := by decide +kernel
theorem dX9_printed_48 : decode cX9_printed 48 = .ok (.iconst (-1), 1) := by decide +kernel
theorem dX9_printed_49 : decode cX9_printed 49 = .ok (.goto 57, 3) := by decide +kernel
theorem dX9_printed_52 : decode cX9_printed 52 = .ok (.iload_n 2, 1) := by decide +kernel
theorem dX9_printed_53 : decode cX9_printed 53 = .ok (.ifCond .ne 12, 3) := by decide +kernel
theorem dX9_printed_56 : decode cX9_printed 56 = .ok (.aload_n 0, 1) := by decide +kernel
theorem dX9_printed_57 : decode cX9_printed 57 = .ok (.getfield 23, 3) := by decide +kernel
theorem dX9_printed_60 : decode cX9_printed 60 = .ok (.iload_n 1, 1) := by decide +kernel
theorem dX9_printed_61 : decode cX9_printed 61 = .ok (.iaload, 1) := by decide +kernel
theorem dX9_printed_62 : decode cX9_printed 62 = .ok (.goto 44, 3) := by decide +kernel
theorem dX9_printed_65 : decode cX9_printed 65 = .ok (.iload_n 2, 1) := by decide +kernel
theorem dX9_printed_66 : decode cX9_printed 66 = .ok (.iconst 1, 1) := by decide +kernel
theorem dX9_printed_67 : decode cX9_printed 67 = .ok (.if_icmp .ne 12, 3) := by decide +kernel
theorem dX9_printed_70 : decode cX9_printed 70 = .ok (.aload_n 0, 1) := by decide +kernel
theorem dX9_printed_71 : decode cX9_printed 71 = .ok (.getfield 26, 3) := by decide +kernel
theorem dX9_printed_74 : decode cX9_printed 74 = .ok (.iload_n 1, 1) := by decide +kernel
theorem dX9_printed_75 : decode cX9_printed 75 = .ok (.iaload, 1) := by decide +kernel
theorem dX9_printed_76 : decode cX9_printed 76 = .ok (.goto 30, 3) := by decide +kernel
theorem dX9_printed_79 : decode cX9_printed 79 = .ok (.iload_n 2, 1) := by decide +kernel
theorem dX9_printed_80 : decode cX9_printed 80 = .ok (.iconst 2, 1) := by decide +kernel
theorem dX9_printed_81 : decode cX9_printed 81 = .ok (.if_icmp .ne 12, 3) := by decide +kernel
theorem dX9_printed_84 : decode cX9_printed 84 = .ok (.aload_n 0, 1) := by decide +kernel
theorem dX9_printed_85 : decode cX9_printed 85 = .ok (.getfield 29, 3) := by decide +kernel
theorem dX9_printed_88 : decode cX9_printed 88 = .ok (.iload_n 1, 1) := by decide +kernel
theorem dX9_printed_89 : decode cX9_printed 89 = .ok (.iaload, 1) := by decide +kernel
theorem dX9_printed_90 : decode cX9_printed 90 = .ok (.goto 16, 3) := by decide +kernel
theorem dX9_printed_93 : decode cX9_printed 93 = .ok (.aload_n 0, 1) := by decide +kernel
theorem dX9_printed_94 : decode cX9_printed 94 = .ok (.getfield 32, 3) := by decide +kernel
theorem dX9_printed_97 : decode cX9_printed 97 = .ok (.bipush 8, 2) := by decide +kernel
theorem dX9_printed_99 : decode cX9_printed 99 = .ok (.iload_n 1, 1) := by decide +kernel
theorem dX9_printed_100 : decode cX9_printed 100 = .ok (.imul, 1) := by decide +kernel
theorem dX9_printed_101 : decode cX9_printed 101 = .ok (.iload_n 2, 1) := by decide +kernel
theorem dX9_printed_102 : decode cX9_printed 102 = .ok (.iadd, 1) := by decide +kernel
theorem dX9_printed_103 : decode cX9_printed 103 = .ok (.iconst 3, 1) := by decide +kernel
theorem dX9_printed_104 : decode cX9_printed 104 = .ok (.isub, 1) := by decide +kernel
theorem dX9_printed_105 : decode cX9_printed 105 = .ok (.iaload, 1) := by decide +kernel
theorem dX9_printed_106 : decode cX9_printed 106 = .ok (.ireturn, 1) := by decide +kernel
theorem dJ6_compare_7cf53_0 : decode cJ6_compare_7cf53 0 = .ok (.iload_n 0, 1) := by decide +kernel
theorem dJ6_compare_7cf53_1 : decode cJ6_compare_7cf53 1 = .ok (.iload_n 1, 1) := by decide +kernel
theorem dJ6_compare_7cf53_2 : decode cJ6_compare_7cf53 2 = .ok (.if_icmp .ge 7, 3) := by decide +kernel
theorem dJ6_compare_7cf53_5 : decode cJ6_compare_7cf53 5 = .ok (.iconst (-1), 1) := by decide +kernel
theorem dJ6_compare_7cf53_6 : decode cJ6_compare_7cf53 6 = .ok (.goto 13, 3) := by decide +kernel
theorem dJ6_compare_7cf53_9 : decode cJ6_compare_7cf53 9 = .ok (.iload_n 0, 1) := by decide +kernel
theorem dJ6_compare_7cf53_10 : decode cJ6_compare_7cf53 10 = .ok (.iload_n 1, 1) := by decide +kernel
theorem dJ6_compare_7cf53_11 : decode cJ6_compare_7cf53 11 = .ok (.if_icmp .ne 7, 3) := by decide +kernel
theorem dJ6_compare_7cf53_14 : decode cJ6_compare_7cf53 14 = .ok (.iconst 0, 1) := by decide +kernel
theorem dJ6_compare_7cf53_15 : decode cJ6_compare_7cf53 15 = .ok (.goto 4, 3) := by decide +kernel
theorem dJ6_compare_7cf53_18 : decode cJ6_compare_7cf53 18 = .ok (.iconst 1, 1) := by decide +kernel
theorem dJ6_compare_7cf53_19 : decode cJ6_compare_7cf53 19 = .ok (.ireturn, 1) := by decide +kernel
theorem dJ6_bitCount_0f7a4_0 : decode cJ6_bitCount_0f7a4 0 = .ok (.iload_n 0, 1) := by decide +kernel
theorem dJ6_bitCount_0f7a4_1 : decode cJ6_bitCount_0f7a4 1 = .ok (.iload_n 0, 1) := by decide +kernel
theorem dJ6_bitCount_0f7a4_2 : decode cJ6_bitCount_0f7a4 2 = .ok (.iconst 1, 1) := by decide +kernel
theorem dJ6_bitCount_0f7a4_3 : decode cJ6_bitCount_0f7a4 3 = .ok (.iushr, 1) := by decide +kernel
theorem dJ6_bitCount_0f7a4_4 : decode cJ6_bitCount_0f7a4 4 = .ok (.ldc_w 265, 3) := by decide +kernel
theorem dJ6_bitCount_0f7a4_7 : decode cJ6_bitCount_0f7a4 7 = .ok (.iand, 1) := by decide +kernel
theorem dJ6_bitCount_0f7a4_8 : decode cJ6_bitCount_0f7a4 8 = .ok (.isub, 1) := by decide +kernel
theorem dJ6_bitCount_0f7a4_9 : decode cJ6_bitCount_0f7a4 9 = .ok (.istore_n 0, 1) := by decide +kernel
theorem dJ6_bitCount_0f7a4_10 : decode cJ6_bitCount_0f7a4 10 = .ok (.iload_n 0, 1) := by decide +kernel
theorem dJ6_bitCount_0f7a4_11 : decode cJ6_bitCount_0f7a4 11 = .ok (.ldc_w 266, 3) := by decide +kernel
theorem dJ6_bitCount_0f7a4_14 : decode cJ6_bitCount_0f7a4 14 = .ok (.iand, 1) := by decide +kernel
theorem dJ6_bitCount_0f7a4_15 : decode cJ6_bitCount_0f7a4 15 = .ok (.iload_n 0, 1) := by decide +kernel
theorem dJ6_bitCount_0f7a4_16 : decode cJ6_bitCount_0f7a4 16 = .ok (.iconst 2, 1) := by decide +kernel
theorem dJ6_bitCount_0f7a4_17 : decode cJ6_bitCount_0f7a4 17 = .ok (.iushr, 1) := by decide +kernel
theorem dJ6_bitCount_0f7a4_18 : decode cJ6_bitCount_0f7a4 18 = .ok (.ldc_w 266, 3) := by decide +kernel
theorem dJ6_bitCount_0f7a4_21 : decode cJ6_bitCount_0f7a4 21 = .ok (.iand, 1) := by decide +kernel
theorem dJ6_bitCount_0f7a4_22 : decode cJ6_bitCount_0f7a4 22 = .ok (.iadd, 1) := by decide +kernel
theorem dJ6_bitCount_0f7a4_23 : decode cJ6_bitCount_0f7a4 23 = .ok (.istore_n 0, 1) := by decide +kernel
theorem dJ6_bitCount_0f7a4_24 : decode cJ6_bitCount_0f7a4 24 = .ok (.iload_n 0, 1) := by decide +kernel
theorem dJ6_bitCount_0f7a4_25 : decode cJ6_bitCount_0f7a4 25 = .ok (.iload_n 0, 1) := by decide +kernel
theorem dJ6_bitCount_0f7a4_26 : decode cJ6_bitCount_0f7a4 26 = .ok (.iconst 4, 1) := by decide +kernel
theorem dJ6_bitCount_0f7a4_27 : decode cJ6_bitCount_0f7a4 27 = .ok (.iushr, 1) := by decide +kernel
theorem dJ6_bitCount_0f7a4_28 : decode cJ6_bitCount_0f7a4 28 = .ok (.iadd, 1) := by decide +kernel
theorem dJ6_bitCount_0f7a4_29 : decode cJ6_bitCount_0f7a4 29 = .ok (.ldc_w 267, 3) := by decide +kernel
theorem dJ6_bitCount_0f7a4_32 : decode cJ6_bitCount_0f7a4 32 = .ok (.iand, 1) := by decide +kernel
theorem dJ6_bitCount_0f7a4_33 : decode cJ6_bitCount_0f7a4 33 = .ok (.istore_n 0, 1) := by decide +kernel
theorem dJ6_bitCount_0f7a4_34 : decode cJ6_bitCount_0f7a4 34 = .ok (.iload_n 0, 1) := by decide +kernel
theorem dJ6_bitCount_0f7a4_35 : decode cJ6_bitCount_0f7a4 35 = .ok (.iload_n 0, 1) := by decide +kernel
theorem dJ6_bitCount_0f7a4_36 : decode cJ6_bitCount_0f7a4 36 = .ok (.bipush 8, 2) := by decide +kernel
theorem dJ6_bitCount_0f7a4_38 : decode cJ6_bitCount_0f7a4 38 = .ok (.iushr, 1) := by decide +kernel
theorem dJ6_bitCount_0f7a4_39 : decode cJ6_bitCount_0f7a4 39 = .ok (.iadd, 1) := by decide +kernel
theorem dJ6_bitCount_0f7a4_40 : decode cJ6_bitCount_0f7a4 40 = .ok (.istore_n 0, 1) := by decide +kernel
theorem dJ6_bitCount_0f7a4_41 : decode cJ6_bitCount_0f7a4 41 = .ok (.iload_n 0, 1) := by decide +kernel
theorem dJ6_bitCount_0f7a4_42 : decode cJ6_bitCount_0f7a4 42 = .ok (.iload_n 0, 1) := by decide +kernel
theorem dJ6_bitCount_0f7a4_43 : decode cJ6_bitCount_0f7a4 43 = .ok (.bipush 16, 2) := by decide +kernel
theorem dJ6_bitCount_0f7a4_45 : decode cJ6_bitCount_0f7a4 45 = .ok (.iushr, 1) := by decide +kernel
theorem dJ6_bitCount_0f7a4_46 : decode cJ6_bitCount_0f7a4 46 = .ok (.iadd, 1) := by decide +kernel
theorem dJ6_bitCount_0f7a4_47 : decode cJ6_bitCount_0f7a4 47 = .ok (.istore_n 0, 1) := by decide +kernel
theorem dJ6_bitCount_0f7a4_48 : decode cJ6_bitCount_0f7a4 48 = .ok (.iload_n 0, 1) := by decide +kernel
theorem dJ6_bitCount_0f7a4_49 : decode cJ6_bitCount_0f7a4 49 = .ok (.bipush 63, 2) := by decide +kernel
theorem dJ6_bitCount_0f7a4_51 : decode cJ6_bitCount_0f7a4 51 = .ok (.iand, 1) := by decide +kernel
theorem dJ6_bitCount_0f7a4_52 : decode cJ6_bitCount_0f7a4 52 = .ok (.ireturn, 1) := by decide +kernel
theorem dJ9_max_7cf53_0 : decode cJ9_max_7cf53 0 = .ok (.iload_n 0, 1) := by decide +kernel
theorem dJ9_max_7cf53_1 : decode cJ9_max_7cf53 1 = .ok (.iload_n 1, 1) := by decide +kernel
theorem dJ9_max_7cf53_2 : decode cJ9_max_7cf53 2 = .ok (.if_icmp .lt 7, 3) := by decide +kernel
theorem dJ9_max_7cf53_5 : decode cJ9_max_7cf53 5 = .ok (.iload_n 0, 1) := by decide +kernel
theorem dJ9_max_7cf53_6 : decode cJ9_max_7cf53 6 = .ok (.goto 4, 3) := by decide +kernel
theorem dJ9_max_7cf53_9 : decode cJ9_max_7cf53 9 = .ok (.iload_n 1, 1) := by decide +kernel
theorem dJ9_max_7cf53_10 : decode cJ9_max_7cf53 10 = .ok (.ireturn, 1) := by decide +kernel
theorem dJ9_min_7cf53_0 : decode cJ9_min_7cf53 0 = .ok (.iload_n 0, 1) := by decide +kernel
theorem dJ9_min_7cf53_1 : decode cJ9_min_7cf53 1 = .ok (.iload_n 1, 1) := by decide +kernel
theorem dJ9_min_7cf53_2 : decode cJ9_min_7cf53 2 = .ok (.if_icmp .gt 7, 3) := by decide +kernel
theorem dJ9_min_7cf53_5 : decode cJ9_min_7cf53 5 = .ok (.iload_n 0, 1) := by decide +kernel
theorem dJ9_min_7cf53_6 : decode cJ9_min_7cf53 6 = .ok (.goto 4, 3) := by decide +kernel
theorem dJ9_min_7cf53_9 : decode cJ9_min_7cf53 9 = .ok (.iload_n 1, 1) := by decide +kernel
theorem dJ9_min_7cf53_10 : decode cJ9_min_7cf53 10 = .ok (.ireturn, 1) := by decide +kernel
theorem dJxa1e45_init_da8c8_0 : decode cJxa1e45_init_da8c8 0 = .ok (.aload_n 0, 1) := by decide +kernel
theorem dJxa1e45_init_da8c8_1 : decode cJxa1e45_init_da8c8 1 = .ok (.invokespecial 1, 3) := by decide +kernel
theorem dJxa1e45_init_da8c8_4 : decode cJxa1e45_init_da8c8 4 = .ok (.return_, 1) := by decide +kernel
theorem dJxc12de_init_da8c8_0 : decode cJxc12de_init_da8c8 0 = .ok (.aload_n 0, 1) := by decide +kernel
theorem dJxc12de_init_da8c8_1 : decode cJxc12de_init_da8c8 1 = .ok (.invokespecial 1, 3) := by decide +kernel
theorem dJxc12de_init_da8c8_4 : decode cJxc12de_init_da8c8 4 = .ok (.aload_n 0, 1) := by decide +kernel
theorem dJxc12de_init_da8c8_5 : decode cJxc12de_init_da8c8 5 = .ok (.iconst 0, 1) := by decide +kernel
theorem dJxc12de_init_da8c8_6 : decode cJxc12de_init_da8c8 6 = .ok (.putfield 7, 3) := by decide +kernel
theorem dJxc12de_init_da8c8_9 : decode cJxc12de_init_da8c8 9 = .ok (.return_, 1) := by decide +kernel
theorem dJx4a65c_init_da8c8_0 : decode cJx4a65c_init_da8c8 0 = .ok (.aload_n 0, 1) := by decide +kernel
theorem dJx4a65c_init_da8c8_1 : decode cJx4a65c_init_da8c8 1 = .ok (.invokespecial 1, 3) := by decide +kernel
theorem dJx4a65c_init_da8c8_4 : decode cJx4a65c_init_da8c8 4 = .ok (.aload_n 0, 1) := by decide +kernel
theorem dJx4a65c_init_da8c8_5 : decode cJx4a65c_init_da8c8 5 = .ok (.getstatic 39, 3) := by decide +kernel
theorem dJx4a65c_init_da8c8_8 : decode cJx4a65c_init_da8c8 8 = .ok (.putfield 9, 3) := by decide +kernel
theorem dJx4a65c_init_da8c8_11 : decode cJx4a65c_init_da8c8 11 = .ok (.return_, 1) := by decide +kernel
theorem dJx4a65c_grow_92f84_0 : decode cJx4a65c_grow_92f84 0 = .ok (.aload_n 0, 1) := by decide +kernel
theorem dJx4a65c_grow_92f84_1 : decode cJx4a65c_grow_92f84 1 = .ok (.getfield 9, 3) := by decide +kernel
theorem dJx4a65c_grow_92f84_4 : decode cJx4a65c_grow_92f84 4 = .ok (.arraylength, 1) := by decide +kernel
theorem dJx4a65c_grow_92f84_5 : decode cJx4a65c_grow_92f84 5 = .ok (.istore_n 2, 1) := by decide +kernel
theorem dJx4a65c_grow_92f84_6 : decode cJx4a65c_grow_92f84 6 = .ok (.iload_n 2, 1) := by decide +kernel
theorem dJx4a65c_grow_92f84_7 : decode cJx4a65c_grow_92f84 7 = .ok (.ifCond .gt 13, 3) := by decide +kernel
theorem dJx4a65c_grow_92f84_10 : decode cJx4a65c_grow_92f84 10 = .ok (.aload_n 0, 1) := by decide +kernel
theorem dJx4a65c_grow_92f84_11 : decode cJx4a65c_grow_92f84 11 = .ok (.getfield 9, 3) := by decide +kernel
theorem dJx4a65c_grow_92f84_14 : decode cJx4a65c_grow_92f84 14 = .ok (.getstatic 39, 3) := by decide +kernel
theorem dJx4a65c_grow_92f84_17 : decode cJx4a65c_grow_92f84 17 = .ok (.if_acmp .eq 28, 3) := by decide +kernel
theorem dJx4a65c_grow_92f84_20 : decode cJx4a65c_grow_92f84 20 = .ok (.iload_n 2, 1) := by decide +kernel
theorem dJx4a65c_grow_92f84_21 : decode cJx4a65c_grow_92f84 21 = .ok (.iload_n 1, 1) := by decide +kernel
theorem dJx4a65c_grow_92f84_22 : decode cJx4a65c_grow_92f84 22 = .ok (.iload_n 2, 1) := by decide +kernel
theorem dJx4a65c_grow_92f84_23 : decode cJx4a65c_grow_92f84 23 = .ok (.isub, 1) := by decide +kernel
theorem dJx4a65c_grow_92f84_24 : decode cJx4a65c_grow_92f84 24 = .ok (.iload_n 2, 1) := by decide +kernel
theorem dJx4a65c_grow_92f84_25 : decode cJx4a65c_grow_92f84 25 = .ok (.iconst 1, 1) := by decide +kernel
theorem dJx4a65c_grow_92f84_26 : decode cJx4a65c_grow_92f84 26 = .ok (.ishr, 1) := by decide +kernel
theorem dJx4a65c_grow_92f84_27 : decode cJx4a65c_grow_92f84 27 = .ok (.invokestatic 73, 3) := by decide +kernel
theorem dJx4a65c_grow_92f84_30 : decode cJx4a65c_grow_92f84 30 = .ok (.istore_n 3, 1) := by decide +kernel
theorem dJx4a65c_grow_92f84_31 : decode cJx4a65c_grow_92f84 31 = .ok (.aload_n 0, 1) := by decide +kernel
theorem dJx4a65c_grow_92f84_32 : decode cJx4a65c_grow_92f84 32 = .ok (.aload_n 0, 1) := by decide +kernel
theorem dJx4a65c_grow_92f84_33 : decode cJx4a65c_grow_92f84 33 = .ok (.getfield 9, 3) := by decide +kernel
theorem dJx4a65c_grow_92f84_36 : decode cJx4a65c_grow_92f84 36 = .ok (.iload_n 3, 1) := by decide +kernel
theorem dJx4a65c_grow_92f84_37 : decode cJx4a65c_grow_92f84 37 = .ok (.invokestatic 66, 3) := by decide +kernel
theorem dJx4a65c_grow_92f84_40 : decode cJx4a65c_grow_92f84 40 = .ok (.dup_x1, 1) := by decide +kernel
theorem dJx4a65c_grow_92f84_41 : decode cJx4a65c_grow_92f84 41 = .ok (.putfield 9, 3) := by decide +kernel
theorem dJx4a65c_grow_92f84_44 : decode cJx4a65c_grow_92f84 44 = .ok (.areturn, 1) := by decide +kernel
theorem dJx4a65c_grow_92f84_45 : decode cJx4a65c_grow_92f84 45 = .ok (.aload_n 0, 1) := by decide +kernel
theorem dJx4a65c_grow_92f84_46 : decode cJx4a65c_grow_92f84 46 = .ok (.bipush 10, 2) := by decide +kernel
theorem dJx4a65c_grow_92f84_48 : decode cJx4a65c_grow_92f84 48 = .ok (.iload_n 1, 1) := by decide +kernel
theorem dJx4a65c_grow_92f84_49 : decode cJx4a65c_grow_92f84 49 = .ok (.invokestatic 79, 3) := by decide +kernel
theorem dJx4a65c_grow_92f84_52 : decode cJx4a65c_grow_92f84 52 = .ok (.anewarray 7, 3) := by decide +kernel
theorem dJx4a65c_grow_92f84_55 : decode cJx4a65c_grow_92f84 55 = .ok (.dup_x1, 1) := by decide +kernel
theorem dJx4a65c_grow_92f84_56 : decode cJx4a65c_grow_92f84 56 = .ok (.putfield 9, 3) := by decide +kernel
theorem dJx4a65c_grow_92f84_59 : decode cJx4a65c_grow_92f84 59 = .ok (.areturn, 1) := by decide +kernel
theorem dJx4a65c_grow_d5877_0 : decode cJx4a65c_grow_d5877 0 = .ok (.aload_n 0, 1) := by decide +kernel
theorem dJx4a65c_grow_d5877_1 : decode cJx4a65c_grow_d5877 1 = .ok (.aload_n 0, 1) := by decide +kernel
theorem dJx4a65c_grow_d5877_2 : decode cJx4a65c_grow_d5877 2 = .ok (.getfield 48, 3) := by decide +kernel
theorem dJx4a65c_grow_d5877_5 : decode cJx4a65c_grow_d5877 5 = .ok (.iconst 1, 1) := by decide +kernel
theorem dJx4a65c_grow_d5877_6 : decode cJx4a65c_grow_d5877 6 = .ok (.iadd, 1) := by decide +kernel
theorem dJx4a65c_grow_d5877_7 : decode cJx4a65c_grow_d5877 7 = .ok (.invokevirtual 69, 3) := by decide +kernel
theorem dJx4a65c_grow_d5877_10 : decode cJx4a65c_grow_d5877 10 = .ok (.areturn, 1) := by decide +kernel
theorem dJx4a65c_size_8abf5_0 : decode cJx4a65c_size_8abf5 0 = .ok (.aload_n 0, 1) := by decide +kernel
theorem dJx4a65c_size_8abf5_1 : decode cJx4a65c_size_8abf5 1 = .ok (.getfield 48, 3) := by decide +kernel
theorem dJx4a65c_size_8abf5_4 : decode cJx4a65c_size_8abf5 4 = .ok (.ireturn, 1) := by decide +kernel
theorem dJx4a65c_elementData_915e3_0 : decode cJx4a65c_elementData_915e3 0 = .ok (.aload_n 0, 1) := by decide +kernel
theorem dJx4a65c_elementData_915e3_1 : decode cJx4a65c_elementData_915e3 1 = .ok (.getfield 9, 3) := by decide +kernel
theorem dJx4a65c_elementData_915e3_4 : decode cJx4a65c_elementData_915e3 4 = .ok (.iload_n 1, 1) := by decide +kernel
theorem dJx4a65c_elementData_915e3_5 : decode cJx4a65c_elementData_915e3 5 = .ok (.aaload, 1) := by decide +kernel
theorem dJx4a65c_elementData_915e3_6 : decode cJx4a65c_elementData_915e3 6 = .ok (.areturn, 1) := by decide +kernel
theorem dJx4a65c_get_915e3_0 : decode cJx4a65c_get_915e3 0 = .ok (.iload_n 1, 1) := by decide +kernel
theorem dJx4a65c_get_915e3_1 : decode cJx4a65c_get_915e3 1 = .ok (.aload_n 0, 1) := by decide +kernel
theorem dJx4a65c_get_915e3_2 : decode cJx4a65c_get_915e3 2 = .ok (.getfield 48, 3) := by decide +kernel
theorem dJx4a65c_get_915e3_5 : decode cJx4a65c_get_915e3 5 = .ok (.invokestatic 118, 3) := by decide +kernel
theorem dJx4a65c_get_915e3_8 : decode cJx4a65c_get_915e3 8 = .ok (.pop, 1) := by decide +kernel
theorem dJx4a65c_get_915e3_9 : decode cJx4a65c_get_915e3 9 = .ok (.aload_n 0, 1) := by decide +kernel
theorem dJx4a65c_get_915e3_10 : decode cJx4a65c_get_915e3 10 = .ok (.iload_n 1, 1) := by decide +kernel
theorem dJx4a65c_get_915e3_11 : decode cJx4a65c_get_915e3 11 = .ok (.invokevirtual 123, 3) := by decide +kernel
theorem dJx4a65c_get_915e3_14 : decode cJx4a65c_get_915e3 14 = .ok (.areturn, 1) := by decide +kernel
theorem dJx4a65c_add_72be8_0 : decode cJx4a65c_add_72be8 0 = .ok (.iload_n 3, 1) := by decide +kernel
theorem dJx4a65c_add_72be8_1 : decode cJx4a65c_add_72be8 1 = .ok (.aload_n 2, 1) := by decide +kernel
theorem dJx4a65c_add_72be8_2 : decode cJx4a65c_add_72be8 2 = .ok (.arraylength, 1) := by decide +kernel
theorem dJx4a65c_add_72be8_3 : decode cJx4a65c_add_72be8 3 = .ok (.if_icmp .ne 8, 3) := by decide +kernel
theorem dJx4a65c_add_72be8_6 : decode cJx4a65c_add_72be8 6 = .ok (.aload_n 0, 1) := by decide +kernel
theorem dJx4a65c_add_72be8_7 : decode cJx4a65c_add_72be8 7 = .ok (.invokevirtual 129, 3) := by decide +kernel
theorem dJx4a65c_add_72be8_10 : decode cJx4a65c_add_72be8 10 = .ok (.astore_n 2, 1) := by decide +kernel
theorem dJx4a65c_add_72be8_11 : decode cJx4a65c_add_72be8 11 = .ok (.aload_n 2, 1) := by decide +kernel
theorem dJx4a65c_add_72be8_12 : decode cJx4a65c_add_72be8 12 = .ok (.iload_n 3, 1) := by decide +kernel
theorem dJx4a65c_add_72be8_13 : decode cJx4a65c_add_72be8 13 = .ok (.aload_n 1, 1) := by decide +kernel
theorem dJx4a65c_add_72be8_14 : decode cJx4a65c_add_72be8 14 = .ok (.aastore, 1) := by decide +kernel
theorem dJx4a65c_add_72be8_15 : decode cJx4a65c_add_72be8 15 = .ok (.aload_n 0, 1) := by decide +kernel
theorem dJx4a65c_add_72be8_16 : decode cJx4a65c_add_72be8 16 = .ok (.iload_n 3, 1) := by decide +kernel
theorem dJx4a65c_add_72be8_17 : decode cJx4a65c_add_72be8 17 = .ok (.iconst 1, 1) := by decide +kernel
theorem dJx4a65c_add_72be8_18 : decode cJx4a65c_add_72be8 18 = .ok (.iadd, 1) := by decide +kernel
theorem dJx4a65c_add_72be8_19 : decode cJx4a65c_add_72be8 19 = .ok (.putfield 48, 3) := by decide +kernel
theorem dJx4a65c_add_72be8_22 : decode cJx4a65c_add_72be8 22 = .ok (.return_, 1) := by decide +kernel
theorem dJx4a65c_add_9ea2d_0 : decode cJx4a65c_add_9ea2d 0 = .ok (.aload_n 0, 1) := by decide +kernel
theorem dJx4a65c_add_9ea2d_1 : decode cJx4a65c_add_9ea2d 1 = .ok (.dup, 1) := by decide +kernel
theorem dJx4a65c_add_9ea2d_2 : decode cJx4a65c_add_9ea2d 2 = .ok (.getfield 63, 3) := by decide +kernel
theorem dJx4a65c_add_9ea2d_5 : decode cJx4a65c_add_9ea2d 5 = .ok (.iconst 1, 1) := by decide +kernel
theorem dJx4a65c_add_9ea2d_6 : decode cJx4a65c_add_9ea2d 6 = .ok (.iadd, 1) := by decide +kernel
theorem dJx4a65c_add_9ea2d_7 : decode cJx4a65c_add_9ea2d 7 = .ok (.putfield 63, 3) := by decide +kernel
theorem dJx4a65c_add_9ea2d_10 : decode cJx4a65c_add_9ea2d 10 = .ok (.aload_n 0, 1) := by decide +kernel
theorem dJx4a65c_add_9ea2d_11 : decode cJx4a65c_add_9ea2d 11 = .ok (.aload_n 1, 1) := by decide +kernel
theorem dJx4a65c_add_9ea2d_12 : decode cJx4a65c_add_9ea2d 12 = .ok (.aload_n 0, 1) := by decide +kernel
theorem dJx4a65c_add_9ea2d_13 : decode cJx4a65c_add_9ea2d 13 = .ok (.getfield 9, 3) := by decide +kernel
theorem dJx4a65c_add_9ea2d_16 : decode cJx4a65c_add_9ea2d 16 = .ok (.aload_n 0, 1) := by decide +kernel
theorem dJx4a65c_add_9ea2d_17 : decode cJx4a65c_add_9ea2d 17 = .ok (.getfield 48, 3) := by decide +kernel
theorem dJx4a65c_add_9ea2d_20 : decode cJx4a65c_add_9ea2d 20 = .ok (.invokevirtual 131, 3) := by decide +kernel
theorem dJx4a65c_add_9ea2d_23 : decode cJx4a65c_add_9ea2d 23 = .ok (.iconst 1, 1) := by decide +kernel
theorem dJx4a65c_add_9ea2d_24 : decode cJx4a65c_add_9ea2d 24 = .ok (.ireturn, 1) := by decide +kernel
theorem dJ7_fill_53178_0 : decode cJ7_fill_53178 0 = .ok (.iconst 0, 1) := by decide +kernel
theorem dJ7_fill_53178_1 : decode cJ7_fill_53178 1 = .ok (.istore_n 2, 1) := by decide +kernel
theorem dJ7_fill_53178_2 : decode cJ7_fill_53178 2 = .ok (.aload_n 0, 1) := by decide +kernel
theorem dJ7_fill_53178_3 : decode cJ7_fill_53178 3 = .ok (.arraylength, 1) := by decide +kernel
theorem dJ7_fill_53178_4 : decode cJ7_fill_53178 4 = .ok (.istore_n 3, 1) := by decide +kernel
theorem dJ7_fill_53178_5 : decode cJ7_fill_53178 5 = .ok (.iload_n 2, 1) := by decide +kernel
theorem dJ7_fill_53178_6 : decode cJ7_fill_53178 6 = .ok (.iload_n 3, 1) := by decide +kernel
theorem dJ7_fill_53178_7 : decode cJ7_fill_53178 7 = .ok (.if_icmp .ge 13, 3) := by decide +kernel
theorem dJ7_fill_53178_10 : decode cJ7_fill_53178 10 = .ok (.aload_n 0, 1) := by decide +kernel
theorem dJ7_fill_53178_11 : decode cJ7_fill_53178 11 = .ok (.iload_n 2, 1) := by decide +kernel
theorem dJ7_fill_53178_12 : decode cJ7_fill_53178 12 = .ok (.iload_n 1, 1) := by decide +kernel
theorem dJ7_fill_53178_13 : decode cJ7_fill_53178 13 = .ok (.iastore, 1) := by decide +kernel
theorem dJ7_fill_53178_14 : decode cJ7_fill_53178 14 = .ok (.iinc 2 1, 3) := by decide +kernel
theorem dJ7_fill_53178_17 : decode cJ7_fill_53178 17 = .ok (.goto (-12), 3) := by decide +kernel
theorem dJ7_fill_53178_20 : decode cJ7_fill_53178 20 = .ok (.return_, 1) := by decide +kernel
theorem dJ7_copyOf_1904c_0 : decode cJ7_copyOf_1904c 0 = .ok (.aload_n 0, 1) := by decide +kernel
theorem dJ7_copyOf_1904c_1 : decode cJ7_copyOf_1904c 1 = .ok (.iload_n 1, 1) := by decide +kernel
theorem dJ7_copyOf_1904c_2 : decode cJ7_copyOf_1904c 2 = .ok (.aload_n 0, 1) := by decide +kernel
theorem dJ7_copyOf_1904c_3 : decode cJ7_copyOf_1904c 3 = .ok (.invokevirtual 86, 3) := by decide +kernel
theorem dJ7_copyOf_1904c_6 : decode cJ7_copyOf_1904c 6 = .ok (.invokestatic 300, 3) := by decide +kernel
theorem dJ7_copyOf_1904c_9 : decode cJ7_copyOf_1904c 9 = .ok (.areturn, 1) := by decide +kernel
theorem dJ7_copyOf_6403c_0 : decode cJ7_copyOf_6403c 0 = .ok (.aload_n 2, 1) := by decide +kernel
theorem dJ7_copyOf_6403c_1 : decode cJ7_copyOf_6403c 1 = .ok (.ldc 110, 2) := by decide +kernel
theorem dJ7_copyOf_6403c_3 : decode cJ7_copyOf_6403c 3 = .ok (.if_acmp .ne 10, 3) := by decide +kernel
theorem dJ7_copyOf_6403c_6 : decode cJ7_copyOf_6403c 6 = .ok (.iload_n 1, 1) := by decide +kernel
theorem dJ7_copyOf_6403c_7 : decode cJ7_copyOf_6403c 7 = .ok (.anewarray 2, 3) := by decide +kernel
theorem dJ7_copyOf_6403c_10 : decode cJ7_copyOf_6403c 10 = .ok (.goto 14, 3) := by decide +kernel
theorem dJ7_copyOf_6403c_13 : decode cJ7_copyOf_6403c 13 = .ok (.aload_n 2, 1) := by decide +kernel
theorem dJ7_copyOf_6403c_14 : decode cJ7_copyOf_6403c 14 = .ok (.invokevirtual 90, 3) := by decide +kernel
theorem dJ7_copyOf_6403c_17 : decode cJ7_copyOf_6403c 17 = .ok (.iload_n 1, 1) := by decide +kernel
theorem dJ7_copyOf_6403c_18 : decode cJ7_copyOf_6403c 18 = .ok (.invokestatic 95, 3) := by decide +kernel
theorem dJ7_copyOf_6403c_21 : decode cJ7_copyOf_6403c 21 = .ok (.checkcast 110, 3) := by decide +kernel
theorem dJ7_copyOf_6403c_24 : decode cJ7_copyOf_6403c 24 = .ok (.astore_n 3, 1) := by decide +kernel
theorem dJ7_copyOf_6403c_25 : decode cJ7_copyOf_6403c 25 = .ok (.aload_n 0, 1) := by decide +kernel
theorem dJ7_copyOf_6403c_26 : decode cJ7_copyOf_6403c 26 = .ok (.iconst 0, 1) := by decide +kernel
theorem dJ7_copyOf_6403c_27 : decode cJ7_copyOf_6403c 27 = .ok (.aload_n 3, 1) := by decide +kernel
theorem dJ7_copyOf_6403c_28 : decode cJ7_copyOf_6403c 28 = .ok (.iconst 0, 1) := by decide +kernel
theorem dJ7_copyOf_6403c_29 : decode cJ7_copyOf_6403c 29 = .ok (.aload_n 0, 1) := by decide +kernel
theorem dJ7_copyOf_6403c_30 : decode cJ7_copyOf_6403c 30 = .ok (.arraylength, 1) := by decide +kernel
theorem dJ7_copyOf_6403c_31 : decode cJ7_copyOf_6403c 31 = .ok (.iload_n 1, 1) := by decide +kernel
theorem dJ7_copyOf_6403c_32 : decode cJ7_copyOf_6403c 32 = .ok (.invokestatic 304, 3) := by decide +kernel
theorem dJ7_copyOf_6403c_35 : decode cJ7_copyOf_6403c 35 = .ok (.invokestatic 150, 3) := by decide +kernel
theorem dJ7_copyOf_6403c_38 : decode cJ7_copyOf_6403c 38 = .ok (.aload_n 3, 1) := by decide +kernel
theorem dJ7_copyOf_6403c_39 : decode cJ7_copyOf_6403c 39 = .ok (.areturn, 1) := by decide +kernel
theorem dJ15_checkIndex_7cf53_0 : decode cJ15_checkIndex_7cf53 0 = .ok (.iload_n 0, 1) := by decide +kernel
theorem dJ15_checkIndex_7cf53_1 : decode cJ15_checkIndex_7cf53 1 = .ok (.iload_n 1, 1) := by decide +kernel
theorem dJ15_checkIndex_7cf53_2 : decode cJ15_checkIndex_7cf53 2 = .ok (.aconst_null, 1) := by decide +kernel
theorem dJ15_checkIndex_7cf53_3 : decode cJ15_checkIndex_7cf53 3 = .ok (.invokestatic 105, 3) := by decide +kernel
theorem dJ15_checkIndex_7cf53_6 : decode cJ15_checkIndex_7cf53 6 = .ok (.ireturn, 1) := by decide +kernel
theorem dJ8_newLength_cabcc_0 : decode cJ8_newLength_cabcc 0 = .ok (.iload_n 0, 1) := by decide +kernel
theorem dJ8_newLength_cabcc_1 : decode cJ8_newLength_cabcc 1 = .ok (.iload_n 1, 1) := by decide +kernel
theorem dJ8_newLength_cabcc_2 : decode cJ8_newLength_cabcc 2 = .ok (.iload_n 2, 1) := by decide +kernel
theorem dJ8_newLength_cabcc_3 : decode cJ8_newLength_cabcc 3 = .ok (.invokestatic 194, 3) := by decide +kernel
theorem dJ8_newLength_cabcc_6 : decode cJ8_newLength_cabcc 6 = .ok (.iadd, 1) := by decide +kernel
theorem dJ8_newLength_cabcc_7 : decode cJ8_newLength_cabcc 7 = .ok (.istore_n 3, 1) := by decide +kernel
theorem dJ8_newLength_cabcc_8 : decode cJ8_newLength_cabcc 8 = .ok (.iconst 0, 1) := by decide +kernel
theorem dJ8_newLength_cabcc_9 : decode cJ8_newLength_cabcc 9 = .ok (.iload_n 3, 1) := by decide +kernel
theorem dJ8_newLength_cabcc_10 : decode cJ8_newLength_cabcc 10 = .ok (.if_icmp .ge 11, 3) := by decide +kernel
theorem dJ8_newLength_cabcc_13 : decode cJ8_newLength_cabcc 13 = .ok (.iload_n 3, 1) := by decide +kernel
theorem dJ8_newLength_cabcc_14 : decode cJ8_newLength_cabcc 14 = .ok (.ldc 200, 2) := by decide +kernel
theorem dJ8_newLength_cabcc_16 : decode cJ8_newLength_cabcc 16 = .ok (.if_icmp .gt 5, 3) := by decide +kernel
theorem dJ8_newLength_cabcc_19 : decode cJ8_newLength_cabcc 19 = .ok (.iload_n 3, 1) := by decide +kernel
theorem dJ8_newLength_cabcc_20 : decode cJ8_newLength_cabcc 20 = .ok (.ireturn, 1) := by decide +kernel
theorem dJ8_newLength_cabcc_21 : decode cJ8_newLength_cabcc 21 = .ok (.iload_n 0, 1) := by decide +kernel
theorem dJ8_newLength_cabcc_22 : decode cJ8_newLength_cabcc 22 = .ok (.iload_n 1, 1) := by decide +kernel
theorem dJ8_newLength_cabcc_23 : decode cJ8_newLength_cabcc 23 = .ok (.invokestatic 201, 3) := by decide +kernel
theorem dJ8_newLength_cabcc_26 : decode cJ8_newLength_cabcc 26 = .ok (.ireturn, 1) := by decide +kernel
theorem dJ8_hugeLength_7cf53_0 : decode cJ8_hugeLength_7cf53 0 = .ok (.iload_n 0, 1) := by decide +kernel
theorem dJ8_hugeLength_7cf53_1 : decode cJ8_hugeLength_7cf53 1 = .ok (.iload_n 1, 1) := by decide +kernel
theorem dJ8_hugeLength_7cf53_2 : decode cJ8_hugeLength_7cf53 2 = .ok (.iadd, 1) := by decide +kernel
theorem dJ8_hugeLength_7cf53_3 : decode cJ8_hugeLength_7cf53 3 = .ok (.istore_n 2, 1) := by decide +kernel
theorem dJ8_hugeLength_7cf53_4 : decode cJ8_hugeLength_7cf53 4 = .ok (.iload_n 2, 1) := by decide +kernel
theorem dJ8_hugeLength_7cf53_5 : decode cJ8_hugeLength_7cf53 5 = .ok (.ifCond .ge 44, 3) := by decide +kernel
theorem dJ8_hugeLength_7cf53_8 : decode cJ8_hugeLength_7cf53 8 = .ok (.new 204, 3) := by decide +kernel
theorem dJ8_hugeLength_7cf53_11 : decode cJ8_hugeLength_7cf53 11 = .ok (.dup, 1) := by decide +kernel
theorem dJ8_hugeLength_7cf53_12 : decode cJ8_hugeLength_7cf53 12 = .ok (.new 89, 3) := by decide +kernel
theorem dJ8_hugeLength_7cf53_15 : decode cJ8_hugeLength_7cf53 15 = .ok (.dup, 1) := by decide +kernel
theorem dJ8_hugeLength_7cf53_16 : decode cJ8_hugeLength_7cf53 16 = .ok (.invokespecial 91, 3) := by decide +kernel
theorem dJ8_hugeLength_7cf53_19 : decode cJ8_hugeLength_7cf53 19 = .ok (.ldc 206, 2) := by decide +kernel
theorem dJ8_hugeLength_7cf53_21 : decode cJ8_hugeLength_7cf53 21 = .ok (.invokevirtual 94, 3) := by decide +kernel
theorem dJ8_hugeLength_7cf53_24 : decode cJ8_hugeLength_7cf53 24 = .ok (.iload_n 0, 1) := by decide +kernel
theorem dJ8_hugeLength_7cf53_25 : decode cJ8_hugeLength_7cf53 25 = .ok (.invokevirtual 98, 3) := by decide +kernel
theorem dJ8_hugeLength_7cf53_28 : decode cJ8_hugeLength_7cf53 28 = .ok (.ldc 208, 2) := by decide +kernel
theorem dJ8_hugeLength_7cf53_30 : decode cJ8_hugeLength_7cf53 30 = .ok (.invokevirtual 94, 3) := by decide +kernel
theorem dJ8_hugeLength_7cf53_33 : decode cJ8_hugeLength_7cf53 33 = .ok (.iload_n 1, 1) := by decide +kernel
theorem dJ8_hugeLength_7cf53_34 : decode cJ8_hugeLength_7cf53 34 = .ok (.invokevirtual 98, 3) := by decide +kernel
theorem dJ8_hugeLength_7cf53_37 : decode cJ8_hugeLength_7cf53 37 = .ok (.ldc 210, 2) := by decide +kernel
theorem dJ8_hugeLength_7cf53_39 : decode cJ8_hugeLength_7cf53 39 = .ok (.invokevirtual 94, 3) := by decide +kernel
theorem dJ8_hugeLength_7cf53_42 : decode cJ8_hugeLength_7cf53 42 = .ok (.invokevirtual 101, 3) := by decide +kernel
theorem dJ8_hugeLength_7cf53_45 : decode cJ8_hugeLength_7cf53 45 = .ok (.invokespecial 212, 3) := by decide +kernel
theorem dJ8_hugeLength_7cf53_48 : decode cJ8_hugeLength_7cf53 48 = .ok (.athrow, 1) := by decide +kernel
theorem dJ8_hugeLength_7cf53_49 : decode cJ8_hugeLength_7cf53 49 = .ok (.iload_n 2, 1) := by decide +kernel
theorem dJ8_hugeLength_7cf53_50 : decode cJ8_hugeLength_7cf53 50 = .ok (.ldc 200, 2) := by decide +kernel
theorem dJ8_hugeLength_7cf53_52 : decode cJ8_hugeLength_7cf53 52 = .ok (.if_icmp .gt 6, 3) := by decide +kernel
theorem dJ8_hugeLength_7cf53_55 : decode cJ8_hugeLength_7cf53 55 = .ok (.ldc 200, 2) := by decide +kernel
theorem dJ8_hugeLength_7cf53_57 : decode cJ8_hugeLength_7cf53 57 = .ok (.ireturn, 1) := by decide +kernel
theorem dJ8_hugeLength_7cf53_58 : decode cJ8_hugeLength_7cf53 58 = .ok (.iload_n 2, 1) := by decide +kernel
theorem dJ8_hugeLength_7cf53_59 : decode cJ8_hugeLength_7cf53 59 = .ok (.ireturn, 1) := by decide +kernel
theorem dJ3_checkIndex_8e157_0 : decode cJ3_checkIndex_8e157 0 = .ok (.iload_n 0, 1) := by decide +kernel
theorem dJ3_checkIndex_8e157_1 : decode cJ3_checkIndex_8e157 1 = .ok (.ifCond .lt 8, 3) := by decide +kernel
theorem dJ3_checkIndex_8e157_4 : decode cJ3_checkIndex_8e157 4 = .ok (.iload_n 0, 1) := by decide +kernel
theorem dJ3_checkIndex_8e157_5 : decode cJ3_checkIndex_8e157 5 = .ok (.iload_n 1, 1) := by decide +kernel
theorem dJ3_checkIndex_8e157_6 : decode cJ3_checkIndex_8e157 6 = .ok (.if_icmp .lt 10, 3) := by decide +kernel
theorem dJ3_checkIndex_8e157_9 : decode cJ3_checkIndex_8e157 9 = .ok (.aload_n 2, 1) := by decide +kernel
theorem dJ3_checkIndex_8e157_10 : decode cJ3_checkIndex_8e157 10 = .ok (.iload_n 0, 1) := by decide +kernel
theorem dJ3_checkIndex_8e157_11 : decode cJ3_checkIndex_8e157 11 = .ok (.iload_n 1, 1) := by decide +kernel
theorem dJ3_checkIndex_8e157_12 : decode cJ3_checkIndex_8e157 12 = .ok (.invokestatic 95, 3) := by decide +kernel
theorem dJ3_checkIndex_8e157_15 : decode cJ3_checkIndex_8e157 15 = .ok (.athrow, 1) := by decide +kernel
theorem dJ3_checkIndex_8e157_16 : decode cJ3_checkIndex_8e157 16 = .ok (.iload_n 0, 1) := by decide +kernel
theorem dJ3_checkIndex_8e157_17 : decode cJ3_checkIndex_8e157 17 = .ok (.ireturn, 1) := by decide +kernel
theorem dL_page_0 : decode cL_page 0 = .ok (.aload_n 2, 1) := by decide +kernel
theorem dL_page_1 : decode cL_page 1 = .ok (.iconst 0, 1) := by decide +kernel
theorem dL_page_2 : decode cL_page 2 = .ok (.aload_n 0, 1) := by decide +kernel
theorem dL_page_3 : decode cL_page 3 = .ok (.iload_n 1, 1) := by decide +kernel
theorem dL_page_4 : decode cL_page 4 = .ok (.invokevirtual 7, 3) := by decide +kernel
theorem dL_page_7 : decode cL_page 7 = .ok (.i2l, 1) := by decide +kernel
theorem dL_page_8 : decode cL_page 8 = .ok (.lastore, 1) := by decide +kernel
theorem dL_page_9 : decode cL_page 9 = .ok (.goto 6, 3) := by decide +kernel
theorem dL_page_12 : decode cL_page 12 = .ok (.astore_n 3, 1) := by decide +kernel
theorem dL_page_13 : decode cL_page 13 = .ok (.iconst 1, 1) := by decide +kernel
theorem dL_page_14 : decode cL_page 14 = .ok (.ireturn, 1) := by decide +kernel
theorem dL_page_15 : decode cL_page 15 = .ok (.iconst 0, 1) := by decide +kernel
theorem dL_page_16 : decode cL_page 16 = .ok (.ireturn, 1) := by decide +kernel
theorem dL_panel_0 : decode cL_panel 0 = .ok (.aload 6, 2) := by decide +kernel
theorem dL_panel_2 : decode cL_panel 2 = .ok (.iconst 0, 1) := by decide +kernel
theorem dL_panel_3 : decode cL_panel 3 = .ok (.aload_n 0, 1) := by decide +kernel
theorem dL_panel_4 : decode cL_panel 4 = .ok (.iload_n 1, 1) := by decide +kernel
theorem dL_panel_5 : decode cL_panel 5 = .ok (.iload_n 2, 1) := by decide +kernel
theorem dL_panel_6 : decode cL_panel 6 = .ok (.iload_n 3, 1) := by decide +kernel
theorem dL_panel_7 : decode cL_panel 7 = .ok (.iload 4, 2) := by decide +kernel
theorem dL_panel_9 : decode cL_panel 9 = .ok (.iload 5, 2) := by decide +kernel
theorem dL_panel_11 : decode cL_panel 11 = .ok (.invokevirtual 15, 3) := by decide +kernel
theorem dL_panel_14 : decode cL_panel 14 = .ok (.i2l, 1) := by decide +kernel
theorem dL_panel_15 : decode cL_panel 15 = .ok (.lastore, 1) := by decide +kernel
theorem dL_panel_16 : decode cL_panel 16 = .ok (.goto 15, 3) := by decide +kernel
theorem dL_panel_19 : decode cL_panel 19 = .ok (.astore 7, 2) := by decide +kernel
theorem dL_panel_21 : decode cL_panel 21 = .ok (.iconst 1, 1) := by decide +kernel
theorem dL_panel_22 : decode cL_panel 22 = .ok (.ireturn, 1) := by decide +kernel
theorem dL_panel_23 : decode cL_panel 23 = .ok (.astore 7, 2) := by decide +kernel
theorem dL_panel_25 : decode cL_panel 25 = .ok (.iconst 2, 1) := by decide +kernel
theorem dL_panel_26 : decode cL_panel 26 = .ok (.ireturn, 1) := by decide +kernel
theorem dL_panel_27 : decode cL_panel 27 = .ok (.astore 7, 2) := by decide +kernel
theorem dL_panel_29 : decode cL_panel 29 = .ok (.iconst 3, 1) := by decide +kernel
theorem dL_panel_30 : decode cL_panel 30 = .ok (.ireturn, 1) := by decide +kernel
theorem dL_panel_31 : decode cL_panel 31 = .ok (.iconst 0, 1) := by decide +kernel
theorem dL_panel_32 : decode cL_panel 32 = .ok (.ireturn, 1) := by decide +kernel
theorem dL_turn_0 : decode cL_turn 0 = .ok (.aload_n 3, 1) := by decide +kernel
theorem dL_turn_1 : decode cL_turn 1 = .ok (.iconst 0, 1) := by decide +kernel
theorem dL_turn_2 : decode cL_turn 2 = .ok (.aload_n 0, 1) := by decide +kernel
theorem dL_turn_3 : decode cL_turn 3 = .ok (.iload_n 1, 1) := by decide +kernel
theorem dL_turn_4 : decode cL_turn 4 = .ok (.iload_n 2, 1) := by decide +kernel
theorem dL_turn_5 : decode cL_turn 5 = .ok (.invokevirtual 23, 3) := by decide +kernel
theorem dL_turn_8 : decode cL_turn 8 = .ok (.ifCond .eq 7, 3) := by decide +kernel
theorem dL_turn_11 : decode cL_turn 11 = .ok (.lconst 1, 1) := by decide +kernel
theorem dL_turn_12 : decode cL_turn 12 = .ok (.goto 4, 3) := by decide +kernel
theorem dL_turn_15 : decode cL_turn 15 = .ok (.lconst 0, 1) := by decide +kernel
theorem dL_turn_16 : decode cL_turn 16 = .ok (.lastore, 1) := by decide +kernel
theorem dL_turn_17 : decode cL_turn 17 = .ok (.goto 11, 3) := by decide +kernel
theorem dL_turn_20 : decode cL_turn 20 = .ok (.astore 4, 2) := by decide +kernel
theorem dL_turn_22 : decode cL_turn 22 = .ok (.iconst 1, 1) := by decide +kernel
theorem dL_turn_23 : decode cL_turn 23 = .ok (.ireturn, 1) := by decide +kernel
theorem dL_turn_24 : decode cL_turn 24 = .ok (.astore 4, 2) := by decide +kernel
theorem dL_turn_26 : decode cL_turn 26 = .ok (.iconst 2, 1) := by decide +kernel
theorem dL_turn_27 : decode cL_turn 27 = .ok (.ireturn, 1) := by decide +kernel
theorem dL_turn_28 : decode cL_turn 28 = .ok (.iconst 0, 1) := by decide +kernel
theorem dL_turn_29 : decode cL_turn 29 = .ok (.ireturn, 1) := by decide +kernel
theorem dL_read_0 : decode cL_read 0 = .ok (.aload 4, 2) := by decide +kernel
theorem dL_read_2 : decode cL_read 2 = .ok (.iconst 0, 1) := by decide +kernel
theorem dL_read_3 : decode cL_read 3 = .ok (.aload_n 0, 1) := by decide +kernel
theorem dL_read_4 : decode cL_read 4 = .ok (.iload_n 1, 1) := by decide +kernel
theorem dL_read_5 : decode cL_read 5 = .ok (.iload_n 2, 1) := by decide +kernel
theorem dL_read_6 : decode cL_read 6 = .ok (.iload_n 3, 1) := by decide +kernel
theorem dL_read_7 : decode cL_read 7 = .ok (.invokevirtual 27, 3) := by decide +kernel
theorem dL_read_10 : decode cL_read 10 = .ok (.i2l, 1) := by decide +kernel
theorem dL_read_11 : decode cL_read 11 = .ok (.lastore, 1) := by decide +kernel
theorem dL_read_12 : decode cL_read 12 = .ok (.goto 7, 3) := by decide +kernel
theorem dL_read_15 : decode cL_read 15 = .ok (.astore 5, 2) := by decide +kernel
theorem dL_read_17 : decode cL_read 17 = .ok (.iconst 1, 1) := by decide +kernel
theorem dL_read_18 : decode cL_read 18 = .ok (.ireturn, 1) := by decide +kernel
theorem dL_read_19 : decode cL_read 19 = .ok (.iconst 0, 1) := by decide +kernel
theorem dL_read_20 : decode cL_read 20 = .ok (.ireturn, 1) := by decide +kernel
theorem dL_doubts_0 : decode cL_doubts 0 = .ok (.aload_n 2, 1) := by decide +kernel
theorem dL_doubts_1 : decode cL_doubts 1 = .ok (.iconst 0, 1) := by decide +kernel
theorem dL_doubts_2 : decode cL_doubts 2 = .ok (.aload_n 0, 1) := by decide +kernel
theorem dL_doubts_3 : decode cL_doubts 3 = .ok (.iload_n 1, 1) := by decide +kernel
theorem dL_doubts_4 : decode cL_doubts 4 = .ok (.invokevirtual 31, 3) := by decide +kernel
theorem dL_doubts_7 : decode cL_doubts 7 = .ok (.i2l, 1) := by decide +kernel
theorem dL_doubts_8 : decode cL_doubts 8 = .ok (.lastore, 1) := by decide +kernel
theorem dL_doubts_9 : decode cL_doubts 9 = .ok (.goto 6, 3) := by decide +kernel
theorem dL_doubts_12 : decode cL_doubts 12 = .ok (.astore_n 3, 1) := by decide +kernel
theorem dL_doubts_13 : decode cL_doubts 13 = .ok (.iconst 1, 1) := by decide +kernel
theorem dL_doubts_14 : decode cL_doubts 14 = .ok (.ireturn, 1) := by decide +kernel
theorem dL_doubts_15 : decode cL_doubts 15 = .ok (.iconst 0, 1) := by decide +kernel
theorem dL_doubts_16 : decode cL_doubts 16 = .ok (.ireturn, 1) := by decide +kernel
theorem dL_orders_0 : decode cL_orders 0 = .ok (.aload_n 3, 1) := by decide +kernel
theorem dL_orders_1 : decode cL_orders 1 = .ok (.iconst 0, 1) := by decide +kernel
theorem dL_orders_2 : decode cL_orders 2 = .ok (.aload_n 0, 1) := by decide +kernel
theorem dL_orders_3 : decode cL_orders 3 = .ok (.iload_n 1, 1) := by decide +kernel
theorem dL_orders_4 : decode cL_orders 4 = .ok (.iload_n 2, 1) := by decide +kernel
theorem dL_orders_5 : decode cL_orders 5 = .ok (.invokevirtual 35, 3) := by decide +kernel
theorem dL_orders_8 : decode cL_orders 8 = .ok (.i2l, 1) := by decide +kernel
theorem dL_orders_9 : decode cL_orders 9 = .ok (.lastore, 1) := by decide +kernel
theorem dL_orders_10 : decode cL_orders 10 = .ok (.goto 7, 3) := by decide +kernel
theorem dL_orders_13 : decode cL_orders 13 = .ok (.astore 4, 2) := by decide +kernel
theorem dL_orders_15 : decode cL_orders 15 = .ok (.iconst 1, 1) := by decide +kernel
theorem dL_orders_16 : decode cL_orders 16 = .ok (.ireturn, 1) := by decide +kernel
theorem dL_orders_17 : decode cL_orders 17 = .ok (.iconst 0, 1) := by decide +kernel
theorem dL_orders_18 : decode cL_orders 18 = .ok (.ireturn, 1) := by decide +kernel
theorem dL_isOne_0 : decode cL_isOne 0 = .ok (.aload_n 3, 1) := by decide +kernel
theorem dL_isOne_1 : decode cL_isOne 1 = .ok (.iconst 0, 1) := by decide +kernel
theorem dL_isOne_2 : decode cL_isOne 2 = .ok (.aload_n 0, 1) := by decide +kernel
theorem dL_isOne_3 : decode cL_isOne 3 = .ok (.iload_n 1, 1) := by decide +kernel
theorem dL_isOne_4 : decode cL_isOne 4 = .ok (.iload_n 2, 1) := by decide +kernel
theorem dL_isOne_5 : decode cL_isOne 5 = .ok (.invokevirtual 39, 3) := by decide +kernel
theorem dL_isOne_8 : decode cL_isOne 8 = .ok (.ifCond .eq 7, 3) := by decide +kernel
theorem dL_isOne_11 : decode cL_isOne 11 = .ok (.lconst 1, 1) := by decide +kernel
theorem dL_isOne_12 : decode cL_isOne 12 = .ok (.goto 4, 3) := by decide +kernel
theorem dL_isOne_15 : decode cL_isOne 15 = .ok (.lconst 0, 1) := by decide +kernel
theorem dL_isOne_16 : decode cL_isOne 16 = .ok (.lastore, 1) := by decide +kernel
theorem dL_isOne_17 : decode cL_isOne 17 = .ok (.goto 7, 3) := by decide +kernel
theorem dL_isOne_20 : decode cL_isOne 20 = .ok (.astore 4, 2) := by decide +kernel
theorem dL_isOne_22 : decode cL_isOne 22 = .ok (.iconst 1, 1) := by decide +kernel
theorem dL_isOne_23 : decode cL_isOne 23 = .ok (.ireturn, 1) := by decide +kernel
theorem dL_isOne_24 : decode cL_isOne 24 = .ok (.iconst 0, 1) := by decide +kernel
theorem dL_isOne_25 : decode cL_isOne 25 = .ok (.ireturn, 1) := by decide +kernel
theorem dL_mirror_0 : decode cL_mirror 0 = .ok (.aload_n 2, 1) := by decide +kernel
theorem dL_mirror_1 : decode cL_mirror 1 = .ok (.iconst 0, 1) := by decide +kernel
theorem dL_mirror_2 : decode cL_mirror 2 = .ok (.aload_n 0, 1) := by decide +kernel
theorem dL_mirror_3 : decode cL_mirror 3 = .ok (.iload_n 1, 1) := by decide +kernel
theorem dL_mirror_4 : decode cL_mirror 4 = .ok (.invokevirtual 42, 3) := by decide +kernel
theorem dL_mirror_7 : decode cL_mirror 7 = .ok (.i2l, 1) := by decide +kernel
theorem dL_mirror_8 : decode cL_mirror 8 = .ok (.lastore, 1) := by decide +kernel
theorem dL_mirror_9 : decode cL_mirror 9 = .ok (.goto 9, 3) := by decide +kernel
theorem dL_mirror_12 : decode cL_mirror 12 = .ok (.astore_n 3, 1) := by decide +kernel
theorem dL_mirror_13 : decode cL_mirror 13 = .ok (.iconst 1, 1) := by decide +kernel
theorem dL_mirror_14 : decode cL_mirror 14 = .ok (.ireturn, 1) := by decide +kernel
theorem dL_mirror_15 : decode cL_mirror 15 = .ok (.astore_n 3, 1) := by decide +kernel
theorem dL_mirror_16 : decode cL_mirror 16 = .ok (.iconst 2, 1) := by decide +kernel
theorem dL_mirror_17 : decode cL_mirror 17 = .ok (.ireturn, 1) := by decide +kernel
theorem dL_mirror_18 : decode cL_mirror 18 = .ok (.iconst 0, 1) := by decide +kernel
theorem dL_mirror_19 : decode cL_mirror 19 = .ok (.ireturn, 1) := by decide +kernel
theorem dL_figure_0 : decode cL_figure 0 = .ok (.aload_n 1, 1) := by decide +kernel
theorem dL_figure_1 : decode cL_figure 1 = .ok (.iconst 0, 1) := by decide +kernel
theorem dL_figure_2 : decode cL_figure 2 = .ok (.aload_n 0, 1) := by decide +kernel
theorem dL_figure_3 : decode cL_figure 3 = .ok (.invokevirtual 45, 3) := by decide +kernel
theorem dL_figure_6 : decode cL_figure 6 = .ok (.i2l, 1) := by decide +kernel
theorem dL_figure_7 : decode cL_figure 7 = .ok (.lastore, 1) := by decide +kernel
theorem dL_figure_8 : decode cL_figure 8 = .ok (.goto 6, 3) := by decide +kernel
theorem dL_figure_11 : decode cL_figure 11 = .ok (.astore_n 2, 1) := by decide +kernel
theorem dL_figure_12 : decode cL_figure 12 = .ok (.iconst 1, 1) := by decide +kernel
theorem dL_figure_13 : decode cL_figure 13 = .ok (.ireturn, 1) := by decide +kernel
theorem dL_figure_14 : decode cL_figure 14 = .ok (.iconst 0, 1) := by decide +kernel
theorem dL_figure_15 : decode cL_figure 15 = .ok (.ireturn, 1) := by decide +kernel
theorem dL_draw_0 : decode cL_draw 0 = .ok (.aload_n 0, 1) := by decide +kernel
theorem dL_draw_1 : decode cL_draw 1 = .ok (.iload_n 1, 1) := by decide +kernel
theorem dL_draw_2 : decode cL_draw 2 = .ok (.iload_n 2, 1) := by decide +kernel
theorem dL_draw_3 : decode cL_draw 3 = .ok (.iload_n 3, 1) := by decide +kernel
theorem dL_draw_4 : decode cL_draw 4 = .ok (.iload 4, 2) := by decide +kernel
theorem dL_draw_6 : decode cL_draw 6 = .ok (.iload 5, 2) := by decide +kernel
theorem dL_draw_8 : decode cL_draw 8 = .ok (.iload 6, 2) := by decide +kernel
theorem dL_draw_10 : decode cL_draw 10 = .ok (.iload 7, 2) := by decide +kernel
theorem dL_draw_12 : decode cL_draw 12 = .ok (.iload 8, 2) := by decide +kernel
theorem dL_draw_14 : decode cL_draw 14 = .ok (.invokevirtual 49, 3) := by decide +kernel
theorem dL_draw_17 : decode cL_draw 17 = .ok (.goto 15, 3) := by decide +kernel
theorem dL_draw_20 : decode cL_draw 20 = .ok (.astore 9, 2) := by decide +kernel
theorem dL_draw_22 : decode cL_draw 22 = .ok (.iconst 1, 1) := by decide +kernel
theorem dL_draw_23 : decode cL_draw 23 = .ok (.ireturn, 1) := by decide +kernel
theorem dL_draw_24 : decode cL_draw 24 = .ok (.astore 9, 2) := by decide +kernel
theorem dL_draw_26 : decode cL_draw 26 = .ok (.iconst 2, 1) := by decide +kernel
theorem dL_draw_27 : decode cL_draw 27 = .ok (.ireturn, 1) := by decide +kernel
theorem dL_draw_28 : decode cL_draw 28 = .ok (.astore 9, 2) := by decide +kernel
theorem dL_draw_30 : decode cL_draw 30 = .ok (.iconst 3, 1) := by decide +kernel
theorem dL_draw_31 : decode cL_draw 31 = .ok (.ireturn, 1) := by decide +kernel
theorem dL_draw_32 : decode cL_draw 32 = .ok (.iconst 0, 1) := by decide +kernel
theorem dL_draw_33 : decode cL_draw 33 = .ok (.ireturn, 1) := by decide +kernel
theorem dL_balloon_0 : decode cL_balloon 0 = .ok (.aload 9, 2) := by decide +kernel
theorem dL_balloon_2 : decode cL_balloon 2 = .ok (.iconst 0, 1) := by decide +kernel
theorem dL_balloon_3 : decode cL_balloon 3 = .ok (.aload_n 0, 1) := by decide +kernel
theorem dL_balloon_4 : decode cL_balloon 4 = .ok (.iload_n 1, 1) := by decide +kernel
theorem dL_balloon_5 : decode cL_balloon 5 = .ok (.iload_n 2, 1) := by decide +kernel
theorem dL_balloon_6 : decode cL_balloon 6 = .ok (.iload_n 3, 1) := by decide +kernel
theorem dL_balloon_7 : decode cL_balloon 7 = .ok (.iload 4, 2) := by decide +kernel
theorem dL_balloon_9 : decode cL_balloon 9 = .ok (.iload 5, 2) := by decide +kernel
theorem dL_balloon_11 : decode cL_balloon 11 = .ok (.iload 6, 2) := by decide +kernel
theorem dL_balloon_13 : decode cL_balloon 13 = .ok (.iload 7, 2) := by decide +kernel
theorem dL_balloon_15 : decode cL_balloon 15 = .ok (.iload 8, 2) := by decide +kernel
theorem dL_balloon_17 : decode cL_balloon 17 = .ok (.invokevirtual 53, 3) := by decide +kernel
theorem dL_balloon_20 : decode cL_balloon 20 = .ok (.i2l, 1) := by decide +kernel
theorem dL_balloon_21 : decode cL_balloon 21 = .ok (.lastore, 1) := by decide +kernel
theorem dL_balloon_22 : decode cL_balloon 22 = .ok (.goto 15, 3) := by decide +kernel
theorem dL_balloon_25 : decode cL_balloon 25 = .ok (.astore 10, 2) := by decide +kernel
theorem dL_balloon_27 : decode cL_balloon 27 = .ok (.iconst 1, 1) := by decide +kernel
theorem dL_balloon_28 : decode cL_balloon 28 = .ok (.ireturn, 1) := by decide +kernel
theorem dL_balloon_29 : decode cL_balloon 29 = .ok (.astore 10, 2) := by decide +kernel
theorem dL_balloon_31 : decode cL_balloon 31 = .ok (.iconst 2, 1) := by decide +kernel
theorem dL_balloon_32 : decode cL_balloon 32 = .ok (.ireturn, 1) := by decide +kernel
theorem dL_balloon_33 : decode cL_balloon 33 = .ok (.astore 10, 2) := by decide +kernel
theorem dL_balloon_35 : decode cL_balloon 35 = .ok (.iconst 3, 1) := by decide +kernel
theorem dL_balloon_36 : decode cL_balloon 36 = .ok (.ireturn, 1) := by decide +kernel
theorem dL_balloon_37 : decode cL_balloon 37 = .ok (.iconst 0, 1) := by decide +kernel
theorem dL_balloon_38 : decode cL_balloon 38 = .ok (.ireturn, 1) := by decide +kernel
theorem dL_move_0 : decode cL_move 0 = .ok (.aload_n 0, 1) := by decide +kernel
theorem dL_move_1 : decode cL_move 1 = .ok (.iload_n 1, 1) := by decide +kernel
theorem dL_move_2 : decode cL_move 2 = .ok (.iload_n 2, 1) := by decide +kernel
theorem dL_move_3 : decode cL_move 3 = .ok (.iload_n 3, 1) := by decide +kernel
theorem dL_move_4 : decode cL_move 4 = .ok (.iload 4, 2) := by decide +kernel
theorem dL_move_6 : decode cL_move 6 = .ok (.invokevirtual 57, 3) := by decide +kernel
theorem dL_move_9 : decode cL_move 9 = .ok (.goto 15, 3) := by decide +kernel
theorem dL_move_12 : decode cL_move 12 = .ok (.astore 5, 2) := by decide +kernel
theorem dL_move_14 : decode cL_move 14 = .ok (.iconst 1, 1) := by decide +kernel
theorem dL_move_15 : decode cL_move 15 = .ok (.ireturn, 1) := by decide +kernel
theorem dL_move_16 : decode cL_move 16 = .ok (.astore 5, 2) := by decide +kernel
theorem dL_move_18 : decode cL_move 18 = .ok (.iconst 2, 1) := by decide +kernel
theorem dL_move_19 : decode cL_move 19 = .ok (.ireturn, 1) := by decide +kernel
theorem dL_move_20 : decode cL_move 20 = .ok (.astore 5, 2) := by decide +kernel
theorem dL_move_22 : decode cL_move 22 = .ok (.iconst 3, 1) := by decide +kernel
theorem dL_move_23 : decode cL_move 23 = .ok (.ireturn, 1) := by decide +kernel
theorem dL_move_24 : decode cL_move 24 = .ok (.iconst 0, 1) := by decide +kernel
theorem dL_move_25 : decode cL_move 25 = .ok (.ireturn, 1) := by decide +kernel
theorem dL_faults_0 : decode cL_faults 0 = .ok (.aload_n 3, 1) := by decide +kernel
theorem dL_faults_1 : decode cL_faults 1 = .ok (.iconst 0, 1) := by decide +kernel
theorem dL_faults_2 : decode cL_faults 2 = .ok (.aload_n 0, 1) := by decide +kernel
theorem dL_faults_3 : decode cL_faults 3 = .ok (.iload_n 1, 1) := by decide +kernel
theorem dL_faults_4 : decode cL_faults 4 = .ok (.iload_n 2, 1) := by decide +kernel
theorem dL_faults_5 : decode cL_faults 5 = .ok (.invokevirtual 61, 3) := by decide +kernel
theorem dL_faults_8 : decode cL_faults 8 = .ok (.i2l, 1) := by decide +kernel
theorem dL_faults_9 : decode cL_faults 9 = .ok (.lastore, 1) := by decide +kernel
theorem dL_faults_10 : decode cL_faults 10 = .ok (.goto 7, 3) := by decide +kernel
theorem dL_faults_13 : decode cL_faults 13 = .ok (.astore 4, 2) := by decide +kernel
theorem dL_faults_15 : decode cL_faults 15 = .ok (.iconst 1, 1) := by decide +kernel
theorem dL_faults_16 : decode cL_faults 16 = .ok (.ireturn, 1) := by decide +kernel
theorem dL_faults_17 : decode cL_faults 17 = .ok (.iconst 0, 1) := by decide +kernel
theorem dL_faults_18 : decode cL_faults 18 = .ok (.ireturn, 1) := by decide +kernel
theorem dL_tell_0 : decode cL_tell 0 = .ok (.aload 5, 2) := by decide +kernel
theorem dL_tell_2 : decode cL_tell 2 = .ok (.iconst 0, 1) := by decide +kernel
theorem dL_tell_3 : decode cL_tell 3 = .ok (.aload_n 0, 1) := by decide +kernel
theorem dL_tell_4 : decode cL_tell 4 = .ok (.iload_n 1, 1) := by decide +kernel
theorem dL_tell_5 : decode cL_tell 5 = .ok (.iload_n 2, 1) := by decide +kernel
theorem dL_tell_6 : decode cL_tell 6 = .ok (.iload_n 3, 1) := by decide +kernel
theorem dL_tell_7 : decode cL_tell 7 = .ok (.iload 4, 2) := by decide +kernel
theorem dL_tell_9 : decode cL_tell 9 = .ok (.invokevirtual 65, 3) := by decide +kernel
theorem dL_tell_12 : decode cL_tell 12 = .ok (.i2l, 1) := by decide +kernel
theorem dL_tell_13 : decode cL_tell 13 = .ok (.lastore, 1) := by decide +kernel
theorem dL_tell_14 : decode cL_tell 14 = .ok (.goto 15, 3) := by decide +kernel
theorem dL_tell_17 : decode cL_tell 17 = .ok (.astore 6, 2) := by decide +kernel
theorem dL_tell_19 : decode cL_tell 19 = .ok (.iconst 1, 1) := by decide +kernel
theorem dL_tell_20 : decode cL_tell 20 = .ok (.ireturn, 1) := by decide +kernel
theorem dL_tell_21 : decode cL_tell 21 = .ok (.astore 6, 2) := by decide +kernel
theorem dL_tell_23 : decode cL_tell 23 = .ok (.iconst 2, 1) := by decide +kernel
theorem dL_tell_24 : decode cL_tell 24 = .ok (.ireturn, 1) := by decide +kernel
theorem dL_tell_25 : decode cL_tell 25 = .ok (.astore 6, 2) := by decide +kernel
theorem dL_tell_27 : decode cL_tell 27 = .ok (.iconst 3, 1) := by decide +kernel
theorem dL_tell_28 : decode cL_tell 28 = .ok (.ireturn, 1) := by decide +kernel
theorem dL_tell_29 : decode cL_tell 29 = .ok (.iconst 0, 1) := by decide +kernel
theorem dL_tell_30 : decode cL_tell 30 = .ok (.ireturn, 1) := by decide +kernel
theorem dL_known_0 : decode cL_known 0 = .ok (.aload 4, 2) := by decide +kernel
theorem dL_known_2 : decode cL_known 2 = .ok (.iconst 0, 1) := by decide +kernel
theorem dL_known_3 : decode cL_known 3 = .ok (.aload_n 0, 1) := by decide +kernel
theorem dL_known_4 : decode cL_known 4 = .ok (.iload_n 1, 1) := by decide +kernel
theorem dL_known_5 : decode cL_known 5 = .ok (.iload_n 2, 1) := by decide +kernel
theorem dL_known_6 : decode cL_known 6 = .ok (.iload_n 3, 1) := by decide +kernel
theorem dL_known_7 : decode cL_known 7 = .ok (.invokevirtual 69, 3) := by decide +kernel
theorem dL_known_10 : decode cL_known 10 = .ok (.i2l, 1) := by decide +kernel
theorem dL_known_11 : decode cL_known 11 = .ok (.lastore, 1) := by decide +kernel
theorem dL_known_12 : decode cL_known 12 = .ok (.goto 11, 3) := by decide +kernel
theorem dL_known_15 : decode cL_known 15 = .ok (.astore 5, 2) := by decide +kernel
theorem dL_known_17 : decode cL_known 17 = .ok (.iconst 1, 1) := by decide +kernel
theorem dL_known_18 : decode cL_known 18 = .ok (.ireturn, 1) := by decide +kernel
theorem dL_known_19 : decode cL_known 19 = .ok (.astore 5, 2) := by decide +kernel
theorem dL_known_21 : decode cL_known 21 = .ok (.iconst 2, 1) := by decide +kernel
theorem dL_known_22 : decode cL_known 22 = .ok (.ireturn, 1) := by decide +kernel
theorem dL_known_23 : decode cL_known 23 = .ok (.iconst 0, 1) := by decide +kernel
theorem dL_known_24 : decode cL_known 24 = .ok (.ireturn, 1) := by decide +kernel
theorem dL_contradictions_0 : decode cL_contradictions 0 = .ok (.aload_n 2, 1) := by decide +kernel
theorem dL_contradictions_1 : decode cL_contradictions 1 = .ok (.iconst 0, 1) := by decide +kernel
theorem dL_contradictions_2 : decode cL_contradictions 2 = .ok (.aload_n 0, 1) := by decide +kernel
theorem dL_contradictions_3 : decode cL_contradictions 3 = .ok (.iload_n 1, 1) := by decide +kernel
theorem dL_contradictions_4 : decode cL_contradictions 4 = .ok (.invokevirtual 73, 3) := by decide +kernel
theorem dL_contradictions_7 : decode cL_contradictions 7 = .ok (.i2l, 1) := by decide +kernel
theorem dL_contradictions_8 : decode cL_contradictions 8 = .ok (.lastore, 1) := by decide +kernel
theorem dL_contradictions_9 : decode cL_contradictions 9 = .ok (.goto 6, 3) := by decide +kernel
theorem dL_contradictions_12 : decode cL_contradictions 12 = .ok (.astore_n 3, 1) := by decide +kernel
theorem dL_contradictions_13 : decode cL_contradictions 13 = .ok (.iconst 1, 1) := by decide +kernel
theorem dL_contradictions_14 : decode cL_contradictions 14 = .ok (.ireturn, 1) := by decide +kernel
theorem dL_contradictions_15 : decode cL_contradictions 15 = .ok (.iconst 0, 1) := by decide +kernel
theorem dL_contradictions_16 : decode cL_contradictions 16 = .ok (.ireturn, 1) := by decide +kernel
theorem dL_workers_0 : decode cL_workers 0 = .ok (.aload_n 2, 1) := by decide +kernel
theorem dL_workers_1 : decode cL_workers 1 = .ok (.iconst 0, 1) := by decide +kernel
theorem dL_workers_2 : decode cL_workers 2 = .ok (.aload_n 0, 1) := by decide +kernel
theorem dL_workers_3 : decode cL_workers 3 = .ok (.iload_n 1, 1) := by decide +kernel
theorem dL_workers_4 : decode cL_workers 4 = .ok (.invokevirtual 76, 3) := by decide +kernel
theorem dL_workers_7 : decode cL_workers 7 = .ok (.i2l, 1) := by decide +kernel
theorem dL_workers_8 : decode cL_workers 8 = .ok (.lastore, 1) := by decide +kernel
theorem dL_workers_9 : decode cL_workers 9 = .ok (.goto 6, 3) := by decide +kernel
theorem dL_workers_12 : decode cL_workers 12 = .ok (.astore_n 3, 1) := by decide +kernel
theorem dL_workers_13 : decode cL_workers 13 = .ok (.iconst 1, 1) := by decide +kernel
theorem dL_workers_14 : decode cL_workers 14 = .ok (.ireturn, 1) := by decide +kernel
theorem dL_workers_15 : decode cL_workers 15 = .ok (.iconst 0, 1) := by decide +kernel
theorem dL_workers_16 : decode cL_workers 16 = .ok (.ireturn, 1) := by decide +kernel
theorem dL_pass_0 : decode cL_pass 0 = .ok (.aload_n 2, 1) := by decide +kernel
theorem dL_pass_1 : decode cL_pass 1 = .ok (.iconst 0, 1) := by decide +kernel
theorem dL_pass_2 : decode cL_pass 2 = .ok (.aload_n 0, 1) := by decide +kernel
theorem dL_pass_3 : decode cL_pass 3 = .ok (.iload_n 1, 1) := by decide +kernel
theorem dL_pass_4 : decode cL_pass 4 = .ok (.invokevirtual 79, 3) := by decide +kernel
theorem dL_pass_7 : decode cL_pass 7 = .ok (.i2l, 1) := by decide +kernel
theorem dL_pass_8 : decode cL_pass 8 = .ok (.lastore, 1) := by decide +kernel
theorem dL_pass_9 : decode cL_pass 9 = .ok (.goto 9, 3) := by decide +kernel
theorem dL_pass_12 : decode cL_pass 12 = .ok (.astore_n 3, 1) := by decide +kernel
theorem dL_pass_13 : decode cL_pass 13 = .ok (.iconst 1, 1) := by decide +kernel
theorem dL_pass_14 : decode cL_pass 14 = .ok (.ireturn, 1) := by decide +kernel
theorem dL_pass_15 : decode cL_pass 15 = .ok (.astore_n 3, 1) := by decide +kernel
theorem dL_pass_16 : decode cL_pass 16 = .ok (.iconst 2, 1) := by decide +kernel
theorem dL_pass_17 : decode cL_pass 17 = .ok (.ireturn, 1) := by decide +kernel
theorem dL_pass_18 : decode cL_pass 18 = .ok (.iconst 0, 1) := by decide +kernel
theorem dL_pass_19 : decode cL_pass 19 = .ok (.ireturn, 1) := by decide +kernel
theorem dL_stage_0 : decode cL_stage 0 = .ok (.aload_n 2, 1) := by decide +kernel
theorem dL_stage_1 : decode cL_stage 1 = .ok (.iconst 0, 1) := by decide +kernel
theorem dL_stage_2 : decode cL_stage 2 = .ok (.aload_n 0, 1) := by decide +kernel
theorem dL_stage_3 : decode cL_stage 3 = .ok (.iload_n 1, 1) := by decide +kernel
theorem dL_stage_4 : decode cL_stage 4 = .ok (.invokevirtual 82, 3) := by decide +kernel
theorem dL_stage_7 : decode cL_stage 7 = .ok (.i2l, 1) := by decide +kernel
theorem dL_stage_8 : decode cL_stage 8 = .ok (.lastore, 1) := by decide +kernel
theorem dL_stage_9 : decode cL_stage 9 = .ok (.goto 6, 3) := by decide +kernel
theorem dL_stage_12 : decode cL_stage 12 = .ok (.astore_n 3, 1) := by decide +kernel
theorem dL_stage_13 : decode cL_stage 13 = .ok (.iconst 1, 1) := by decide +kernel
theorem dL_stage_14 : decode cL_stage 14 = .ok (.ireturn, 1) := by decide +kernel
theorem dL_stage_15 : decode cL_stage 15 = .ok (.iconst 0, 1) := by decide +kernel
theorem dL_stage_16 : decode cL_stage 16 = .ok (.ireturn, 1) := by decide +kernel
theorem dL_press_0 : decode cL_press 0 = .ok (.aload_n 2, 1) := by decide +kernel
theorem dL_press_1 : decode cL_press 1 = .ok (.iconst 0, 1) := by decide +kernel
theorem dL_press_2 : decode cL_press 2 = .ok (.aload_n 0, 1) := by decide +kernel
theorem dL_press_3 : decode cL_press 3 = .ok (.iload_n 1, 1) := by decide +kernel
theorem dL_press_4 : decode cL_press 4 = .ok (.invokevirtual 85, 3) := by decide +kernel
theorem dL_press_7 : decode cL_press 7 = .ok (.i2l, 1) := by decide +kernel
theorem dL_press_8 : decode cL_press 8 = .ok (.lastore, 1) := by decide +kernel
theorem dL_press_9 : decode cL_press 9 = .ok (.goto 9, 3) := by decide +kernel
theorem dL_press_12 : decode cL_press 12 = .ok (.astore_n 3, 1) := by decide +kernel
theorem dL_press_13 : decode cL_press 13 = .ok (.iconst 1, 1) := by decide +kernel
theorem dL_press_14 : decode cL_press 14 = .ok (.ireturn, 1) := by decide +kernel
theorem dL_press_15 : decode cL_press 15 = .ok (.astore_n 3, 1) := by decide +kernel
theorem dL_press_16 : decode cL_press 16 = .ok (.iconst 2, 1) := by decide +kernel
theorem dL_press_17 : decode cL_press 17 = .ok (.ireturn, 1) := by decide +kernel
theorem dL_press_18 : decode cL_press 18 = .ok (.iconst 0, 1) := by decide +kernel
theorem dL_press_19 : decode cL_press 19 = .ok (.ireturn, 1) := by decide +kernel
theorem dL_printed_0 : decode cL_printed 0 = .ok (.aload_n 3, 1) := by decide +kernel
theorem dL_printed_1 : decode cL_printed 1 = .ok (.iconst 0, 1) := by decide +kernel
theorem dL_printed_2 : decode cL_printed 2 = .ok (.aload_n 0, 1) := by decide +kernel
theorem dL_printed_3 : decode cL_printed 3 = .ok (.iload_n 1, 1) := by decide +kernel
theorem dL_printed_4 : decode cL_printed 4 = .ok (.iload_n 2, 1) := by decide +kernel
theorem dL_printed_5 : decode cL_printed 5 = .ok (.invokevirtual 88, 3) := by decide +kernel
theorem dL_printed_8 : decode cL_printed 8 = .ok (.i2l, 1) := by decide +kernel
theorem dL_printed_9 : decode cL_printed 9 = .ok (.lastore, 1) := by decide +kernel
theorem dL_printed_10 : decode cL_printed 10 = .ok (.goto 11, 3) := by decide +kernel
theorem dL_printed_13 : decode cL_printed 13 = .ok (.astore 4, 2) := by decide +kernel
theorem dL_printed_15 : decode cL_printed 15 = .ok (.iconst 1, 1) := by decide +kernel
theorem dL_printed_16 : decode cL_printed 16 = .ok (.ireturn, 1) := by decide +kernel
theorem dL_printed_17 : decode cL_printed 17 = .ok (.astore 4, 2) := by decide +kernel
theorem dL_printed_19 : decode cL_printed 19 = .ok (.iconst 2, 1) := by decide +kernel
theorem dL_printed_20 : decode cL_printed 20 = .ok (.ireturn, 1) := by decide +kernel
theorem dL_printed_21 : decode cL_printed 21 = .ok (.iconst 0, 1) := by decide +kernel
theorem dL_printed_22 : decode cL_printed 22 = .ok (.ireturn, 1) := by decide +kernel
theorem dL_law_0 : decode cL_law 0 = .ok (.new 8, 3) := by decide +kernel
theorem dL_law_3 : decode cL_law 3 = .ok (.dup, 1) := by decide +kernel
theorem dL_law_4 : decode cL_law 4 = .ok (.invokespecial 91, 3) := by decide +kernel
theorem dL_law_7 : decode cL_law 7 = .ok (.astore_n 1, 1) := by decide +kernel
theorem dL_law_8 : decode cL_law 8 = .ok (.new 92, 3) := by decide +kernel
theorem dL_law_11 : decode cL_law 11 = .ok (.dup, 1) := by decide +kernel
theorem dL_law_12 : decode cL_law 12 = .ok (.invokespecial 94, 3) := by decide +kernel
theorem dL_law_15 : decode cL_law 15 = .ok (.astore_n 2, 1) := by decide +kernel
theorem dL_law_16 : decode cL_law 16 = .ok (.iconst 1, 1) := by decide +kernel
theorem dL_law_17 : decode cL_law 17 = .ok (.newarray .long, 2) := by decide +kernel
theorem dL_law_19 : decode cL_law 19 = .ok (.astore_n 3, 1) := by decide +kernel
theorem dL_law_20 : decode cL_law 20 = .ok (.iconst 0, 1) := by decide +kernel
theorem dL_law_21 : decode cL_law 21 = .ok (.istore 4, 2) := by decide +kernel
theorem dL_law_23 : decode cL_law 23 = .ok (.iload 4, 2) := by decide +kernel
theorem dL_law_25 : decode cL_law 25 = .ok (.aload_n 0, 1) := by decide +kernel
theorem dL_law_26 : decode cL_law 26 = .ok (.arraylength, 1) := by decide +kernel
theorem dL_law_27 : decode cL_law 27 = .ok (.bipush 9, 2) := by decide +kernel
theorem dL_law_29 : decode cL_law 29 = .ok (.isub, 1) := by decide +kernel
theorem dL_law_30 : decode cL_law 30 = .ok (.if_icmp .gt 1791, 3) := by decide +kernel
theorem dL_law_33 : decode cL_law 33 = .ok (.aload_n 0, 1) := by decide +kernel
theorem dL_law_34 : decode cL_law 34 = .ok (.iload 4, 2) := by decide +kernel
theorem dL_law_36 : decode cL_law 36 = .ok (.iaload, 1) := by decide +kernel
theorem dL_law_37 : decode cL_law 37 = .ok (.bipush 31, 2) := by decide +kernel
theorem dL_law_39 : decode cL_law 39 = .ok (.iand, 1) := by decide +kernel
theorem dL_law_40 : decode cL_law 40 = .ok (.tableswitch 1775 0 21 #[104, 176, 280, 371, 467, 523, 607, 698, 754, 798, 940, 1086, 1158, 1226, 1239, 1347, 1427, 1483, 1539, 1595, 1651, 1707], 104) := by decide +kernel
theorem dL_law_144 : decode cL_law 144 = .ok (.aload_n 1, 1) := by decide +kernel
theorem dL_law_145 : decode cL_law 145 = .ok (.aload_n 0, 1) := by decide +kernel
theorem dL_law_146 : decode cL_law 146 = .ok (.iload 4, 2) := by decide +kernel
theorem dL_law_148 : decode cL_law 148 = .ok (.iconst 1, 1) := by decide +kernel
theorem dL_law_149 : decode cL_law 149 = .ok (.iadd, 1) := by decide +kernel
theorem dL_law_150 : decode cL_law 150 = .ok (.iaload, 1) := by decide +kernel
theorem dL_law_151 : decode cL_law 151 = .ok (.ifCond .eq 7, 3) := by decide +kernel
theorem dL_law_154 : decode cL_law 154 = .ok (.iconst 1, 1) := by decide +kernel
theorem dL_law_155 : decode cL_law 155 = .ok (.goto 4, 3) := by decide +kernel
theorem dL_law_158 : decode cL_law 158 = .ok (.iconst 0, 1) := by decide +kernel
theorem dL_law_159 : decode cL_law 159 = .ok (.aload_n 3, 1) := by decide +kernel
theorem dL_law_160 : decode cL_law 160 = .ok (.invokestatic 95, 3) := by decide +kernel
theorem dL_law_163 : decode cL_law 163 = .ok (.istore 5, 2) := by decide +kernel
theorem dL_law_165 : decode cL_law 165 = .ok (.aload_n 2, 1) := by decide +kernel
theorem dL_law_166 : decode cL_law 166 = .ok (.aload_n 0, 1) := by decide +kernel
theorem dL_law_167 : decode cL_law 167 = .ok (.iload 4, 2) := by decide +kernel
theorem dL_law_169 : decode cL_law 169 = .ok (.iconst 1, 1) := by decide +kernel
theorem dL_law_170 : decode cL_law 170 = .ok (.iadd, 1) := by decide +kernel
theorem dL_law_171 : decode cL_law 171 = .ok (.iaload, 1) := by decide +kernel
theorem dL_law_172 : decode cL_law 172 = .ok (.ifCond .eq 7, 3) := by decide +kernel
theorem dL_law_175 : decode cL_law 175 = .ok (.iconst 1, 1) := by decide +kernel
theorem dL_law_176 : decode cL_law 176 = .ok (.goto 4, 3) := by decide +kernel
theorem dL_law_179 : decode cL_law 179 = .ok (.iconst 0, 1) := by decide +kernel
theorem dL_law_180 : decode cL_law 180 = .ok (.invokevirtual 100, 3) := by decide +kernel
theorem dL_law_183 : decode cL_law 183 = .ok (.istore 6, 2) := by decide +kernel
theorem dL_law_185 : decode cL_law 185 = .ok (.aload_n 2, 1) := by decide +kernel
theorem dL_law_186 : decode cL_law 186 = .ok (.invokevirtual 101, 3) := by decide +kernel
theorem dL_law_189 : decode cL_law 189 = .ok (.iload 5, 2) := by decide +kernel
theorem dL_law_191 : decode cL_law 191 = .ok (.if_icmp .eq 5, 3) := by decide +kernel
theorem dL_law_194 : decode cL_law 194 = .ok (.iconst 0, 1) := by decide +kernel
theorem dL_law_195 : decode cL_law 195 = .ok (.ireturn, 1) := by decide +kernel
theorem dL_law_196 : decode cL_law 196 = .ok (.iload 5, 2) := by decide +kernel
theorem dL_law_198 : decode cL_law 198 = .ok (.ifCond .ne 15, 3) := by decide +kernel
theorem dL_law_201 : decode cL_law 201 = .ok (.aload_n 3, 1) := by decide +kernel
theorem dL_law_202 : decode cL_law 202 = .ok (.iconst 0, 1) := by decide +kernel
theorem dL_law_203 : decode cL_law 203 = .ok (.laload, 1) := by decide +kernel
theorem dL_law_204 : decode cL_law 204 = .ok (.iload 6, 2) := by decide +kernel
theorem dL_law_206 : decode cL_law 206 = .ok (.i2l, 1) := by decide +kernel
theorem dL_law_207 : decode cL_law 207 = .ok (.lcmp, 1) := by decide +kernel
theorem dL_law_208 : decode cL_law 208 = .ok (.ifCond .eq 5, 3) := by decide +kernel
theorem dL_law_211 : decode cL_law 211 = .ok (.iconst 0, 1) := by decide +kernel
theorem dL_law_212 : decode cL_law 212 = .ok (.ireturn, 1) := by decide +kernel
theorem dL_law_213 : decode cL_law 213 = .ok (.goto 1602, 3) := by decide +kernel
theorem dL_law_216 : decode cL_law 216 = .ok (.aload_n 1, 1) := by decide +kernel
theorem dL_law_217 : decode cL_law 217 = .ok (.aload_n 0, 1) := by decide +kernel
theorem dL_law_218 : decode cL_law 218 = .ok (.iload 4, 2) := by decide +kernel
theorem dL_law_220 : decode cL_law 220 = .ok (.iconst 1, 1) := by decide +kernel
theorem dL_law_221 : decode cL_law 221 = .ok (.iadd, 1) := by decide +kernel
theorem dL_law_222 : decode cL_law 222 = .ok (.iaload, 1) := by decide +kernel
theorem dL_law_223 : decode cL_law 223 = .ok (.aload_n 0, 1) := by decide +kernel
theorem dL_law_224 : decode cL_law 224 = .ok (.iload 4, 2) := by decide +kernel
theorem dL_law_226 : decode cL_law 226 = .ok (.iconst 2, 1) := by decide +kernel
theorem dL_law_227 : decode cL_law 227 = .ok (.iadd, 1) := by decide +kernel
theorem dL_law_228 : decode cL_law 228 = .ok (.iaload, 1) := by decide +kernel
theorem dL_law_229 : decode cL_law 229 = .ok (.aload_n 0, 1) := by decide +kernel
theorem dL_law_230 : decode cL_law 230 = .ok (.iload 4, 2) := by decide +kernel
theorem dL_law_232 : decode cL_law 232 = .ok (.iconst 3, 1) := by decide +kernel
theorem dL_law_233 : decode cL_law 233 = .ok (.iadd, 1) := by decide +kernel
theorem dL_law_234 : decode cL_law 234 = .ok (.iaload, 1) := by decide +kernel
theorem dL_law_235 : decode cL_law 235 = .ok (.aload_n 0, 1) := by decide +kernel
theorem dL_law_236 : decode cL_law 236 = .ok (.iload 4, 2) := by decide +kernel
theorem dL_law_238 : decode cL_law 238 = .ok (.iconst 4, 1) := by decide +kernel
theorem dL_law_239 : decode cL_law 239 = .ok (.iadd, 1) := by decide +kernel
theorem dL_law_240 : decode cL_law 240 = .ok (.iaload, 1) := by decide +kernel
theorem dL_law_241 : decode cL_law 241 = .ok (.aload_n 0, 1) := by decide +kernel
theorem dL_law_242 : decode cL_law 242 = .ok (.iload 4, 2) := by decide +kernel
theorem dL_law_244 : decode cL_law 244 = .ok (.iconst 5, 1) := by decide +kernel
theorem dL_law_245 : decode cL_law 245 = .ok (.iadd, 1) := by decide +kernel
theorem dL_law_246 : decode cL_law 246 = .ok (.iaload, 1) := by decide +kernel
theorem dL_law_247 : decode cL_law 247 = .ok (.aload_n 3, 1) := by decide +kernel
theorem dL_law_248 : decode cL_law 248 = .ok (.invokestatic 104, 3) := by decide +kernel
theorem dL_law_251 : decode cL_law 251 = .ok (.istore 5, 2) := by decide +kernel
theorem dL_law_253 : decode cL_law 253 = .ok (.aload_n 2, 1) := by decide +kernel
theorem dL_law_254 : decode cL_law 254 = .ok (.aload_n 0, 1) := by decide +kernel
theorem dL_law_255 : decode cL_law 255 = .ok (.iload 4, 2) := by decide +kernel
theorem dL_law_257 : decode cL_law 257 = .ok (.iconst 1, 1) := by decide +kernel
theorem dL_law_258 : decode cL_law 258 = .ok (.iadd, 1) := by decide +kernel
theorem dL_law_259 : decode cL_law 259 = .ok (.iaload, 1) := by decide +kernel
theorem dL_law_260 : decode cL_law 260 = .ok (.aload_n 0, 1) := by decide +kernel
theorem dL_law_261 : decode cL_law 261 = .ok (.iload 4, 2) := by decide +kernel
theorem dL_law_263 : decode cL_law 263 = .ok (.iconst 2, 1) := by decide +kernel
theorem dL_law_264 : decode cL_law 264 = .ok (.iadd, 1) := by decide +kernel
theorem dL_law_265 : decode cL_law 265 = .ok (.iaload, 1) := by decide +kernel
theorem dL_law_266 : decode cL_law 266 = .ok (.aload_n 0, 1) := by decide +kernel
theorem dL_law_267 : decode cL_law 267 = .ok (.iload 4, 2) := by decide +kernel
theorem dL_law_269 : decode cL_law 269 = .ok (.iconst 3, 1) := by decide +kernel
theorem dL_law_270 : decode cL_law 270 = .ok (.iadd, 1) := by decide +kernel
theorem dL_law_271 : decode cL_law 271 = .ok (.iaload, 1) := by decide +kernel
theorem dL_law_272 : decode cL_law 272 = .ok (.aload_n 0, 1) := by decide +kernel
theorem dL_law_273 : decode cL_law 273 = .ok (.iload 4, 2) := by decide +kernel
theorem dL_law_275 : decode cL_law 275 = .ok (.iconst 4, 1) := by decide +kernel
theorem dL_law_276 : decode cL_law 276 = .ok (.iadd, 1) := by decide +kernel
theorem dL_law_277 : decode cL_law 277 = .ok (.iaload, 1) := by decide +kernel
theorem dL_law_278 : decode cL_law 278 = .ok (.aload_n 0, 1) := by decide +kernel
theorem dL_law_279 : decode cL_law 279 = .ok (.iload 4, 2) := by decide +kernel
theorem dL_law_281 : decode cL_law 281 = .ok (.iconst 5, 1) := by decide +kernel
theorem dL_law_282 : decode cL_law 282 = .ok (.iadd, 1) := by decide +kernel
theorem dL_law_283 : decode cL_law 283 = .ok (.iaload, 1) := by decide +kernel
theorem dL_law_284 : decode cL_law 284 = .ok (.invokevirtual 107, 3) := by decide +kernel
theorem dL_law_287 : decode cL_law 287 = .ok (.istore 6, 2) := by decide +kernel
theorem dL_law_289 : decode cL_law 289 = .ok (.aload_n 2, 1) := by decide +kernel
theorem dL_law_290 : decode cL_law 290 = .ok (.invokevirtual 101, 3) := by decide +kernel
theorem dL_law_293 : decode cL_law 293 = .ok (.iload 5, 2) := by decide +kernel
theorem dL_law_295 : decode cL_law 295 = .ok (.if_icmp .eq 5, 3) := by decide +kernel
theorem dL_law_298 : decode cL_law 298 = .ok (.iconst 0, 1) := by decide +kernel
theorem dL_law_299 : decode cL_law 299 = .ok (.ireturn, 1) := by decide +kernel
theorem dL_law_300 : decode cL_law 300 = .ok (.iload 5, 2) := by decide +kernel
theorem dL_law_302 : decode cL_law 302 = .ok (.ifCond .ne 15, 3) := by decide +kernel
theorem dL_law_305 : decode cL_law 305 = .ok (.aload_n 3, 1) := by decide +kernel
theorem dL_law_306 : decode cL_law 306 = .ok (.iconst 0, 1) := by decide +kernel
theorem dL_law_307 : decode cL_law 307 = .ok (.laload, 1) := by decide +kernel
theorem dL_law_308 : decode cL_law 308 = .ok (.iload 6, 2) := by decide +kernel
theorem dL_law_310 : decode cL_law 310 = .ok (.i2l, 1) := by decide +kernel
theorem dL_law_311 : decode cL_law 311 = .ok (.lcmp, 1) := by decide +kernel
theorem dL_law_312 : decode cL_law 312 = .ok (.ifCond .eq 5, 3) := by decide +kernel
theorem dL_law_315 : decode cL_law 315 = .ok (.iconst 0, 1) := by decide +kernel
theorem dL_law_316 : decode cL_law 316 = .ok (.ireturn, 1) := by decide +kernel
theorem dL_law_317 : decode cL_law 317 = .ok (.goto 1498, 3) := by decide +kernel
theorem dL_law_320 : decode cL_law 320 = .ok (.aload_n 1, 1) := by decide +kernel
theorem dL_law_321 : decode cL_law 321 = .ok (.aload_n 0, 1) := by decide +kernel
theorem dL_law_322 : decode cL_law 322 = .ok (.iload 4, 2) := by decide +kernel
theorem dL_law_324 : decode cL_law 324 = .ok (.iconst 1, 1) := by decide +kernel
theorem dL_law_325 : decode cL_law 325 = .ok (.iadd, 1) := by decide +kernel
theorem dL_law_326 : decode cL_law 326 = .ok (.iaload, 1) := by decide +kernel
theorem dL_law_327 : decode cL_law 327 = .ok (.aload_n 0, 1) := by decide +kernel
theorem dL_law_328 : decode cL_law 328 = .ok (.iload 4, 2) := by decide +kernel
theorem dL_law_330 : decode cL_law 330 = .ok (.iconst 2, 1) := by decide +kernel
theorem dL_law_331 : decode cL_law 331 = .ok (.iadd, 1) := by decide +kernel
theorem dL_law_332 : decode cL_law 332 = .ok (.iaload, 1) := by decide +kernel
theorem dL_law_333 : decode cL_law 333 = .ok (.ifCond .eq 7, 3) := by decide +kernel
theorem dL_law_336 : decode cL_law 336 = .ok (.iconst 1, 1) := by decide +kernel
theorem dL_law_337 : decode cL_law 337 = .ok (.goto 4, 3) := by decide +kernel
theorem dL_law_340 : decode cL_law 340 = .ok (.iconst 0, 1) := by decide +kernel
theorem dL_law_341 : decode cL_law 341 = .ok (.aload_n 3, 1) := by decide +kernel
theorem dL_law_342 : decode cL_law 342 = .ok (.invokestatic 108, 3) := by decide +kernel
theorem dL_law_345 : decode cL_law 345 = .ok (.istore 5, 2) := by decide +kernel
theorem dL_law_347 : decode cL_law 347 = .ok (.aload_n 2, 1) := by decide +kernel
theorem dL_law_348 : decode cL_law 348 = .ok (.aload_n 0, 1) := by decide +kernel
theorem dL_law_349 : decode cL_law 349 = .ok (.iload 4, 2) := by decide +kernel
theorem dL_law_351 : decode cL_law 351 = .ok (.iconst 1, 1) := by decide +kernel
theorem dL_law_352 : decode cL_law 352 = .ok (.iadd, 1) := by decide +kernel
theorem dL_law_353 : decode cL_law 353 = .ok (.iaload, 1) := by decide +kernel
theorem dL_law_354 : decode cL_law 354 = .ok (.aload_n 0, 1) := by decide +kernel
theorem dL_law_355 : decode cL_law 355 = .ok (.iload 4, 2) := by decide +kernel
theorem dL_law_357 : decode cL_law 357 = .ok (.iconst 2, 1) := by decide +kernel
theorem dL_law_358 : decode cL_law 358 = .ok (.iadd, 1) := by decide +kernel
theorem dL_law_359 : decode cL_law 359 = .ok (.iaload, 1) := by decide +kernel
theorem dL_law_360 : decode cL_law 360 = .ok (.ifCond .eq 7, 3) := by decide +kernel
theorem dL_law_363 : decode cL_law 363 = .ok (.iconst 1, 1) := by decide +kernel
theorem dL_law_364 : decode cL_law 364 = .ok (.goto 4, 3) := by decide +kernel
theorem dL_law_367 : decode cL_law 367 = .ok (.iconst 0, 1) := by decide +kernel
theorem dL_law_368 : decode cL_law 368 = .ok (.invokevirtual 111, 3) := by decide +kernel
theorem dL_law_371 : decode cL_law 371 = .ok (.istore 6, 2) := by decide +kernel
theorem dL_law_373 : decode cL_law 373 = .ok (.aload_n 2, 1) := by decide +kernel
theorem dL_law_374 : decode cL_law 374 = .ok (.invokevirtual 101, 3) := by decide +kernel
theorem dL_law_377 : decode cL_law 377 = .ok (.iload 5, 2) := by decide +kernel
theorem dL_law_379 : decode cL_law 379 = .ok (.if_icmp .eq 5, 3) := by decide +kernel
theorem dL_law_382 : decode cL_law 382 = .ok (.iconst 0, 1) := by decide +kernel
theorem dL_law_383 : decode cL_law 383 = .ok (.ireturn, 1) := by decide +kernel
theorem dL_law_384 : decode cL_law 384 = .ok (.iload 5, 2) := by decide +kernel
theorem dL_law_386 : decode cL_law 386 = .ok (.ifCond .ne 22, 3) := by decide +kernel
theorem dL_law_389 : decode cL_law 389 = .ok (.aload_n 3, 1) := by decide +kernel
theorem dL_law_390 : decode cL_law 390 = .ok (.iconst 0, 1) := by decide +kernel
theorem dL_law_391 : decode cL_law 391 = .ok (.laload, 1) := by decide +kernel
theorem dL_law_392 : decode cL_law 392 = .ok (.iload 6, 2) := by decide +kernel
theorem dL_law_394 : decode cL_law 394 = .ok (.ifCond .eq 7, 3) := by decide +kernel
theorem dL_law_397 : decode cL_law 397 = .ok (.lconst 1, 1) := by decide +kernel
theorem dL_law_398 : decode cL_law 398 = .ok (.goto 4, 3) := by decide +kernel
theorem dL_law_401 : decode cL_law 401 = .ok (.lconst 0, 1) := by decide +kernel
theorem dL_law_402 : decode cL_law 402 = .ok (.lcmp, 1) := by decide +kernel
theorem dL_law_403 : decode cL_law 403 = .ok (.ifCond .eq 5, 3) := by decide +kernel
theorem dL_law_406 : decode cL_law 406 = .ok (.iconst 0, 1) := by decide +kernel
theorem dL_law_407 : decode cL_law 407 = .ok (.ireturn, 1) := by decide +kernel
theorem dL_law_408 : decode cL_law 408 = .ok (.goto 1407, 3) := by decide +kernel
theorem dL_law_411 : decode cL_law 411 = .ok (.aload_n 1, 1) := by decide +kernel
theorem dL_law_412 : decode cL_law 412 = .ok (.aload_n 0, 1) := by decide +kernel
theorem dL_law_413 : decode cL_law 413 = .ok (.iload 4, 2) := by decide +kernel
theorem dL_law_415 : decode cL_law 415 = .ok (.iconst 1, 1) := by decide +kernel
theorem dL_law_416 : decode cL_law 416 = .ok (.iadd, 1) := by decide +kernel
theorem dL_law_417 : decode cL_law 417 = .ok (.iaload, 1) := by decide +kernel
theorem dL_law_418 : decode cL_law 418 = .ok (.aload_n 0, 1) := by decide +kernel
theorem dL_law_419 : decode cL_law 419 = .ok (.iload 4, 2) := by decide +kernel
theorem dL_law_421 : decode cL_law 421 = .ok (.iconst 2, 1) := by decide +kernel
theorem dL_law_422 : decode cL_law 422 = .ok (.iadd, 1) := by decide +kernel
theorem dL_law_423 : decode cL_law 423 = .ok (.iaload, 1) := by decide +kernel
theorem dL_law_424 : decode cL_law 424 = .ok (.ifCond .eq 7, 3) := by decide +kernel
theorem dL_law_427 : decode cL_law 427 = .ok (.iconst 1, 1) := by decide +kernel
theorem dL_law_428 : decode cL_law 428 = .ok (.goto 4, 3) := by decide +kernel
theorem dL_law_431 : decode cL_law 431 = .ok (.iconst 0, 1) := by decide +kernel
theorem dL_law_432 : decode cL_law 432 = .ok (.aload_n 0, 1) := by decide +kernel
theorem dL_law_433 : decode cL_law 433 = .ok (.iload 4, 2) := by decide +kernel
theorem dL_law_435 : decode cL_law 435 = .ok (.iconst 3, 1) := by decide +kernel
theorem dL_law_436 : decode cL_law 436 = .ok (.iadd, 1) := by decide +kernel
theorem dL_law_437 : decode cL_law 437 = .ok (.iaload, 1) := by decide +kernel
theorem dL_law_438 : decode cL_law 438 = .ok (.aload_n 3, 1) := by decide +kernel
theorem dL_law_439 : decode cL_law 439 = .ok (.invokestatic 112, 3) := by decide +kernel
theorem dL_law_442 : decode cL_law 442 = .ok (.istore 5, 2) := by decide +kernel
theorem dL_law_444 : decode cL_law 444 = .ok (.aload_n 2, 1) := by decide +kernel
theorem dL_law_445 : decode cL_law 445 = .ok (.aload_n 0, 1) := by decide +kernel
theorem dL_law_446 : decode cL_law 446 = .ok (.iload 4, 2) := by decide +kernel
theorem dL_law_448 : decode cL_law 448 = .ok (.iconst 1, 1) := by decide +kernel
theorem dL_law_449 : decode cL_law 449 = .ok (.iadd, 1) := by decide +kernel
theorem dL_law_450 : decode cL_law 450 = .ok (.iaload, 1) := by decide +kernel
theorem dL_law_451 : decode cL_law 451 = .ok (.aload_n 0, 1) := by decide +kernel
theorem dL_law_452 : decode cL_law 452 = .ok (.iload 4, 2) := by decide +kernel
theorem dL_law_454 : decode cL_law 454 = .ok (.iconst 2, 1) := by decide +kernel
theorem dL_law_455 : decode cL_law 455 = .ok (.iadd, 1) := by decide +kernel
theorem dL_law_456 : decode cL_law 456 = .ok (.iaload, 1) := by decide +kernel
theorem dL_law_457 : decode cL_law 457 = .ok (.ifCond .eq 7, 3) := by decide +kernel
theorem dL_law_460 : decode cL_law 460 = .ok (.iconst 1, 1) := by decide +kernel
theorem dL_law_461 : decode cL_law 461 = .ok (.goto 4, 3) := by decide +kernel
theorem dL_law_464 : decode cL_law 464 = .ok (.iconst 0, 1) := by decide +kernel
theorem dL_law_465 : decode cL_law 465 = .ok (.aload_n 0, 1) := by decide +kernel
theorem dL_law_466 : decode cL_law 466 = .ok (.iload 4, 2) := by decide +kernel
theorem dL_law_468 : decode cL_law 468 = .ok (.iconst 3, 1) := by decide +kernel
theorem dL_law_469 : decode cL_law 469 = .ok (.iadd, 1) := by decide +kernel
theorem dL_law_470 : decode cL_law 470 = .ok (.iaload, 1) := by decide +kernel
theorem dL_law_471 : decode cL_law 471 = .ok (.invokevirtual 115, 3) := by decide +kernel
theorem dL_law_474 : decode cL_law 474 = .ok (.istore 6, 2) := by decide +kernel
theorem dL_law_476 : decode cL_law 476 = .ok (.aload_n 2, 1) := by decide +kernel
theorem dL_law_477 : decode cL_law 477 = .ok (.invokevirtual 101, 3) := by decide +kernel
theorem dL_law_480 : decode cL_law 480 = .ok (.iload 5, 2) := by decide +kernel
theorem dL_law_482 : decode cL_law 482 = .ok (.if_icmp .eq 5, 3) := by decide +kernel
theorem dL_law_485 : decode cL_law 485 = .ok (.iconst 0, 1) := by decide +kernel
theorem dL_law_486 : decode cL_law 486 = .ok (.ireturn, 1) := by decide +kernel
theorem dL_law_487 : decode cL_law 487 = .ok (.iload 5, 2) := by decide +kernel
theorem dL_law_489 : decode cL_law 489 = .ok (.ifCond .ne 15, 3) := by decide +kernel
theorem dL_law_492 : decode cL_law 492 = .ok (.aload_n 3, 1) := by decide +kernel
theorem dL_law_493 : decode cL_law 493 = .ok (.iconst 0, 1) := by decide +kernel
theorem dL_law_494 : decode cL_law 494 = .ok (.laload, 1) := by decide +kernel
theorem dL_law_495 : decode cL_law 495 = .ok (.iload 6, 2) := by decide +kernel
theorem dL_law_497 : decode cL_law 497 = .ok (.i2l, 1) := by decide +kernel
theorem dL_law_498 : decode cL_law 498 = .ok (.lcmp, 1) := by decide +kernel
theorem dL_law_499 : decode cL_law 499 = .ok (.ifCond .eq 5, 3) := by decide +kernel
theorem dL_law_502 : decode cL_law 502 = .ok (.iconst 0, 1) := by decide +kernel
theorem dL_law_503 : decode cL_law 503 = .ok (.ireturn, 1) := by decide +kernel
theorem dL_law_504 : decode cL_law 504 = .ok (.goto 1311, 3) := by decide +kernel
theorem dL_law_507 : decode cL_law 507 = .ok (.aload_n 1, 1) := by decide +kernel
theorem dL_law_508 : decode cL_law 508 = .ok (.aload_n 0, 1) := by decide +kernel
theorem dL_law_509 : decode cL_law 509 = .ok (.iload 4, 2) := by decide +kernel
theorem dL_law_511 : decode cL_law 511 = .ok (.iconst 1, 1) := by decide +kernel
theorem dL_law_512 : decode cL_law 512 = .ok (.iadd, 1) := by decide +kernel
theorem dL_law_513 : decode cL_law 513 = .ok (.iaload, 1) := by decide +kernel
theorem dL_law_514 : decode cL_law 514 = .ok (.aload_n 3, 1) := by decide +kernel
theorem dL_law_515 : decode cL_law 515 = .ok (.invokestatic 116, 3) := by decide +kernel
theorem dL_law_518 : decode cL_law 518 = .ok (.istore 5, 2) := by decide +kernel
theorem dL_law_520 : decode cL_law 520 = .ok (.aload_n 2, 1) := by decide +kernel
theorem dL_law_521 : decode cL_law 521 = .ok (.aload_n 0, 1) := by decide +kernel
theorem dL_law_522 : decode cL_law 522 = .ok (.iload 4, 2) := by decide +kernel
theorem dL_law_524 : decode cL_law 524 = .ok (.iconst 1, 1) := by decide +kernel
theorem dL_law_525 : decode cL_law 525 = .ok (.iadd, 1) := by decide +kernel
theorem dL_law_526 : decode cL_law 526 = .ok (.iaload, 1) := by decide +kernel
theorem dL_law_527 : decode cL_law 527 = .ok (.invokevirtual 119, 3) := by decide +kernel
theorem dL_law_530 : decode cL_law 530 = .ok (.istore 6, 2) := by decide +kernel
theorem dL_law_532 : decode cL_law 532 = .ok (.aload_n 2, 1) := by decide +kernel
theorem dL_law_533 : decode cL_law 533 = .ok (.invokevirtual 101, 3) := by decide +kernel
theorem dL_law_536 : decode cL_law 536 = .ok (.iload 5, 2) := by decide +kernel
theorem dL_law_538 : decode cL_law 538 = .ok (.if_icmp .eq 5, 3) := by decide +kernel
theorem dL_law_541 : decode cL_law 541 = .ok (.iconst 0, 1) := by decide +kernel
theorem dL_law_542 : decode cL_law 542 = .ok (.ireturn, 1) := by decide +kernel
theorem dL_law_543 : decode cL_law 543 = .ok (.iload 5, 2) := by decide +kernel
theorem dL_law_545 : decode cL_law 545 = .ok (.ifCond .ne 15, 3) := by decide +kernel
theorem dL_law_548 : decode cL_law 548 = .ok (.aload_n 3, 1) := by decide +kernel
theorem dL_law_549 : decode cL_law 549 = .ok (.iconst 0, 1) := by decide +kernel
theorem dL_law_550 : decode cL_law 550 = .ok (.laload, 1) := by decide +kernel
theorem dL_law_551 : decode cL_law 551 = .ok (.iload 6, 2) := by decide +kernel
theorem dL_law_553 : decode cL_law 553 = .ok (.i2l, 1) := by decide +kernel
theorem dL_law_554 : decode cL_law 554 = .ok (.lcmp, 1) := by decide +kernel
theorem dL_law_555 : decode cL_law 555 = .ok (.ifCond .eq 5, 3) := by decide +kernel
theorem dL_law_558 : decode cL_law 558 = .ok (.iconst 0, 1) := by decide +kernel
theorem dL_law_559 : decode cL_law 559 = .ok (.ireturn, 1) := by decide +kernel
theorem dL_law_560 : decode cL_law 560 = .ok (.goto 1255, 3) := by decide +kernel
theorem dL_law_563 : decode cL_law 563 = .ok (.aload_n 1, 1) := by decide +kernel
theorem dL_law_564 : decode cL_law 564 = .ok (.aload_n 0, 1) := by decide +kernel
theorem dL_law_565 : decode cL_law 565 = .ok (.iload 4, 2) := by decide +kernel
theorem dL_law_567 : decode cL_law 567 = .ok (.iconst 1, 1) := by decide +kernel
theorem dL_law_568 : decode cL_law 568 = .ok (.iadd, 1) := by decide +kernel
theorem dL_law_569 : decode cL_law 569 = .ok (.iaload, 1) := by decide +kernel
theorem dL_law_570 : decode cL_law 570 = .ok (.aload_n 0, 1) := by decide +kernel
theorem dL_law_571 : decode cL_law 571 = .ok (.iload 4, 2) := by decide +kernel
theorem dL_law_573 : decode cL_law 573 = .ok (.iconst 2, 1) := by decide +kernel
theorem dL_law_574 : decode cL_law 574 = .ok (.iadd, 1) := by decide +kernel
theorem dL_law_575 : decode cL_law 575 = .ok (.iaload, 1) := by decide +kernel
theorem dL_law_576 : decode cL_law 576 = .ok (.ifCond .eq 7, 3) := by decide +kernel
theorem dL_law_579 : decode cL_law 579 = .ok (.iconst 1, 1) := by decide +kernel
theorem dL_law_580 : decode cL_law 580 = .ok (.goto 4, 3) := by decide +kernel
theorem dL_law_583 : decode cL_law 583 = .ok (.iconst 0, 1) := by decide +kernel
theorem dL_law_584 : decode cL_law 584 = .ok (.aload_n 3, 1) := by decide +kernel
theorem dL_law_585 : decode cL_law 585 = .ok (.invokestatic 120, 3) := by decide +kernel
theorem dL_law_588 : decode cL_law 588 = .ok (.istore 5, 2) := by decide +kernel
theorem dL_law_590 : decode cL_law 590 = .ok (.aload_n 2, 1) := by decide +kernel
theorem dL_law_591 : decode cL_law 591 = .ok (.aload_n 0, 1) := by decide +kernel
theorem dL_law_592 : decode cL_law 592 = .ok (.iload 4, 2) := by decide +kernel
theorem dL_law_594 : decode cL_law 594 = .ok (.iconst 1, 1) := by decide +kernel
theorem dL_law_595 : decode cL_law 595 = .ok (.iadd, 1) := by decide +kernel
theorem dL_law_596 : decode cL_law 596 = .ok (.iaload, 1) := by decide +kernel
theorem dL_law_597 : decode cL_law 597 = .ok (.aload_n 0, 1) := by decide +kernel
theorem dL_law_598 : decode cL_law 598 = .ok (.iload 4, 2) := by decide +kernel
theorem dL_law_600 : decode cL_law 600 = .ok (.iconst 2, 1) := by decide +kernel
theorem dL_law_601 : decode cL_law 601 = .ok (.iadd, 1) := by decide +kernel
theorem dL_law_602 : decode cL_law 602 = .ok (.iaload, 1) := by decide +kernel
theorem dL_law_603 : decode cL_law 603 = .ok (.ifCond .eq 7, 3) := by decide +kernel
theorem dL_law_606 : decode cL_law 606 = .ok (.iconst 1, 1) := by decide +kernel
theorem dL_law_607 : decode cL_law 607 = .ok (.goto 4, 3) := by decide +kernel
theorem dL_law_610 : decode cL_law 610 = .ok (.iconst 0, 1) := by decide +kernel
theorem dL_law_611 : decode cL_law 611 = .ok (.invokevirtual 122, 3) := by decide +kernel
theorem dL_law_614 : decode cL_law 614 = .ok (.istore 6, 2) := by decide +kernel
theorem dL_law_616 : decode cL_law 616 = .ok (.aload_n 2, 1) := by decide +kernel
theorem dL_law_617 : decode cL_law 617 = .ok (.invokevirtual 101, 3) := by decide +kernel
theorem dL_law_620 : decode cL_law 620 = .ok (.iload 5, 2) := by decide +kernel
theorem dL_law_622 : decode cL_law 622 = .ok (.if_icmp .eq 5, 3) := by decide +kernel
theorem dL_law_625 : decode cL_law 625 = .ok (.iconst 0, 1) := by decide +kernel
theorem dL_law_626 : decode cL_law 626 = .ok (.ireturn, 1) := by decide +kernel
theorem dL_law_627 : decode cL_law 627 = .ok (.iload 5, 2) := by decide +kernel
theorem dL_law_629 : decode cL_law 629 = .ok (.ifCond .ne 15, 3) := by decide +kernel
theorem dL_law_632 : decode cL_law 632 = .ok (.aload_n 3, 1) := by decide +kernel
theorem dL_law_633 : decode cL_law 633 = .ok (.iconst 0, 1) := by decide +kernel
theorem dL_law_634 : decode cL_law 634 = .ok (.laload, 1) := by decide +kernel
theorem dL_law_635 : decode cL_law 635 = .ok (.iload 6, 2) := by decide +kernel
theorem dL_law_637 : decode cL_law 637 = .ok (.i2l, 1) := by decide +kernel
theorem dL_law_638 : decode cL_law 638 = .ok (.lcmp, 1) := by decide +kernel
theorem dL_law_639 : decode cL_law 639 = .ok (.ifCond .eq 5, 3) := by decide +kernel
theorem dL_law_642 : decode cL_law 642 = .ok (.iconst 0, 1) := by decide +kernel
theorem dL_law_643 : decode cL_law 643 = .ok (.ireturn, 1) := by decide +kernel
theorem dL_law_644 : decode cL_law 644 = .ok (.goto 1171, 3) := by decide +kernel
theorem dL_law_647 : decode cL_law 647 = .ok (.aload_n 1, 1) := by decide +kernel
theorem dL_law_648 : decode cL_law 648 = .ok (.aload_n 0, 1) := by decide +kernel
theorem dL_law_649 : decode cL_law 649 = .ok (.iload 4, 2) := by decide +kernel
theorem dL_law_651 : decode cL_law 651 = .ok (.iconst 1, 1) := by decide +kernel
theorem dL_law_652 : decode cL_law 652 = .ok (.iadd, 1) := by decide +kernel
theorem dL_law_653 : decode cL_law 653 = .ok (.iaload, 1) := by decide +kernel
theorem dL_law_654 : decode cL_law 654 = .ok (.aload_n 0, 1) := by decide +kernel
theorem dL_law_655 : decode cL_law 655 = .ok (.iload 4, 2) := by decide +kernel
theorem dL_law_657 : decode cL_law 657 = .ok (.iconst 2, 1) := by decide +kernel
theorem dL_law_658 : decode cL_law 658 = .ok (.iadd, 1) := by decide +kernel
theorem dL_law_659 : decode cL_law 659 = .ok (.iaload, 1) := by decide +kernel
theorem dL_law_660 : decode cL_law 660 = .ok (.ifCond .eq 7, 3) := by decide +kernel
theorem dL_law_663 : decode cL_law 663 = .ok (.iconst 1, 1) := by decide +kernel
theorem dL_law_664 : decode cL_law 664 = .ok (.goto 4, 3) := by decide +kernel
theorem dL_law_667 : decode cL_law 667 = .ok (.iconst 0, 1) := by decide +kernel
theorem dL_law_668 : decode cL_law 668 = .ok (.aload_n 3, 1) := by decide +kernel
theorem dL_law_669 : decode cL_law 669 = .ok (.invokestatic 123, 3) := by decide +kernel
theorem dL_law_672 : decode cL_law 672 = .ok (.istore 5, 2) := by decide +kernel
theorem dL_law_674 : decode cL_law 674 = .ok (.aload_n 2, 1) := by decide +kernel
theorem dL_law_675 : decode cL_law 675 = .ok (.aload_n 0, 1) := by decide +kernel
theorem dL_law_676 : decode cL_law 676 = .ok (.iload 4, 2) := by decide +kernel
theorem dL_law_678 : decode cL_law 678 = .ok (.iconst 1, 1) := by decide +kernel
theorem dL_law_679 : decode cL_law 679 = .ok (.iadd, 1) := by decide +kernel
theorem dL_law_680 : decode cL_law 680 = .ok (.iaload, 1) := by decide +kernel
theorem dL_law_681 : decode cL_law 681 = .ok (.aload_n 0, 1) := by decide +kernel
theorem dL_law_682 : decode cL_law 682 = .ok (.iload 4, 2) := by decide +kernel
theorem dL_law_684 : decode cL_law 684 = .ok (.iconst 2, 1) := by decide +kernel
theorem dL_law_685 : decode cL_law 685 = .ok (.iadd, 1) := by decide +kernel
theorem dL_law_686 : decode cL_law 686 = .ok (.iaload, 1) := by decide +kernel
theorem dL_law_687 : decode cL_law 687 = .ok (.ifCond .eq 7, 3) := by decide +kernel
theorem dL_law_690 : decode cL_law 690 = .ok (.iconst 1, 1) := by decide +kernel
theorem dL_law_691 : decode cL_law 691 = .ok (.goto 4, 3) := by decide +kernel
theorem dL_law_694 : decode cL_law 694 = .ok (.iconst 0, 1) := by decide +kernel
theorem dL_law_695 : decode cL_law 695 = .ok (.invokevirtual 125, 3) := by decide +kernel
theorem dL_law_698 : decode cL_law 698 = .ok (.istore 6, 2) := by decide +kernel
theorem dL_law_700 : decode cL_law 700 = .ok (.aload_n 2, 1) := by decide +kernel
theorem dL_law_701 : decode cL_law 701 = .ok (.invokevirtual 101, 3) := by decide +kernel
theorem dL_law_704 : decode cL_law 704 = .ok (.iload 5, 2) := by decide +kernel
theorem dL_law_706 : decode cL_law 706 = .ok (.if_icmp .eq 5, 3) := by decide +kernel
theorem dL_law_709 : decode cL_law 709 = .ok (.iconst 0, 1) := by decide +kernel
theorem dL_law_710 : decode cL_law 710 = .ok (.ireturn, 1) := by decide +kernel
theorem dL_law_711 : decode cL_law 711 = .ok (.iload 5, 2) := by decide +kernel
theorem dL_law_713 : decode cL_law 713 = .ok (.ifCond .ne 22, 3) := by decide +kernel
theorem dL_law_716 : decode cL_law 716 = .ok (.aload_n 3, 1) := by decide +kernel
theorem dL_law_717 : decode cL_law 717 = .ok (.iconst 0, 1) := by decide +kernel
theorem dL_law_718 : decode cL_law 718 = .ok (.laload, 1) := by decide +kernel
theorem dL_law_719 : decode cL_law 719 = .ok (.iload 6, 2) := by decide +kernel
theorem dL_law_721 : decode cL_law 721 = .ok (.ifCond .eq 7, 3) := by decide +kernel
theorem dL_law_724 : decode cL_law 724 = .ok (.lconst 1, 1) := by decide +kernel
theorem dL_law_725 : decode cL_law 725 = .ok (.goto 4, 3) := by decide +kernel
theorem dL_law_728 : decode cL_law 728 = .ok (.lconst 0, 1) := by decide +kernel
theorem dL_law_729 : decode cL_law 729 = .ok (.lcmp, 1) := by decide +kernel
theorem dL_law_730 : decode cL_law 730 = .ok (.ifCond .eq 5, 3) := by decide +kernel
theorem dL_law_733 : decode cL_law 733 = .ok (.iconst 0, 1) := by decide +kernel
theorem dL_law_734 : decode cL_law 734 = .ok (.ireturn, 1) := by decide +kernel
theorem dL_law_735 : decode cL_law 735 = .ok (.goto 1080, 3) := by decide +kernel
theorem dL_law_738 : decode cL_law 738 = .ok (.aload_n 1, 1) := by decide +kernel
theorem dL_law_739 : decode cL_law 739 = .ok (.aload_n 0, 1) := by decide +kernel
theorem dL_law_740 : decode cL_law 740 = .ok (.iload 4, 2) := by decide +kernel
theorem dL_law_742 : decode cL_law 742 = .ok (.iconst 1, 1) := by decide +kernel
theorem dL_law_743 : decode cL_law 743 = .ok (.iadd, 1) := by decide +kernel
theorem dL_law_744 : decode cL_law 744 = .ok (.iaload, 1) := by decide +kernel
theorem dL_law_745 : decode cL_law 745 = .ok (.aload_n 3, 1) := by decide +kernel
theorem dL_law_746 : decode cL_law 746 = .ok (.invokestatic 126, 3) := by decide +kernel
theorem dL_law_749 : decode cL_law 749 = .ok (.istore 5, 2) := by decide +kernel
theorem dL_law_751 : decode cL_law 751 = .ok (.aload_n 2, 1) := by decide +kernel
theorem dL_law_752 : decode cL_law 752 = .ok (.aload_n 0, 1) := by decide +kernel
theorem dL_law_753 : decode cL_law 753 = .ok (.iload 4, 2) := by decide +kernel
theorem dL_law_755 : decode cL_law 755 = .ok (.iconst 1, 1) := by decide +kernel
theorem dL_law_756 : decode cL_law 756 = .ok (.iadd, 1) := by decide +kernel
theorem dL_law_757 : decode cL_law 757 = .ok (.iaload, 1) := by decide +kernel
theorem dL_law_758 : decode cL_law 758 = .ok (.invokevirtual 128, 3) := by decide +kernel
theorem dL_law_761 : decode cL_law 761 = .ok (.istore 6, 2) := by decide +kernel
theorem dL_law_763 : decode cL_law 763 = .ok (.aload_n 2, 1) := by decide +kernel
theorem dL_law_764 : decode cL_law 764 = .ok (.invokevirtual 101, 3) := by decide +kernel
theorem dL_law_767 : decode cL_law 767 = .ok (.iload 5, 2) := by decide +kernel
theorem dL_law_769 : decode cL_law 769 = .ok (.if_icmp .eq 5, 3) := by decide +kernel
theorem dL_law_772 : decode cL_law 772 = .ok (.iconst 0, 1) := by decide +kernel
theorem dL_law_773 : decode cL_law 773 = .ok (.ireturn, 1) := by decide +kernel
theorem dL_law_774 : decode cL_law 774 = .ok (.iload 5, 2) := by decide +kernel
theorem dL_law_776 : decode cL_law 776 = .ok (.ifCond .ne 15, 3) := by decide +kernel
theorem dL_law_779 : decode cL_law 779 = .ok (.aload_n 3, 1) := by decide +kernel
theorem dL_law_780 : decode cL_law 780 = .ok (.iconst 0, 1) := by decide +kernel
theorem dL_law_781 : decode cL_law 781 = .ok (.laload, 1) := by decide +kernel
theorem dL_law_782 : decode cL_law 782 = .ok (.iload 6, 2) := by decide +kernel
theorem dL_law_784 : decode cL_law 784 = .ok (.i2l, 1) := by decide +kernel
theorem dL_law_785 : decode cL_law 785 = .ok (.lcmp, 1) := by decide +kernel
theorem dL_law_786 : decode cL_law 786 = .ok (.ifCond .eq 5, 3) := by decide +kernel
theorem dL_law_789 : decode cL_law 789 = .ok (.iconst 0, 1) := by decide +kernel
theorem dL_law_790 : decode cL_law 790 = .ok (.ireturn, 1) := by decide +kernel
theorem dL_law_791 : decode cL_law 791 = .ok (.goto 1024, 3) := by decide +kernel
theorem dL_law_794 : decode cL_law 794 = .ok (.aload_n 1, 1) := by decide +kernel
theorem dL_law_795 : decode cL_law 795 = .ok (.aload_n 3, 1) := by decide +kernel
theorem dL_law_796 : decode cL_law 796 = .ok (.invokestatic 129, 3) := by decide +kernel
theorem dL_law_799 : decode cL_law 799 = .ok (.istore 5, 2) := by decide +kernel
theorem dL_law_801 : decode cL_law 801 = .ok (.aload_n 2, 1) := by decide +kernel
theorem dL_law_802 : decode cL_law 802 = .ok (.invokevirtual 132, 3) := by decide +kernel
theorem dL_law_805 : decode cL_law 805 = .ok (.istore 6, 2) := by decide +kernel
theorem dL_law_807 : decode cL_law 807 = .ok (.aload_n 2, 1) := by decide +kernel
theorem dL_law_808 : decode cL_law 808 = .ok (.invokevirtual 101, 3) := by decide +kernel
theorem dL_law_811 : decode cL_law 811 = .ok (.iload 5, 2) := by decide +kernel
theorem dL_law_813 : decode cL_law 813 = .ok (.if_icmp .eq 5, 3) := by decide +kernel
theorem dL_law_816 : decode cL_law 816 = .ok (.iconst 0, 1) := by decide +kernel
theorem dL_law_817 : decode cL_law 817 = .ok (.ireturn, 1) := by decide +kernel
theorem dL_law_818 : decode cL_law 818 = .ok (.iload 5, 2) := by decide +kernel
theorem dL_law_820 : decode cL_law 820 = .ok (.ifCond .ne 15, 3) := by decide +kernel
theorem dL_law_823 : decode cL_law 823 = .ok (.aload_n 3, 1) := by decide +kernel
theorem dL_law_824 : decode cL_law 824 = .ok (.iconst 0, 1) := by decide +kernel
theorem dL_law_825 : decode cL_law 825 = .ok (.laload, 1) := by decide +kernel
theorem dL_law_826 : decode cL_law 826 = .ok (.iload 6, 2) := by decide +kernel
theorem dL_law_828 : decode cL_law 828 = .ok (.i2l, 1) := by decide +kernel
theorem dL_law_829 : decode cL_law 829 = .ok (.lcmp, 1) := by decide +kernel
theorem dL_law_830 : decode cL_law 830 = .ok (.ifCond .eq 5, 3) := by decide +kernel
theorem dL_law_833 : decode cL_law 833 = .ok (.iconst 0, 1) := by decide +kernel
theorem dL_law_834 : decode cL_law 834 = .ok (.ireturn, 1) := by decide +kernel
theorem dL_law_835 : decode cL_law 835 = .ok (.goto 980, 3) := by decide +kernel
theorem dL_law_838 : decode cL_law 838 = .ok (.aload_n 1, 1) := by decide +kernel
theorem dL_law_839 : decode cL_law 839 = .ok (.aload_n 0, 1) := by decide +kernel
theorem dL_law_840 : decode cL_law 840 = .ok (.iload 4, 2) := by decide +kernel
theorem dL_law_842 : decode cL_law 842 = .ok (.iconst 1, 1) := by decide +kernel
theorem dL_law_843 : decode cL_law 843 = .ok (.iadd, 1) := by decide +kernel
theorem dL_law_844 : decode cL_law 844 = .ok (.iaload, 1) := by decide +kernel
theorem dL_law_845 : decode cL_law 845 = .ok (.aload_n 0, 1) := by decide +kernel
theorem dL_law_846 : decode cL_law 846 = .ok (.iload 4, 2) := by decide +kernel
theorem dL_law_848 : decode cL_law 848 = .ok (.iconst 2, 1) := by decide +kernel
theorem dL_law_849 : decode cL_law 849 = .ok (.iadd, 1) := by decide +kernel
theorem dL_law_850 : decode cL_law 850 = .ok (.iaload, 1) := by decide +kernel
theorem dL_law_851 : decode cL_law 851 = .ok (.aload_n 0, 1) := by decide +kernel
theorem dL_law_852 : decode cL_law 852 = .ok (.iload 4, 2) := by decide +kernel
theorem dL_law_854 : decode cL_law 854 = .ok (.iconst 3, 1) := by decide +kernel
theorem dL_law_855 : decode cL_law 855 = .ok (.iadd, 1) := by decide +kernel
theorem dL_law_856 : decode cL_law 856 = .ok (.iaload, 1) := by decide +kernel
theorem dL_law_857 : decode cL_law 857 = .ok (.aload_n 0, 1) := by decide +kernel
theorem dL_law_858 : decode cL_law 858 = .ok (.iload 4, 2) := by decide +kernel
theorem dL_law_860 : decode cL_law 860 = .ok (.iconst 4, 1) := by decide +kernel
theorem dL_law_861 : decode cL_law 861 = .ok (.iadd, 1) := by decide +kernel
theorem dL_law_862 : decode cL_law 862 = .ok (.iaload, 1) := by decide +kernel
theorem dL_law_863 : decode cL_law 863 = .ok (.aload_n 0, 1) := by decide +kernel
theorem dL_law_864 : decode cL_law 864 = .ok (.iload 4, 2) := by decide +kernel
theorem dL_law_866 : decode cL_law 866 = .ok (.iconst 5, 1) := by decide +kernel
theorem dL_law_867 : decode cL_law 867 = .ok (.iadd, 1) := by decide +kernel
theorem dL_law_868 : decode cL_law 868 = .ok (.iaload, 1) := by decide +kernel
theorem dL_law_869 : decode cL_law 869 = .ok (.aload_n 0, 1) := by decide +kernel
theorem dL_law_870 : decode cL_law 870 = .ok (.iload 4, 2) := by decide +kernel
theorem dL_law_872 : decode cL_law 872 = .ok (.bipush 6, 2) := by decide +kernel
theorem dL_law_874 : decode cL_law 874 = .ok (.iadd, 1) := by decide +kernel
theorem dL_law_875 : decode cL_law 875 = .ok (.iaload, 1) := by decide +kernel
theorem dL_law_876 : decode cL_law 876 = .ok (.aload_n 0, 1) := by decide +kernel
theorem dL_law_877 : decode cL_law 877 = .ok (.iload 4, 2) := by decide +kernel
theorem dL_law_879 : decode cL_law 879 = .ok (.bipush 7, 2) := by decide +kernel
theorem dL_law_881 : decode cL_law 881 = .ok (.iadd, 1) := by decide +kernel
theorem dL_law_882 : decode cL_law 882 = .ok (.iaload, 1) := by decide +kernel
theorem dL_law_883 : decode cL_law 883 = .ok (.aload_n 0, 1) := by decide +kernel
theorem dL_law_884 : decode cL_law 884 = .ok (.iload 4, 2) := by decide +kernel
theorem dL_law_886 : decode cL_law 886 = .ok (.bipush 8, 2) := by decide +kernel
theorem dL_law_888 : decode cL_law 888 = .ok (.iadd, 1) := by decide +kernel
theorem dL_law_889 : decode cL_law 889 = .ok (.iaload, 1) := by decide +kernel
theorem dL_law_890 : decode cL_law 890 = .ok (.ifCond .eq 7, 3) := by decide +kernel
theorem dL_law_893 : decode cL_law 893 = .ok (.iconst 1, 1) := by decide +kernel
theorem dL_law_894 : decode cL_law 894 = .ok (.goto 4, 3) := by decide +kernel
theorem dL_law_897 : decode cL_law 897 = .ok (.iconst 0, 1) := by decide +kernel
theorem dL_law_898 : decode cL_law 898 = .ok (.invokestatic 133, 3) := by decide +kernel
theorem dL_law_901 : decode cL_law 901 = .ok (.istore 5, 2) := by decide +kernel
theorem dL_law_903 : decode cL_law 903 = .ok (.aload_n 2, 1) := by decide +kernel
theorem dL_law_904 : decode cL_law 904 = .ok (.aload_n 0, 1) := by decide +kernel
theorem dL_law_905 : decode cL_law 905 = .ok (.iload 4, 2) := by decide +kernel
theorem dL_law_907 : decode cL_law 907 = .ok (.iconst 1, 1) := by decide +kernel
theorem dL_law_908 : decode cL_law 908 = .ok (.iadd, 1) := by decide +kernel
theorem dL_law_909 : decode cL_law 909 = .ok (.iaload, 1) := by decide +kernel
theorem dL_law_910 : decode cL_law 910 = .ok (.aload_n 0, 1) := by decide +kernel
theorem dL_law_911 : decode cL_law 911 = .ok (.iload 4, 2) := by decide +kernel
theorem dL_law_913 : decode cL_law 913 = .ok (.iconst 2, 1) := by decide +kernel
theorem dL_law_914 : decode cL_law 914 = .ok (.iadd, 1) := by decide +kernel
theorem dL_law_915 : decode cL_law 915 = .ok (.iaload, 1) := by decide +kernel
theorem dL_law_916 : decode cL_law 916 = .ok (.aload_n 0, 1) := by decide +kernel
theorem dL_law_917 : decode cL_law 917 = .ok (.iload 4, 2) := by decide +kernel
theorem dL_law_919 : decode cL_law 919 = .ok (.iconst 3, 1) := by decide +kernel
theorem dL_law_920 : decode cL_law 920 = .ok (.iadd, 1) := by decide +kernel
theorem dL_law_921 : decode cL_law 921 = .ok (.iaload, 1) := by decide +kernel
theorem dL_law_922 : decode cL_law 922 = .ok (.aload_n 0, 1) := by decide +kernel
theorem dL_law_923 : decode cL_law 923 = .ok (.iload 4, 2) := by decide +kernel
theorem dL_law_925 : decode cL_law 925 = .ok (.iconst 4, 1) := by decide +kernel
theorem dL_law_926 : decode cL_law 926 = .ok (.iadd, 1) := by decide +kernel
theorem dL_law_927 : decode cL_law 927 = .ok (.iaload, 1) := by decide +kernel
theorem dL_law_928 : decode cL_law 928 = .ok (.aload_n 0, 1) := by decide +kernel
theorem dL_law_929 : decode cL_law 929 = .ok (.iload 4, 2) := by decide +kernel
theorem dL_law_931 : decode cL_law 931 = .ok (.iconst 5, 1) := by decide +kernel
theorem dL_law_932 : decode cL_law 932 = .ok (.iadd, 1) := by decide +kernel
theorem dL_law_933 : decode cL_law 933 = .ok (.iaload, 1) := by decide +kernel
theorem dL_law_934 : decode cL_law 934 = .ok (.aload_n 0, 1) := by decide +kernel
theorem dL_law_935 : decode cL_law 935 = .ok (.iload 4, 2) := by decide +kernel
theorem dL_law_937 : decode cL_law 937 = .ok (.bipush 6, 2) := by decide +kernel
theorem dL_law_939 : decode cL_law 939 = .ok (.iadd, 1) := by decide +kernel
theorem dL_law_940 : decode cL_law 940 = .ok (.iaload, 1) := by decide +kernel
theorem dL_law_941 : decode cL_law 941 = .ok (.aload_n 0, 1) := by decide +kernel
theorem dL_law_942 : decode cL_law 942 = .ok (.iload 4, 2) := by decide +kernel
theorem dL_law_944 : decode cL_law 944 = .ok (.bipush 7, 2) := by decide +kernel
theorem dL_law_946 : decode cL_law 946 = .ok (.iadd, 1) := by decide +kernel
theorem dL_law_947 : decode cL_law 947 = .ok (.iaload, 1) := by decide +kernel
theorem dL_law_948 : decode cL_law 948 = .ok (.aload_n 0, 1) := by decide +kernel
theorem dL_law_949 : decode cL_law 949 = .ok (.iload 4, 2) := by decide +kernel
theorem dL_law_951 : decode cL_law 951 = .ok (.bipush 8, 2) := by decide +kernel
theorem dL_law_953 : decode cL_law 953 = .ok (.iadd, 1) := by decide +kernel
theorem dL_law_954 : decode cL_law 954 = .ok (.iaload, 1) := by decide +kernel
theorem dL_law_955 : decode cL_law 955 = .ok (.ifCond .eq 7, 3) := by decide +kernel
theorem dL_law_958 : decode cL_law 958 = .ok (.iconst 1, 1) := by decide +kernel
theorem dL_law_959 : decode cL_law 959 = .ok (.goto 4, 3) := by decide +kernel
theorem dL_law_962 : decode cL_law 962 = .ok (.iconst 0, 1) := by decide +kernel
theorem dL_law_963 : decode cL_law 963 = .ok (.invokevirtual 136, 3) := by decide +kernel
theorem dL_law_966 : decode cL_law 966 = .ok (.aload_n 2, 1) := by decide +kernel
theorem dL_law_967 : decode cL_law 967 = .ok (.invokevirtual 101, 3) := by decide +kernel
theorem dL_law_970 : decode cL_law 970 = .ok (.iload 5, 2) := by decide +kernel
theorem dL_law_972 : decode cL_law 972 = .ok (.if_icmp .eq 5, 3) := by decide +kernel
theorem dL_law_975 : decode cL_law 975 = .ok (.iconst 0, 1) := by decide +kernel
theorem dL_law_976 : decode cL_law 976 = .ok (.ireturn, 1) := by decide +kernel
theorem dL_law_977 : decode cL_law 977 = .ok (.goto 838, 3) := by decide +kernel
theorem dL_law_980 : decode cL_law 980 = .ok (.aload_n 1, 1) := by decide +kernel
theorem dL_law_981 : decode cL_law 981 = .ok (.aload_n 0, 1) := by decide +kernel
theorem dL_law_982 : decode cL_law 982 = .ok (.iload 4, 2) := by decide +kernel
theorem dL_law_984 : decode cL_law 984 = .ok (.iconst 1, 1) := by decide +kernel
theorem dL_law_985 : decode cL_law 985 = .ok (.iadd, 1) := by decide +kernel
theorem dL_law_986 : decode cL_law 986 = .ok (.iaload, 1) := by decide +kernel
theorem dL_law_987 : decode cL_law 987 = .ok (.aload_n 0, 1) := by decide +kernel
theorem dL_law_988 : decode cL_law 988 = .ok (.iload 4, 2) := by decide +kernel
theorem dL_law_990 : decode cL_law 990 = .ok (.iconst 2, 1) := by decide +kernel
theorem dL_law_991 : decode cL_law 991 = .ok (.iadd, 1) := by decide +kernel
theorem dL_law_992 : decode cL_law 992 = .ok (.iaload, 1) := by decide +kernel
theorem dL_law_993 : decode cL_law 993 = .ok (.aload_n 0, 1) := by decide +kernel
theorem dL_law_994 : decode cL_law 994 = .ok (.iload 4, 2) := by decide +kernel
theorem dL_law_996 : decode cL_law 996 = .ok (.iconst 3, 1) := by decide +kernel
theorem dL_law_997 : decode cL_law 997 = .ok (.iadd, 1) := by decide +kernel
theorem dL_law_998 : decode cL_law 998 = .ok (.iaload, 1) := by decide +kernel
theorem dL_law_999 : decode cL_law 999 = .ok (.aload_n 0, 1) := by decide +kernel
theorem dL_law_1000 : decode cL_law 1000 = .ok (.iload 4, 2) := by decide +kernel
theorem dL_law_1002 : decode cL_law 1002 = .ok (.iconst 4, 1) := by decide +kernel
theorem dL_law_1003 : decode cL_law 1003 = .ok (.iadd, 1) := by decide +kernel
theorem dL_law_1004 : decode cL_law 1004 = .ok (.iaload, 1) := by decide +kernel
theorem dL_law_1005 : decode cL_law 1005 = .ok (.aload_n 0, 1) := by decide +kernel
theorem dL_law_1006 : decode cL_law 1006 = .ok (.iload 4, 2) := by decide +kernel
theorem dL_law_1008 : decode cL_law 1008 = .ok (.iconst 5, 1) := by decide +kernel
theorem dL_law_1009 : decode cL_law 1009 = .ok (.iadd, 1) := by decide +kernel
theorem dL_law_1010 : decode cL_law 1010 = .ok (.iaload, 1) := by decide +kernel
theorem dL_law_1011 : decode cL_law 1011 = .ok (.aload_n 0, 1) := by decide +kernel
theorem dL_law_1012 : decode cL_law 1012 = .ok (.iload 4, 2) := by decide +kernel
theorem dL_law_1014 : decode cL_law 1014 = .ok (.bipush 6, 2) := by decide +kernel
theorem dL_law_1016 : decode cL_law 1016 = .ok (.iadd, 1) := by decide +kernel
theorem dL_law_1017 : decode cL_law 1017 = .ok (.iaload, 1) := by decide +kernel
theorem dL_law_1018 : decode cL_law 1018 = .ok (.aload_n 0, 1) := by decide +kernel
theorem dL_law_1019 : decode cL_law 1019 = .ok (.iload 4, 2) := by decide +kernel
theorem dL_law_1021 : decode cL_law 1021 = .ok (.bipush 7, 2) := by decide +kernel
theorem dL_law_1023 : decode cL_law 1023 = .ok (.iadd, 1) := by decide +kernel
theorem dL_law_1024 : decode cL_law 1024 = .ok (.iaload, 1) := by decide +kernel
theorem dL_law_1025 : decode cL_law 1025 = .ok (.aload_n 0, 1) := by decide +kernel
theorem dL_law_1026 : decode cL_law 1026 = .ok (.iload 4, 2) := by decide +kernel
theorem dL_law_1028 : decode cL_law 1028 = .ok (.bipush 8, 2) := by decide +kernel
theorem dL_law_1030 : decode cL_law 1030 = .ok (.iadd, 1) := by decide +kernel
theorem dL_law_1031 : decode cL_law 1031 = .ok (.iaload, 1) := by decide +kernel
theorem dL_law_1032 : decode cL_law 1032 = .ok (.aload_n 3, 1) := by decide +kernel
theorem dL_law_1033 : decode cL_law 1033 = .ok (.invokestatic 137, 3) := by decide +kernel
theorem dL_law_1036 : decode cL_law 1036 = .ok (.istore 5, 2) := by decide +kernel
theorem dL_law_1038 : decode cL_law 1038 = .ok (.aload_n 2, 1) := by decide +kernel
theorem dL_law_1039 : decode cL_law 1039 = .ok (.aload_n 0, 1) := by decide +kernel
theorem dL_law_1040 : decode cL_law 1040 = .ok (.iload 4, 2) := by decide +kernel
theorem dL_law_1042 : decode cL_law 1042 = .ok (.iconst 1, 1) := by decide +kernel
theorem dL_law_1043 : decode cL_law 1043 = .ok (.iadd, 1) := by decide +kernel
theorem dL_law_1044 : decode cL_law 1044 = .ok (.iaload, 1) := by decide +kernel
theorem dL_law_1045 : decode cL_law 1045 = .ok (.aload_n 0, 1) := by decide +kernel
theorem dL_law_1046 : decode cL_law 1046 = .ok (.iload 4, 2) := by decide +kernel
theorem dL_law_1048 : decode cL_law 1048 = .ok (.iconst 2, 1) := by decide +kernel
theorem dL_law_1049 : decode cL_law 1049 = .ok (.iadd, 1) := by decide +kernel
theorem dL_law_1050 : decode cL_law 1050 = .ok (.iaload, 1) := by decide +kernel
theorem dL_law_1051 : decode cL_law 1051 = .ok (.aload_n 0, 1) := by decide +kernel
theorem dL_law_1052 : decode cL_law 1052 = .ok (.iload 4, 2) := by decide +kernel
theorem dL_law_1054 : decode cL_law 1054 = .ok (.iconst 3, 1) := by decide +kernel
theorem dL_law_1055 : decode cL_law 1055 = .ok (.iadd, 1) := by decide +kernel
theorem dL_law_1056 : decode cL_law 1056 = .ok (.iaload, 1) := by decide +kernel
theorem dL_law_1057 : decode cL_law 1057 = .ok (.aload_n 0, 1) := by decide +kernel
theorem dL_law_1058 : decode cL_law 1058 = .ok (.iload 4, 2) := by decide +kernel
theorem dL_law_1060 : decode cL_law 1060 = .ok (.iconst 4, 1) := by decide +kernel
theorem dL_law_1061 : decode cL_law 1061 = .ok (.iadd, 1) := by decide +kernel
theorem dL_law_1062 : decode cL_law 1062 = .ok (.iaload, 1) := by decide +kernel
theorem dL_law_1063 : decode cL_law 1063 = .ok (.aload_n 0, 1) := by decide +kernel
theorem dL_law_1064 : decode cL_law 1064 = .ok (.iload 4, 2) := by decide +kernel
theorem dL_law_1066 : decode cL_law 1066 = .ok (.iconst 5, 1) := by decide +kernel
theorem dL_law_1067 : decode cL_law 1067 = .ok (.iadd, 1) := by decide +kernel
theorem dL_law_1068 : decode cL_law 1068 = .ok (.iaload, 1) := by decide +kernel
theorem dL_law_1069 : decode cL_law 1069 = .ok (.aload_n 0, 1) := by decide +kernel
theorem dL_law_1070 : decode cL_law 1070 = .ok (.iload 4, 2) := by decide +kernel
theorem dL_law_1072 : decode cL_law 1072 = .ok (.bipush 6, 2) := by decide +kernel
theorem dL_law_1074 : decode cL_law 1074 = .ok (.iadd, 1) := by decide +kernel
theorem dL_law_1075 : decode cL_law 1075 = .ok (.iaload, 1) := by decide +kernel
theorem dL_law_1076 : decode cL_law 1076 = .ok (.aload_n 0, 1) := by decide +kernel
theorem dL_law_1077 : decode cL_law 1077 = .ok (.iload 4, 2) := by decide +kernel
theorem dL_law_1079 : decode cL_law 1079 = .ok (.bipush 7, 2) := by decide +kernel
theorem dL_law_1081 : decode cL_law 1081 = .ok (.iadd, 1) := by decide +kernel
theorem dL_law_1082 : decode cL_law 1082 = .ok (.iaload, 1) := by decide +kernel
theorem dL_law_1083 : decode cL_law 1083 = .ok (.aload_n 0, 1) := by decide +kernel
theorem dL_law_1084 : decode cL_law 1084 = .ok (.iload 4, 2) := by decide +kernel
theorem dL_law_1086 : decode cL_law 1086 = .ok (.bipush 8, 2) := by decide +kernel
theorem dL_law_1088 : decode cL_law 1088 = .ok (.iadd, 1) := by decide +kernel
theorem dL_law_1089 : decode cL_law 1089 = .ok (.iaload, 1) := by decide +kernel
theorem dL_law_1090 : decode cL_law 1090 = .ok (.invokevirtual 140, 3) := by decide +kernel
theorem dL_law_1093 : decode cL_law 1093 = .ok (.istore 6, 2) := by decide +kernel
theorem dL_law_1095 : decode cL_law 1095 = .ok (.aload_n 2, 1) := by decide +kernel
theorem dL_law_1096 : decode cL_law 1096 = .ok (.invokevirtual 101, 3) := by decide +kernel
theorem dL_law_1099 : decode cL_law 1099 = .ok (.iload 5, 2) := by decide +kernel
theorem dL_law_1101 : decode cL_law 1101 = .ok (.if_icmp .eq 5, 3) := by decide +kernel
theorem dL_law_1104 : decode cL_law 1104 = .ok (.iconst 0, 1) := by decide +kernel
theorem dL_law_1105 : decode cL_law 1105 = .ok (.ireturn, 1) := by decide +kernel
theorem dL_law_1106 : decode cL_law 1106 = .ok (.iload 5, 2) := by decide +kernel
theorem dL_law_1108 : decode cL_law 1108 = .ok (.ifCond .ne 15, 3) := by decide +kernel
theorem dL_law_1111 : decode cL_law 1111 = .ok (.aload_n 3, 1) := by decide +kernel
theorem dL_law_1112 : decode cL_law 1112 = .ok (.iconst 0, 1) := by decide +kernel
theorem dL_law_1113 : decode cL_law 1113 = .ok (.laload, 1) := by decide +kernel
theorem dL_law_1114 : decode cL_law 1114 = .ok (.iload 6, 2) := by decide +kernel
theorem dL_law_1116 : decode cL_law 1116 = .ok (.i2l, 1) := by decide +kernel
theorem dL_law_1117 : decode cL_law 1117 = .ok (.lcmp, 1) := by decide +kernel
theorem dL_law_1118 : decode cL_law 1118 = .ok (.ifCond .eq 5, 3) := by decide +kernel
theorem dL_law_1121 : decode cL_law 1121 = .ok (.iconst 0, 1) := by decide +kernel
theorem dL_law_1122 : decode cL_law 1122 = .ok (.ireturn, 1) := by decide +kernel
theorem dL_law_1123 : decode cL_law 1123 = .ok (.goto 692, 3) := by decide +kernel
theorem dL_law_1126 : decode cL_law 1126 = .ok (.aload_n 1, 1) := by decide +kernel
theorem dL_law_1127 : decode cL_law 1127 = .ok (.aload_n 0, 1) := by decide +kernel
theorem dL_law_1128 : decode cL_law 1128 = .ok (.iload 4, 2) := by decide +kernel
theorem dL_law_1130 : decode cL_law 1130 = .ok (.iconst 1, 1) := by decide +kernel
theorem dL_law_1131 : decode cL_law 1131 = .ok (.iadd, 1) := by decide +kernel
theorem dL_law_1132 : decode cL_law 1132 = .ok (.iaload, 1) := by decide +kernel
theorem dL_law_1133 : decode cL_law 1133 = .ok (.aload_n 0, 1) := by decide +kernel
theorem dL_law_1134 : decode cL_law 1134 = .ok (.iload 4, 2) := by decide +kernel
theorem dL_law_1136 : decode cL_law 1136 = .ok (.iconst 2, 1) := by decide +kernel
theorem dL_law_1137 : decode cL_law 1137 = .ok (.iadd, 1) := by decide +kernel
theorem dL_law_1138 : decode cL_law 1138 = .ok (.iaload, 1) := by decide +kernel
theorem dL_law_1139 : decode cL_law 1139 = .ok (.aload_n 0, 1) := by decide +kernel
theorem dL_law_1140 : decode cL_law 1140 = .ok (.iload 4, 2) := by decide +kernel
theorem dL_law_1142 : decode cL_law 1142 = .ok (.iconst 3, 1) := by decide +kernel
theorem dL_law_1143 : decode cL_law 1143 = .ok (.iadd, 1) := by decide +kernel
theorem dL_law_1144 : decode cL_law 1144 = .ok (.iaload, 1) := by decide +kernel
theorem dL_law_1145 : decode cL_law 1145 = .ok (.aload_n 0, 1) := by decide +kernel
theorem dL_law_1146 : decode cL_law 1146 = .ok (.iload 4, 2) := by decide +kernel
theorem dL_law_1148 : decode cL_law 1148 = .ok (.iconst 4, 1) := by decide +kernel
theorem dL_law_1149 : decode cL_law 1149 = .ok (.iadd, 1) := by decide +kernel
theorem dL_law_1150 : decode cL_law 1150 = .ok (.iaload, 1) := by decide +kernel
theorem dL_law_1151 : decode cL_law 1151 = .ok (.invokestatic 141, 3) := by decide +kernel
theorem dL_law_1154 : decode cL_law 1154 = .ok (.istore 5, 2) := by decide +kernel
theorem dL_law_1156 : decode cL_law 1156 = .ok (.aload_n 2, 1) := by decide +kernel
theorem dL_law_1157 : decode cL_law 1157 = .ok (.aload_n 0, 1) := by decide +kernel
theorem dL_law_1158 : decode cL_law 1158 = .ok (.iload 4, 2) := by decide +kernel
theorem dL_law_1160 : decode cL_law 1160 = .ok (.iconst 1, 1) := by decide +kernel
theorem dL_law_1161 : decode cL_law 1161 = .ok (.iadd, 1) := by decide +kernel
theorem dL_law_1162 : decode cL_law 1162 = .ok (.iaload, 1) := by decide +kernel
theorem dL_law_1163 : decode cL_law 1163 = .ok (.aload_n 0, 1) := by decide +kernel
theorem dL_law_1164 : decode cL_law 1164 = .ok (.iload 4, 2) := by decide +kernel
theorem dL_law_1166 : decode cL_law 1166 = .ok (.iconst 2, 1) := by decide +kernel
theorem dL_law_1167 : decode cL_law 1167 = .ok (.iadd, 1) := by decide +kernel
theorem dL_law_1168 : decode cL_law 1168 = .ok (.iaload, 1) := by decide +kernel
theorem dL_law_1169 : decode cL_law 1169 = .ok (.aload_n 0, 1) := by decide +kernel
theorem dL_law_1170 : decode cL_law 1170 = .ok (.iload 4, 2) := by decide +kernel
theorem dL_law_1172 : decode cL_law 1172 = .ok (.iconst 3, 1) := by decide +kernel
theorem dL_law_1173 : decode cL_law 1173 = .ok (.iadd, 1) := by decide +kernel
theorem dL_law_1174 : decode cL_law 1174 = .ok (.iaload, 1) := by decide +kernel
theorem dL_law_1175 : decode cL_law 1175 = .ok (.aload_n 0, 1) := by decide +kernel
theorem dL_law_1176 : decode cL_law 1176 = .ok (.iload 4, 2) := by decide +kernel
theorem dL_law_1178 : decode cL_law 1178 = .ok (.iconst 4, 1) := by decide +kernel
theorem dL_law_1179 : decode cL_law 1179 = .ok (.iadd, 1) := by decide +kernel
theorem dL_law_1180 : decode cL_law 1180 = .ok (.iaload, 1) := by decide +kernel
theorem dL_law_1181 : decode cL_law 1181 = .ok (.invokevirtual 144, 3) := by decide +kernel
theorem dL_law_1184 : decode cL_law 1184 = .ok (.aload_n 2, 1) := by decide +kernel
theorem dL_law_1185 : decode cL_law 1185 = .ok (.invokevirtual 101, 3) := by decide +kernel
theorem dL_law_1188 : decode cL_law 1188 = .ok (.iload 5, 2) := by decide +kernel
theorem dL_law_1190 : decode cL_law 1190 = .ok (.if_icmp .eq 5, 3) := by decide +kernel
theorem dL_law_1193 : decode cL_law 1193 = .ok (.iconst 0, 1) := by decide +kernel
theorem dL_law_1194 : decode cL_law 1194 = .ok (.ireturn, 1) := by decide +kernel
theorem dL_law_1195 : decode cL_law 1195 = .ok (.goto 620, 3) := by decide +kernel
theorem dL_law_1198 : decode cL_law 1198 = .ok (.aload_n 1, 1) := by decide +kernel
theorem dL_law_1199 : decode cL_law 1199 = .ok (.aload_n 0, 1) := by decide +kernel
theorem dL_law_1200 : decode cL_law 1200 = .ok (.iload 4, 2) := by decide +kernel
theorem dL_law_1202 : decode cL_law 1202 = .ok (.iconst 1, 1) := by decide +kernel
theorem dL_law_1203 : decode cL_law 1203 = .ok (.iadd, 1) := by decide +kernel
theorem dL_law_1204 : decode cL_law 1204 = .ok (.iaload, 1) := by decide +kernel
theorem dL_law_1205 : decode cL_law 1205 = .ok (.aload_n 0, 1) := by decide +kernel
theorem dL_law_1206 : decode cL_law 1206 = .ok (.iload 4, 2) := by decide +kernel
theorem dL_law_1208 : decode cL_law 1208 = .ok (.iconst 2, 1) := by decide +kernel
theorem dL_law_1209 : decode cL_law 1209 = .ok (.iadd, 1) := by decide +kernel
theorem dL_law_1210 : decode cL_law 1210 = .ok (.iaload, 1) := by decide +kernel
theorem dL_law_1211 : decode cL_law 1211 = .ok (.aload_n 3, 1) := by decide +kernel
theorem dL_law_1212 : decode cL_law 1212 = .ok (.invokestatic 145, 3) := by decide +kernel
theorem dL_law_1215 : decode cL_law 1215 = .ok (.istore 5, 2) := by decide +kernel
theorem dL_law_1217 : decode cL_law 1217 = .ok (.aload_n 2, 1) := by decide +kernel
theorem dL_law_1218 : decode cL_law 1218 = .ok (.aload_n 0, 1) := by decide +kernel
theorem dL_law_1219 : decode cL_law 1219 = .ok (.iload 4, 2) := by decide +kernel
theorem dL_law_1221 : decode cL_law 1221 = .ok (.iconst 1, 1) := by decide +kernel
theorem dL_law_1222 : decode cL_law 1222 = .ok (.iadd, 1) := by decide +kernel
theorem dL_law_1223 : decode cL_law 1223 = .ok (.iaload, 1) := by decide +kernel
theorem dL_law_1224 : decode cL_law 1224 = .ok (.aload_n 0, 1) := by decide +kernel
theorem dL_law_1225 : decode cL_law 1225 = .ok (.iload 4, 2) := by decide +kernel
theorem dL_law_1227 : decode cL_law 1227 = .ok (.iconst 2, 1) := by decide +kernel
theorem dL_law_1228 : decode cL_law 1228 = .ok (.iadd, 1) := by decide +kernel
theorem dL_law_1229 : decode cL_law 1229 = .ok (.iaload, 1) := by decide +kernel
theorem dL_law_1230 : decode cL_law 1230 = .ok (.invokevirtual 148, 3) := by decide +kernel
theorem dL_law_1233 : decode cL_law 1233 = .ok (.istore 6, 2) := by decide +kernel
theorem dL_law_1235 : decode cL_law 1235 = .ok (.aload_n 2, 1) := by decide +kernel
theorem dL_law_1236 : decode cL_law 1236 = .ok (.invokevirtual 101, 3) := by decide +kernel
theorem dL_law_1239 : decode cL_law 1239 = .ok (.iload 5, 2) := by decide +kernel
theorem dL_law_1241 : decode cL_law 1241 = .ok (.if_icmp .eq 5, 3) := by decide +kernel
theorem dL_law_1244 : decode cL_law 1244 = .ok (.iconst 0, 1) := by decide +kernel
theorem dL_law_1245 : decode cL_law 1245 = .ok (.ireturn, 1) := by decide +kernel
theorem dL_law_1246 : decode cL_law 1246 = .ok (.iload 5, 2) := by decide +kernel
theorem dL_law_1248 : decode cL_law 1248 = .ok (.ifCond .ne 15, 3) := by decide +kernel
theorem dL_law_1251 : decode cL_law 1251 = .ok (.aload_n 3, 1) := by decide +kernel
theorem dL_law_1252 : decode cL_law 1252 = .ok (.iconst 0, 1) := by decide +kernel
theorem dL_law_1253 : decode cL_law 1253 = .ok (.laload, 1) := by decide +kernel
theorem dL_law_1254 : decode cL_law 1254 = .ok (.iload 6, 2) := by decide +kernel
theorem dL_law_1256 : decode cL_law 1256 = .ok (.i2l, 1) := by decide +kernel
theorem dL_law_1257 : decode cL_law 1257 = .ok (.lcmp, 1) := by decide +kernel
theorem dL_law_1258 : decode cL_law 1258 = .ok (.ifCond .eq 5, 3) := by decide +kernel
theorem dL_law_1261 : decode cL_law 1261 = .ok (.iconst 0, 1) := by decide +kernel
theorem dL_law_1262 : decode cL_law 1262 = .ok (.ireturn, 1) := by decide +kernel
theorem dL_law_1263 : decode cL_law 1263 = .ok (.goto 552, 3) := by decide +kernel
theorem dL_law_1266 : decode cL_law 1266 = .ok (.aload_n 1, 1) := by decide +kernel
theorem dL_law_1267 : decode cL_law 1267 = .ok (.invokevirtual 149, 3) := by decide +kernel
theorem dL_law_1270 : decode cL_law 1270 = .ok (.aload_n 2, 1) := by decide +kernel
theorem dL_law_1271 : decode cL_law 1271 = .ok (.invokevirtual 152, 3) := by decide +kernel
theorem dL_law_1274 : decode cL_law 1274 = .ok (.if_icmp .eq 541, 3) := by decide +kernel
theorem dL_law_1277 : decode cL_law 1277 = .ok (.iconst 0, 1) := by decide +kernel
theorem dL_law_1278 : decode cL_law 1278 = .ok (.ireturn, 1) := by decide +kernel
theorem dL_law_1279 : decode cL_law 1279 = .ok (.aload_n 1, 1) := by decide +kernel
theorem dL_law_1280 : decode cL_law 1280 = .ok (.aload_n 0, 1) := by decide +kernel
theorem dL_law_1281 : decode cL_law 1281 = .ok (.iload 4, 2) := by decide +kernel
theorem dL_law_1283 : decode cL_law 1283 = .ok (.iconst 1, 1) := by decide +kernel
theorem dL_law_1284 : decode cL_law 1284 = .ok (.iadd, 1) := by decide +kernel
theorem dL_law_1285 : decode cL_law 1285 = .ok (.iaload, 1) := by decide +kernel
theorem dL_law_1286 : decode cL_law 1286 = .ok (.aload_n 0, 1) := by decide +kernel
theorem dL_law_1287 : decode cL_law 1287 = .ok (.iload 4, 2) := by decide +kernel
theorem dL_law_1289 : decode cL_law 1289 = .ok (.iconst 2, 1) := by decide +kernel
theorem dL_law_1290 : decode cL_law 1290 = .ok (.iadd, 1) := by decide +kernel
theorem dL_law_1291 : decode cL_law 1291 = .ok (.iaload, 1) := by decide +kernel
theorem dL_law_1292 : decode cL_law 1292 = .ok (.aload_n 0, 1) := by decide +kernel
theorem dL_law_1293 : decode cL_law 1293 = .ok (.iload 4, 2) := by decide +kernel
theorem dL_law_1295 : decode cL_law 1295 = .ok (.iconst 3, 1) := by decide +kernel
theorem dL_law_1296 : decode cL_law 1296 = .ok (.iadd, 1) := by decide +kernel
theorem dL_law_1297 : decode cL_law 1297 = .ok (.iaload, 1) := by decide +kernel
theorem dL_law_1298 : decode cL_law 1298 = .ok (.aload_n 0, 1) := by decide +kernel
theorem dL_law_1299 : decode cL_law 1299 = .ok (.iload 4, 2) := by decide +kernel
theorem dL_law_1301 : decode cL_law 1301 = .ok (.iconst 4, 1) := by decide +kernel
theorem dL_law_1302 : decode cL_law 1302 = .ok (.iadd, 1) := by decide +kernel
theorem dL_law_1303 : decode cL_law 1303 = .ok (.iaload, 1) := by decide +kernel
theorem dL_law_1304 : decode cL_law 1304 = .ok (.ifCond .eq 7, 3) := by decide +kernel
theorem dL_law_1307 : decode cL_law 1307 = .ok (.iconst 1, 1) := by decide +kernel
theorem dL_law_1308 : decode cL_law 1308 = .ok (.goto 4, 3) := by decide +kernel
theorem dL_law_1311 : decode cL_law 1311 = .ok (.iconst 0, 1) := by decide +kernel
theorem dL_law_1312 : decode cL_law 1312 = .ok (.aload_n 3, 1) := by decide +kernel
theorem dL_law_1313 : decode cL_law 1313 = .ok (.invokestatic 153, 3) := by decide +kernel
theorem dL_law_1316 : decode cL_law 1316 = .ok (.istore 5, 2) := by decide +kernel
theorem dL_law_1318 : decode cL_law 1318 = .ok (.aload_n 2, 1) := by decide +kernel
theorem dL_law_1319 : decode cL_law 1319 = .ok (.aload_n 0, 1) := by decide +kernel
theorem dL_law_1320 : decode cL_law 1320 = .ok (.iload 4, 2) := by decide +kernel
theorem dL_law_1322 : decode cL_law 1322 = .ok (.iconst 1, 1) := by decide +kernel
theorem dL_law_1323 : decode cL_law 1323 = .ok (.iadd, 1) := by decide +kernel
theorem dL_law_1324 : decode cL_law 1324 = .ok (.iaload, 1) := by decide +kernel
theorem dL_law_1325 : decode cL_law 1325 = .ok (.aload_n 0, 1) := by decide +kernel
theorem dL_law_1326 : decode cL_law 1326 = .ok (.iload 4, 2) := by decide +kernel
theorem dL_law_1328 : decode cL_law 1328 = .ok (.iconst 2, 1) := by decide +kernel
theorem dL_law_1329 : decode cL_law 1329 = .ok (.iadd, 1) := by decide +kernel
theorem dL_law_1330 : decode cL_law 1330 = .ok (.iaload, 1) := by decide +kernel
theorem dL_law_1331 : decode cL_law 1331 = .ok (.aload_n 0, 1) := by decide +kernel
theorem dL_law_1332 : decode cL_law 1332 = .ok (.iload 4, 2) := by decide +kernel
theorem dL_law_1334 : decode cL_law 1334 = .ok (.iconst 3, 1) := by decide +kernel
theorem dL_law_1335 : decode cL_law 1335 = .ok (.iadd, 1) := by decide +kernel
theorem dL_law_1336 : decode cL_law 1336 = .ok (.iaload, 1) := by decide +kernel
theorem dL_law_1337 : decode cL_law 1337 = .ok (.aload_n 0, 1) := by decide +kernel
theorem dL_law_1338 : decode cL_law 1338 = .ok (.iload 4, 2) := by decide +kernel
theorem dL_law_1340 : decode cL_law 1340 = .ok (.iconst 4, 1) := by decide +kernel
theorem dL_law_1341 : decode cL_law 1341 = .ok (.iadd, 1) := by decide +kernel
theorem dL_law_1342 : decode cL_law 1342 = .ok (.iaload, 1) := by decide +kernel
theorem dL_law_1343 : decode cL_law 1343 = .ok (.ifCond .eq 7, 3) := by decide +kernel
theorem dL_law_1346 : decode cL_law 1346 = .ok (.iconst 1, 1) := by decide +kernel
theorem dL_law_1347 : decode cL_law 1347 = .ok (.goto 4, 3) := by decide +kernel
theorem dL_law_1350 : decode cL_law 1350 = .ok (.iconst 0, 1) := by decide +kernel
theorem dL_law_1351 : decode cL_law 1351 = .ok (.invokevirtual 156, 3) := by decide +kernel
theorem dL_law_1354 : decode cL_law 1354 = .ok (.istore 6, 2) := by decide +kernel
theorem dL_law_1356 : decode cL_law 1356 = .ok (.aload_n 2, 1) := by decide +kernel
theorem dL_law_1357 : decode cL_law 1357 = .ok (.invokevirtual 101, 3) := by decide +kernel
theorem dL_law_1360 : decode cL_law 1360 = .ok (.iload 5, 2) := by decide +kernel
theorem dL_law_1362 : decode cL_law 1362 = .ok (.if_icmp .eq 5, 3) := by decide +kernel
theorem dL_law_1365 : decode cL_law 1365 = .ok (.iconst 0, 1) := by decide +kernel
theorem dL_law_1366 : decode cL_law 1366 = .ok (.ireturn, 1) := by decide +kernel
theorem dL_law_1367 : decode cL_law 1367 = .ok (.iload 5, 2) := by decide +kernel
theorem dL_law_1369 : decode cL_law 1369 = .ok (.ifCond .ne 15, 3) := by decide +kernel
theorem dL_law_1372 : decode cL_law 1372 = .ok (.aload_n 3, 1) := by decide +kernel
theorem dL_law_1373 : decode cL_law 1373 = .ok (.iconst 0, 1) := by decide +kernel
theorem dL_law_1374 : decode cL_law 1374 = .ok (.laload, 1) := by decide +kernel
theorem dL_law_1375 : decode cL_law 1375 = .ok (.iload 6, 2) := by decide +kernel
theorem dL_law_1377 : decode cL_law 1377 = .ok (.i2l, 1) := by decide +kernel
theorem dL_law_1378 : decode cL_law 1378 = .ok (.lcmp, 1) := by decide +kernel
theorem dL_law_1379 : decode cL_law 1379 = .ok (.ifCond .eq 5, 3) := by decide +kernel
theorem dL_law_1382 : decode cL_law 1382 = .ok (.iconst 0, 1) := by decide +kernel
theorem dL_law_1383 : decode cL_law 1383 = .ok (.ireturn, 1) := by decide +kernel
theorem dL_law_1384 : decode cL_law 1384 = .ok (.goto 431, 3) := by decide +kernel
theorem dL_law_1387 : decode cL_law 1387 = .ok (.aload_n 1, 1) := by decide +kernel
theorem dL_law_1388 : decode cL_law 1388 = .ok (.aload_n 0, 1) := by decide +kernel
theorem dL_law_1389 : decode cL_law 1389 = .ok (.iload 4, 2) := by decide +kernel
theorem dL_law_1391 : decode cL_law 1391 = .ok (.iconst 1, 1) := by decide +kernel
theorem dL_law_1392 : decode cL_law 1392 = .ok (.iadd, 1) := by decide +kernel
theorem dL_law_1393 : decode cL_law 1393 = .ok (.iaload, 1) := by decide +kernel
theorem dL_law_1394 : decode cL_law 1394 = .ok (.aload_n 0, 1) := by decide +kernel
theorem dL_law_1395 : decode cL_law 1395 = .ok (.iload 4, 2) := by decide +kernel
theorem dL_law_1397 : decode cL_law 1397 = .ok (.iconst 2, 1) := by decide +kernel
theorem dL_law_1398 : decode cL_law 1398 = .ok (.iadd, 1) := by decide +kernel
theorem dL_law_1399 : decode cL_law 1399 = .ok (.iaload, 1) := by decide +kernel
theorem dL_law_1400 : decode cL_law 1400 = .ok (.aload_n 0, 1) := by decide +kernel
theorem dL_law_1401 : decode cL_law 1401 = .ok (.iload 4, 2) := by decide +kernel
theorem dL_law_1403 : decode cL_law 1403 = .ok (.iconst 3, 1) := by decide +kernel
theorem dL_law_1404 : decode cL_law 1404 = .ok (.iadd, 1) := by decide +kernel
theorem dL_law_1405 : decode cL_law 1405 = .ok (.iaload, 1) := by decide +kernel
theorem dL_law_1406 : decode cL_law 1406 = .ok (.aload_n 3, 1) := by decide +kernel
theorem dL_law_1407 : decode cL_law 1407 = .ok (.invokestatic 157, 3) := by decide +kernel
theorem dL_law_1410 : decode cL_law 1410 = .ok (.istore 5, 2) := by decide +kernel
theorem dL_law_1412 : decode cL_law 1412 = .ok (.aload_n 2, 1) := by decide +kernel
theorem dL_law_1413 : decode cL_law 1413 = .ok (.aload_n 0, 1) := by decide +kernel
theorem dL_law_1414 : decode cL_law 1414 = .ok (.iload 4, 2) := by decide +kernel
theorem dL_law_1416 : decode cL_law 1416 = .ok (.iconst 1, 1) := by decide +kernel
theorem dL_law_1417 : decode cL_law 1417 = .ok (.iadd, 1) := by decide +kernel
theorem dL_law_1418 : decode cL_law 1418 = .ok (.iaload, 1) := by decide +kernel
theorem dL_law_1419 : decode cL_law 1419 = .ok (.aload_n 0, 1) := by decide +kernel
theorem dL_law_1420 : decode cL_law 1420 = .ok (.iload 4, 2) := by decide +kernel
theorem dL_law_1422 : decode cL_law 1422 = .ok (.iconst 2, 1) := by decide +kernel
theorem dL_law_1423 : decode cL_law 1423 = .ok (.iadd, 1) := by decide +kernel
theorem dL_law_1424 : decode cL_law 1424 = .ok (.iaload, 1) := by decide +kernel
theorem dL_law_1425 : decode cL_law 1425 = .ok (.aload_n 0, 1) := by decide +kernel
theorem dL_law_1426 : decode cL_law 1426 = .ok (.iload 4, 2) := by decide +kernel
theorem dL_law_1428 : decode cL_law 1428 = .ok (.iconst 3, 1) := by decide +kernel
theorem dL_law_1429 : decode cL_law 1429 = .ok (.iadd, 1) := by decide +kernel
theorem dL_law_1430 : decode cL_law 1430 = .ok (.iaload, 1) := by decide +kernel
theorem dL_law_1431 : decode cL_law 1431 = .ok (.invokevirtual 160, 3) := by decide +kernel
theorem dL_law_1434 : decode cL_law 1434 = .ok (.istore 6, 2) := by decide +kernel
theorem dL_law_1436 : decode cL_law 1436 = .ok (.aload_n 2, 1) := by decide +kernel
theorem dL_law_1437 : decode cL_law 1437 = .ok (.invokevirtual 101, 3) := by decide +kernel
theorem dL_law_1440 : decode cL_law 1440 = .ok (.iload 5, 2) := by decide +kernel
theorem dL_law_1442 : decode cL_law 1442 = .ok (.if_icmp .eq 5, 3) := by decide +kernel
theorem dL_law_1445 : decode cL_law 1445 = .ok (.iconst 0, 1) := by decide +kernel
theorem dL_law_1446 : decode cL_law 1446 = .ok (.ireturn, 1) := by decide +kernel
theorem dL_law_1447 : decode cL_law 1447 = .ok (.iload 5, 2) := by decide +kernel
theorem dL_law_1449 : decode cL_law 1449 = .ok (.ifCond .ne 15, 3) := by decide +kernel
theorem dL_law_1452 : decode cL_law 1452 = .ok (.aload_n 3, 1) := by decide +kernel
theorem dL_law_1453 : decode cL_law 1453 = .ok (.iconst 0, 1) := by decide +kernel
theorem dL_law_1454 : decode cL_law 1454 = .ok (.laload, 1) := by decide +kernel
theorem dL_law_1455 : decode cL_law 1455 = .ok (.iload 6, 2) := by decide +kernel
theorem dL_law_1457 : decode cL_law 1457 = .ok (.i2l, 1) := by decide +kernel
theorem dL_law_1458 : decode cL_law 1458 = .ok (.lcmp, 1) := by decide +kernel
theorem dL_law_1459 : decode cL_law 1459 = .ok (.ifCond .eq 5, 3) := by decide +kernel
theorem dL_law_1462 : decode cL_law 1462 = .ok (.iconst 0, 1) := by decide +kernel
theorem dL_law_1463 : decode cL_law 1463 = .ok (.ireturn, 1) := by decide +kernel
theorem dL_law_1464 : decode cL_law 1464 = .ok (.goto 351, 3) := by decide +kernel
theorem dL_law_1467 : decode cL_law 1467 = .ok (.aload_n 1, 1) := by decide +kernel
theorem dL_law_1468 : decode cL_law 1468 = .ok (.aload_n 0, 1) := by decide +kernel
theorem dL_law_1469 : decode cL_law 1469 = .ok (.iload 4, 2) := by decide +kernel
theorem dL_law_1471 : decode cL_law 1471 = .ok (.iconst 1, 1) := by decide +kernel
theorem dL_law_1472 : decode cL_law 1472 = .ok (.iadd, 1) := by decide +kernel
theorem dL_law_1473 : decode cL_law 1473 = .ok (.iaload, 1) := by decide +kernel
theorem dL_law_1474 : decode cL_law 1474 = .ok (.aload_n 3, 1) := by decide +kernel
theorem dL_law_1475 : decode cL_law 1475 = .ok (.invokestatic 161, 3) := by decide +kernel
theorem dL_law_1478 : decode cL_law 1478 = .ok (.istore 5, 2) := by decide +kernel
theorem dL_law_1480 : decode cL_law 1480 = .ok (.aload_n 2, 1) := by decide +kernel
theorem dL_law_1481 : decode cL_law 1481 = .ok (.aload_n 0, 1) := by decide +kernel
theorem dL_law_1482 : decode cL_law 1482 = .ok (.iload 4, 2) := by decide +kernel
theorem dL_law_1484 : decode cL_law 1484 = .ok (.iconst 1, 1) := by decide +kernel
theorem dL_law_1485 : decode cL_law 1485 = .ok (.iadd, 1) := by decide +kernel
theorem dL_law_1486 : decode cL_law 1486 = .ok (.iaload, 1) := by decide +kernel
theorem dL_law_1487 : decode cL_law 1487 = .ok (.invokevirtual 163, 3) := by decide +kernel
theorem dL_law_1490 : decode cL_law 1490 = .ok (.istore 6, 2) := by decide +kernel
theorem dL_law_1492 : decode cL_law 1492 = .ok (.aload_n 2, 1) := by decide +kernel
theorem dL_law_1493 : decode cL_law 1493 = .ok (.invokevirtual 101, 3) := by decide +kernel
theorem dL_law_1496 : decode cL_law 1496 = .ok (.iload 5, 2) := by decide +kernel
theorem dL_law_1498 : decode cL_law 1498 = .ok (.if_icmp .eq 5, 3) := by decide +kernel
theorem dL_law_1501 : decode cL_law 1501 = .ok (.iconst 0, 1) := by decide +kernel
theorem dL_law_1502 : decode cL_law 1502 = .ok (.ireturn, 1) := by decide +kernel
theorem dL_law_1503 : decode cL_law 1503 = .ok (.iload 5, 2) := by decide +kernel
theorem dL_law_1505 : decode cL_law 1505 = .ok (.ifCond .ne 15, 3) := by decide +kernel
theorem dL_law_1508 : decode cL_law 1508 = .ok (.aload_n 3, 1) := by decide +kernel
theorem dL_law_1509 : decode cL_law 1509 = .ok (.iconst 0, 1) := by decide +kernel
theorem dL_law_1510 : decode cL_law 1510 = .ok (.laload, 1) := by decide +kernel
theorem dL_law_1511 : decode cL_law 1511 = .ok (.iload 6, 2) := by decide +kernel
theorem dL_law_1513 : decode cL_law 1513 = .ok (.i2l, 1) := by decide +kernel
theorem dL_law_1514 : decode cL_law 1514 = .ok (.lcmp, 1) := by decide +kernel
theorem dL_law_1515 : decode cL_law 1515 = .ok (.ifCond .eq 5, 3) := by decide +kernel
theorem dL_law_1518 : decode cL_law 1518 = .ok (.iconst 0, 1) := by decide +kernel
theorem dL_law_1519 : decode cL_law 1519 = .ok (.ireturn, 1) := by decide +kernel
theorem dL_law_1520 : decode cL_law 1520 = .ok (.goto 295, 3) := by decide +kernel
theorem dL_law_1523 : decode cL_law 1523 = .ok (.aload_n 1, 1) := by decide +kernel
theorem dL_law_1524 : decode cL_law 1524 = .ok (.aload_n 0, 1) := by decide +kernel
theorem dL_law_1525 : decode cL_law 1525 = .ok (.iload 4, 2) := by decide +kernel
theorem dL_law_1527 : decode cL_law 1527 = .ok (.iconst 1, 1) := by decide +kernel
theorem dL_law_1528 : decode cL_law 1528 = .ok (.iadd, 1) := by decide +kernel
theorem dL_law_1529 : decode cL_law 1529 = .ok (.iaload, 1) := by decide +kernel
theorem dL_law_1530 : decode cL_law 1530 = .ok (.aload_n 3, 1) := by decide +kernel
theorem dL_law_1531 : decode cL_law 1531 = .ok (.invokestatic 164, 3) := by decide +kernel
theorem dL_law_1534 : decode cL_law 1534 = .ok (.istore 5, 2) := by decide +kernel
theorem dL_law_1536 : decode cL_law 1536 = .ok (.aload_n 2, 1) := by decide +kernel
theorem dL_law_1537 : decode cL_law 1537 = .ok (.aload_n 0, 1) := by decide +kernel
theorem dL_law_1538 : decode cL_law 1538 = .ok (.iload 4, 2) := by decide +kernel
theorem dL_law_1540 : decode cL_law 1540 = .ok (.iconst 1, 1) := by decide +kernel
theorem dL_law_1541 : decode cL_law 1541 = .ok (.iadd, 1) := by decide +kernel
theorem dL_law_1542 : decode cL_law 1542 = .ok (.iaload, 1) := by decide +kernel
theorem dL_law_1543 : decode cL_law 1543 = .ok (.invokevirtual 166, 3) := by decide +kernel
theorem dL_law_1546 : decode cL_law 1546 = .ok (.istore 6, 2) := by decide +kernel
theorem dL_law_1548 : decode cL_law 1548 = .ok (.aload_n 2, 1) := by decide +kernel
theorem dL_law_1549 : decode cL_law 1549 = .ok (.invokevirtual 101, 3) := by decide +kernel
theorem dL_law_1552 : decode cL_law 1552 = .ok (.iload 5, 2) := by decide +kernel
theorem dL_law_1554 : decode cL_law 1554 = .ok (.if_icmp .eq 5, 3) := by decide +kernel
theorem dL_law_1557 : decode cL_law 1557 = .ok (.iconst 0, 1) := by decide +kernel
theorem dL_law_1558 : decode cL_law 1558 = .ok (.ireturn, 1) := by decide +kernel
theorem dL_law_1559 : decode cL_law 1559 = .ok (.iload 5, 2) := by decide +kernel
theorem dL_law_1561 : decode cL_law 1561 = .ok (.ifCond .ne 15, 3) := by decide +kernel
theorem dL_law_1564 : decode cL_law 1564 = .ok (.aload_n 3, 1) := by decide +kernel
theorem dL_law_1565 : decode cL_law 1565 = .ok (.iconst 0, 1) := by decide +kernel
theorem dL_law_1566 : decode cL_law 1566 = .ok (.laload, 1) := by decide +kernel
theorem dL_law_1567 : decode cL_law 1567 = .ok (.iload 6, 2) := by decide +kernel
theorem dL_law_1569 : decode cL_law 1569 = .ok (.i2l, 1) := by decide +kernel
theorem dL_law_1570 : decode cL_law 1570 = .ok (.lcmp, 1) := by decide +kernel
theorem dL_law_1571 : decode cL_law 1571 = .ok (.ifCond .eq 5, 3) := by decide +kernel
theorem dL_law_1574 : decode cL_law 1574 = .ok (.iconst 0, 1) := by decide +kernel
theorem dL_law_1575 : decode cL_law 1575 = .ok (.ireturn, 1) := by decide +kernel
theorem dL_law_1576 : decode cL_law 1576 = .ok (.goto 239, 3) := by decide +kernel
theorem dL_law_1579 : decode cL_law 1579 = .ok (.aload_n 1, 1) := by decide +kernel
theorem dL_law_1580 : decode cL_law 1580 = .ok (.aload_n 0, 1) := by decide +kernel
theorem dL_law_1581 : decode cL_law 1581 = .ok (.iload 4, 2) := by decide +kernel
theorem dL_law_1583 : decode cL_law 1583 = .ok (.iconst 1, 1) := by decide +kernel
theorem dL_law_1584 : decode cL_law 1584 = .ok (.iadd, 1) := by decide +kernel
theorem dL_law_1585 : decode cL_law 1585 = .ok (.iaload, 1) := by decide +kernel
theorem dL_law_1586 : decode cL_law 1586 = .ok (.aload_n 3, 1) := by decide +kernel
theorem dL_law_1587 : decode cL_law 1587 = .ok (.invokestatic 167, 3) := by decide +kernel
theorem dL_law_1590 : decode cL_law 1590 = .ok (.istore 5, 2) := by decide +kernel
theorem dL_law_1592 : decode cL_law 1592 = .ok (.aload_n 2, 1) := by decide +kernel
theorem dL_law_1593 : decode cL_law 1593 = .ok (.aload_n 0, 1) := by decide +kernel
theorem dL_law_1594 : decode cL_law 1594 = .ok (.iload 4, 2) := by decide +kernel
theorem dL_law_1596 : decode cL_law 1596 = .ok (.iconst 1, 1) := by decide +kernel
theorem dL_law_1597 : decode cL_law 1597 = .ok (.iadd, 1) := by decide +kernel
theorem dL_law_1598 : decode cL_law 1598 = .ok (.iaload, 1) := by decide +kernel
theorem dL_law_1599 : decode cL_law 1599 = .ok (.invokevirtual 169, 3) := by decide +kernel
theorem dL_law_1602 : decode cL_law 1602 = .ok (.istore 6, 2) := by decide +kernel
theorem dL_law_1604 : decode cL_law 1604 = .ok (.aload_n 2, 1) := by decide +kernel
theorem dL_law_1605 : decode cL_law 1605 = .ok (.invokevirtual 101, 3) := by decide +kernel
theorem dL_law_1608 : decode cL_law 1608 = .ok (.iload 5, 2) := by decide +kernel
theorem dL_law_1610 : decode cL_law 1610 = .ok (.if_icmp .eq 5, 3) := by decide +kernel
theorem dL_law_1613 : decode cL_law 1613 = .ok (.iconst 0, 1) := by decide +kernel
theorem dL_law_1614 : decode cL_law 1614 = .ok (.ireturn, 1) := by decide +kernel
theorem dL_law_1615 : decode cL_law 1615 = .ok (.iload 5, 2) := by decide +kernel
theorem dL_law_1617 : decode cL_law 1617 = .ok (.ifCond .ne 15, 3) := by decide +kernel
theorem dL_law_1620 : decode cL_law 1620 = .ok (.aload_n 3, 1) := by decide +kernel
theorem dL_law_1621 : decode cL_law 1621 = .ok (.iconst 0, 1) := by decide +kernel
theorem dL_law_1622 : decode cL_law 1622 = .ok (.laload, 1) := by decide +kernel
theorem dL_law_1623 : decode cL_law 1623 = .ok (.iload 6, 2) := by decide +kernel
theorem dL_law_1625 : decode cL_law 1625 = .ok (.i2l, 1) := by decide +kernel
theorem dL_law_1626 : decode cL_law 1626 = .ok (.lcmp, 1) := by decide +kernel
theorem dL_law_1627 : decode cL_law 1627 = .ok (.ifCond .eq 5, 3) := by decide +kernel
theorem dL_law_1630 : decode cL_law 1630 = .ok (.iconst 0, 1) := by decide +kernel
theorem dL_law_1631 : decode cL_law 1631 = .ok (.ireturn, 1) := by decide +kernel
theorem dL_law_1632 : decode cL_law 1632 = .ok (.goto 183, 3) := by decide +kernel
theorem dL_law_1635 : decode cL_law 1635 = .ok (.aload_n 1, 1) := by decide +kernel
theorem dL_law_1636 : decode cL_law 1636 = .ok (.aload_n 0, 1) := by decide +kernel
theorem dL_law_1637 : decode cL_law 1637 = .ok (.iload 4, 2) := by decide +kernel
theorem dL_law_1639 : decode cL_law 1639 = .ok (.iconst 1, 1) := by decide +kernel
theorem dL_law_1640 : decode cL_law 1640 = .ok (.iadd, 1) := by decide +kernel
theorem dL_law_1641 : decode cL_law 1641 = .ok (.iaload, 1) := by decide +kernel
theorem dL_law_1642 : decode cL_law 1642 = .ok (.aload_n 3, 1) := by decide +kernel
theorem dL_law_1643 : decode cL_law 1643 = .ok (.invokestatic 170, 3) := by decide +kernel
theorem dL_law_1646 : decode cL_law 1646 = .ok (.istore 5, 2) := by decide +kernel
theorem dL_law_1648 : decode cL_law 1648 = .ok (.aload_n 2, 1) := by decide +kernel
theorem dL_law_1649 : decode cL_law 1649 = .ok (.aload_n 0, 1) := by decide +kernel
theorem dL_law_1650 : decode cL_law 1650 = .ok (.iload 4, 2) := by decide +kernel
theorem dL_law_1652 : decode cL_law 1652 = .ok (.iconst 1, 1) := by decide +kernel
theorem dL_law_1653 : decode cL_law 1653 = .ok (.iadd, 1) := by decide +kernel
theorem dL_law_1654 : decode cL_law 1654 = .ok (.iaload, 1) := by decide +kernel
theorem dL_law_1655 : decode cL_law 1655 = .ok (.invokevirtual 172, 3) := by decide +kernel
theorem dL_law_1658 : decode cL_law 1658 = .ok (.istore 6, 2) := by decide +kernel
theorem dL_law_1660 : decode cL_law 1660 = .ok (.aload_n 2, 1) := by decide +kernel
theorem dL_law_1661 : decode cL_law 1661 = .ok (.invokevirtual 101, 3) := by decide +kernel
theorem dL_law_1664 : decode cL_law 1664 = .ok (.iload 5, 2) := by decide +kernel
theorem dL_law_1666 : decode cL_law 1666 = .ok (.if_icmp .eq 5, 3) := by decide +kernel
theorem dL_law_1669 : decode cL_law 1669 = .ok (.iconst 0, 1) := by decide +kernel
theorem dL_law_1670 : decode cL_law 1670 = .ok (.ireturn, 1) := by decide +kernel
theorem dL_law_1671 : decode cL_law 1671 = .ok (.iload 5, 2) := by decide +kernel
theorem dL_law_1673 : decode cL_law 1673 = .ok (.ifCond .ne 15, 3) := by decide +kernel
theorem dL_law_1676 : decode cL_law 1676 = .ok (.aload_n 3, 1) := by decide +kernel
theorem dL_law_1677 : decode cL_law 1677 = .ok (.iconst 0, 1) := by decide +kernel
theorem dL_law_1678 : decode cL_law 1678 = .ok (.laload, 1) := by decide +kernel
theorem dL_law_1679 : decode cL_law 1679 = .ok (.iload 6, 2) := by decide +kernel
theorem dL_law_1681 : decode cL_law 1681 = .ok (.i2l, 1) := by decide +kernel
theorem dL_law_1682 : decode cL_law 1682 = .ok (.lcmp, 1) := by decide +kernel
theorem dL_law_1683 : decode cL_law 1683 = .ok (.ifCond .eq 5, 3) := by decide +kernel
theorem dL_law_1686 : decode cL_law 1686 = .ok (.iconst 0, 1) := by decide +kernel
theorem dL_law_1687 : decode cL_law 1687 = .ok (.ireturn, 1) := by decide +kernel
theorem dL_law_1688 : decode cL_law 1688 = .ok (.goto 127, 3) := by decide +kernel
theorem dL_law_1691 : decode cL_law 1691 = .ok (.aload_n 1, 1) := by decide +kernel
theorem dL_law_1692 : decode cL_law 1692 = .ok (.aload_n 0, 1) := by decide +kernel
theorem dL_law_1693 : decode cL_law 1693 = .ok (.iload 4, 2) := by decide +kernel
theorem dL_law_1695 : decode cL_law 1695 = .ok (.iconst 1, 1) := by decide +kernel
theorem dL_law_1696 : decode cL_law 1696 = .ok (.iadd, 1) := by decide +kernel
theorem dL_law_1697 : decode cL_law 1697 = .ok (.iaload, 1) := by decide +kernel
theorem dL_law_1698 : decode cL_law 1698 = .ok (.aload_n 3, 1) := by decide +kernel
theorem dL_law_1699 : decode cL_law 1699 = .ok (.invokestatic 173, 3) := by decide +kernel
theorem dL_law_1702 : decode cL_law 1702 = .ok (.istore 5, 2) := by decide +kernel
theorem dL_law_1704 : decode cL_law 1704 = .ok (.aload_n 2, 1) := by decide +kernel
theorem dL_law_1705 : decode cL_law 1705 = .ok (.aload_n 0, 1) := by decide +kernel
theorem dL_law_1706 : decode cL_law 1706 = .ok (.iload 4, 2) := by decide +kernel
theorem dL_law_1708 : decode cL_law 1708 = .ok (.iconst 1, 1) := by decide +kernel
theorem dL_law_1709 : decode cL_law 1709 = .ok (.iadd, 1) := by decide +kernel
theorem dL_law_1710 : decode cL_law 1710 = .ok (.iaload, 1) := by decide +kernel
theorem dL_law_1711 : decode cL_law 1711 = .ok (.invokevirtual 175, 3) := by decide +kernel
theorem dL_law_1714 : decode cL_law 1714 = .ok (.istore 6, 2) := by decide +kernel
theorem dL_law_1716 : decode cL_law 1716 = .ok (.aload_n 2, 1) := by decide +kernel
theorem dL_law_1717 : decode cL_law 1717 = .ok (.invokevirtual 101, 3) := by decide +kernel
theorem dL_law_1720 : decode cL_law 1720 = .ok (.iload 5, 2) := by decide +kernel
theorem dL_law_1722 : decode cL_law 1722 = .ok (.if_icmp .eq 5, 3) := by decide +kernel
theorem dL_law_1725 : decode cL_law 1725 = .ok (.iconst 0, 1) := by decide +kernel
theorem dL_law_1726 : decode cL_law 1726 = .ok (.ireturn, 1) := by decide +kernel
theorem dL_law_1727 : decode cL_law 1727 = .ok (.iload 5, 2) := by decide +kernel
theorem dL_law_1729 : decode cL_law 1729 = .ok (.ifCond .ne 15, 3) := by decide +kernel
theorem dL_law_1732 : decode cL_law 1732 = .ok (.aload_n 3, 1) := by decide +kernel
theorem dL_law_1733 : decode cL_law 1733 = .ok (.iconst 0, 1) := by decide +kernel
theorem dL_law_1734 : decode cL_law 1734 = .ok (.laload, 1) := by decide +kernel
theorem dL_law_1735 : decode cL_law 1735 = .ok (.iload 6, 2) := by decide +kernel
theorem dL_law_1737 : decode cL_law 1737 = .ok (.i2l, 1) := by decide +kernel
theorem dL_law_1738 : decode cL_law 1738 = .ok (.lcmp, 1) := by decide +kernel
theorem dL_law_1739 : decode cL_law 1739 = .ok (.ifCond .eq 5, 3) := by decide +kernel
theorem dL_law_1742 : decode cL_law 1742 = .ok (.iconst 0, 1) := by decide +kernel
theorem dL_law_1743 : decode cL_law 1743 = .ok (.ireturn, 1) := by decide +kernel
theorem dL_law_1744 : decode cL_law 1744 = .ok (.goto 71, 3) := by decide +kernel
theorem dL_law_1747 : decode cL_law 1747 = .ok (.aload_n 1, 1) := by decide +kernel
theorem dL_law_1748 : decode cL_law 1748 = .ok (.aload_n 0, 1) := by decide +kernel
theorem dL_law_1749 : decode cL_law 1749 = .ok (.iload 4, 2) := by decide +kernel
theorem dL_law_1751 : decode cL_law 1751 = .ok (.iconst 1, 1) := by decide +kernel
theorem dL_law_1752 : decode cL_law 1752 = .ok (.iadd, 1) := by decide +kernel
theorem dL_law_1753 : decode cL_law 1753 = .ok (.iaload, 1) := by decide +kernel
theorem dL_law_1754 : decode cL_law 1754 = .ok (.aload_n 0, 1) := by decide +kernel
theorem dL_law_1755 : decode cL_law 1755 = .ok (.iload 4, 2) := by decide +kernel
theorem dL_law_1757 : decode cL_law 1757 = .ok (.iconst 2, 1) := by decide +kernel
theorem dL_law_1758 : decode cL_law 1758 = .ok (.iadd, 1) := by decide +kernel
theorem dL_law_1759 : decode cL_law 1759 = .ok (.iaload, 1) := by decide +kernel
theorem dL_law_1760 : decode cL_law 1760 = .ok (.aload_n 3, 1) := by decide +kernel
theorem dL_law_1761 : decode cL_law 1761 = .ok (.invokestatic 176, 3) := by decide +kernel
theorem dL_law_1764 : decode cL_law 1764 = .ok (.istore 5, 2) := by decide +kernel
theorem dL_law_1766 : decode cL_law 1766 = .ok (.aload_n 2, 1) := by decide +kernel
theorem dL_law_1767 : decode cL_law 1767 = .ok (.aload_n 0, 1) := by decide +kernel
theorem dL_law_1768 : decode cL_law 1768 = .ok (.iload 4, 2) := by decide +kernel
theorem dL_law_1770 : decode cL_law 1770 = .ok (.iconst 1, 1) := by decide +kernel
theorem dL_law_1771 : decode cL_law 1771 = .ok (.iadd, 1) := by decide +kernel
theorem dL_law_1772 : decode cL_law 1772 = .ok (.iaload, 1) := by decide +kernel
theorem dL_law_1773 : decode cL_law 1773 = .ok (.aload_n 0, 1) := by decide +kernel
theorem dL_law_1774 : decode cL_law 1774 = .ok (.iload 4, 2) := by decide +kernel
theorem dL_law_1776 : decode cL_law 1776 = .ok (.iconst 2, 1) := by decide +kernel
theorem dL_law_1777 : decode cL_law 1777 = .ok (.iadd, 1) := by decide +kernel
theorem dL_law_1778 : decode cL_law 1778 = .ok (.iaload, 1) := by decide +kernel
theorem dL_law_1779 : decode cL_law 1779 = .ok (.invokevirtual 178, 3) := by decide +kernel
theorem dL_law_1782 : decode cL_law 1782 = .ok (.istore 6, 2) := by decide +kernel
theorem dL_law_1784 : decode cL_law 1784 = .ok (.aload_n 2, 1) := by decide +kernel
theorem dL_law_1785 : decode cL_law 1785 = .ok (.invokevirtual 101, 3) := by decide +kernel
theorem dL_law_1788 : decode cL_law 1788 = .ok (.iload 5, 2) := by decide +kernel
theorem dL_law_1790 : decode cL_law 1790 = .ok (.if_icmp .eq 5, 3) := by decide +kernel
theorem dL_law_1793 : decode cL_law 1793 = .ok (.iconst 0, 1) := by decide +kernel
theorem dL_law_1794 : decode cL_law 1794 = .ok (.ireturn, 1) := by decide +kernel
theorem dL_law_1795 : decode cL_law 1795 = .ok (.iload 5, 2) := by decide +kernel
theorem dL_law_1797 : decode cL_law 1797 = .ok (.ifCond .ne 15, 3) := by decide +kernel
theorem dL_law_1800 : decode cL_law 1800 = .ok (.aload_n 3, 1) := by decide +kernel
theorem dL_law_1801 : decode cL_law 1801 = .ok (.iconst 0, 1) := by decide +kernel
theorem dL_law_1802 : decode cL_law 1802 = .ok (.laload, 1) := by decide +kernel
theorem dL_law_1803 : decode cL_law 1803 = .ok (.iload 6, 2) := by decide +kernel
theorem dL_law_1805 : decode cL_law 1805 = .ok (.i2l, 1) := by decide +kernel
theorem dL_law_1806 : decode cL_law 1806 = .ok (.lcmp, 1) := by decide +kernel
theorem dL_law_1807 : decode cL_law 1807 = .ok (.ifCond .eq 5, 3) := by decide +kernel
theorem dL_law_1810 : decode cL_law 1810 = .ok (.iconst 0, 1) := by decide +kernel
theorem dL_law_1811 : decode cL_law 1811 = .ok (.ireturn, 1) := by decide +kernel
theorem dL_law_1812 : decode cL_law 1812 = .ok (.goto 3, 3) := by decide +kernel
theorem dL_law_1815 : decode cL_law 1815 = .ok (.iinc 4 9, 3) := by decide +kernel
theorem dL_law_1818 : decode cL_law 1818 = .ok (.goto (-1795), 3) := by decide +kernel
theorem dL_law_1821 : decode cL_law 1821 = .ok (.iconst 1, 1) := by decide +kernel
theorem dL_law_1822 : decode cL_law 1822 = .ok (.ireturn, 1) := by decide +kernel
