theorem d0_0 : cod 0 0 = some (.aload_n 0, 1) := by decide +kernel
theorem d0_1 : cod 0 1 = some (.invokespecial 1, 4) := by decide +kernel
theorem d0_4 : cod 0 4 = some (.aload_n 0, 5) := by decide +kernel
theorem d0_5 : cod 0 5 = some (.iload_n 1, 6) := by decide +kernel
theorem d0_6 : cod 0 6 = some (.putfield 7, 9) := by decide +kernel
theorem d0_9 : cod 0 9 = some (.aload_n 0, 10) := by decide +kernel
theorem d0_10 : cod 0 10 = some (.iload_n 2, 11) := by decide +kernel
theorem d0_11 : cod 0 11 = some (.putfield 13, 14) := by decide +kernel
theorem d0_14 : cod 0 14 = some (.aload_n 0, 15) := by decide +kernel
theorem d0_15 : cod 0 15 = some (.iload_n 3, 16) := by decide +kernel
theorem d0_16 : cod 0 16 = some (.putfield 16, 19) := by decide +kernel
theorem d0_19 : cod 0 19 = some (.return_, 20) := by decide +kernel
theorem d1_0 : cod 1 0 = some (.aload_n 0, 1) := by decide +kernel
theorem d1_1 : cod 1 1 = some (.invokespecial 3, 4) := by decide +kernel
theorem d1_4 : cod 1 4 = some (.aload_n 0, 5) := by decide +kernel
theorem d1_5 : cod 1 5 = some (.bipush 10, 7) := by decide +kernel
theorem d1_7 : cod 1 7 = some (.newarray .int, 9) := by decide +kernel
theorem d1_9 : cod 1 9 = some (.putfield 9, 12) := by decide +kernel
theorem d1_12 : cod 1 12 = some (.aload_n 0, 13) := by decide +kernel
theorem d1_13 : cod 1 13 = some (.iload_n 1, 14) := by decide +kernel
theorem d1_14 : cod 1 14 = some (.putfield 15, 17) := by decide +kernel
theorem d1_17 : cod 1 17 = some (.aload_n 0, 18) := by decide +kernel
theorem d1_18 : cod 1 18 = some (.iload_n 2, 19) := by decide +kernel
theorem d1_19 : cod 1 19 = some (.putfield 19, 22) := by decide +kernel
theorem d1_22 : cod 1 22 = some (.aload_n 0, 23) := by decide +kernel
theorem d1_23 : cod 1 23 = some (.iload_n 3, 24) := by decide +kernel
theorem d1_24 : cod 1 24 = some (.putfield 22, 27) := by decide +kernel
theorem d1_27 : cod 1 27 = some (.aload_n 0, 28) := by decide +kernel
theorem d1_28 : cod 1 28 = some (.iload 4, 30) := by decide +kernel
theorem d1_30 : cod 1 30 = some (.putfield 25, 33) := by decide +kernel
theorem d1_33 : cod 1 33 = some (.aload_n 0, 34) := by decide +kernel
theorem d1_34 : cod 1 34 = some (.iload 5, 36) := by decide +kernel
theorem d1_36 : cod 1 36 = some (.putfield 28, 39) := by decide +kernel
theorem d1_39 : cod 1 39 = some (.return_, 40) := by decide +kernel
theorem d2_0 : cod 2 0 = some (.iconst 0, 1) := by decide +kernel
theorem d2_1 : cod 2 1 = some (.istore_n 1, 2) := by decide +kernel
theorem d2_2 : cod 2 2 = some (.iconst 0, 3) := by decide +kernel
theorem d2_3 : cod 2 3 = some (.istore_n 2, 4) := by decide +kernel
theorem d2_4 : cod 2 4 = some (.iload_n 2, 5) := by decide +kernel
theorem d2_5 : cod 2 5 = some (.bipush 10, 7) := by decide +kernel
theorem d2_7 : cod 2 7 = some (.if_icmp .ge 18, 10) := by decide +kernel
theorem d2_10 : cod 2 10 = some (.iload_n 1, 11) := by decide +kernel
theorem d2_11 : cod 2 11 = some (.aload_n 0, 12) := by decide +kernel
theorem d2_12 : cod 2 12 = some (.getfield 9, 15) := by decide +kernel
theorem d2_15 : cod 2 15 = some (.iload_n 2, 16) := by decide +kernel
theorem d2_16 : cod 2 16 = some (.iaload, 17) := by decide +kernel
theorem d2_17 : cod 2 17 = some (.iadd, 18) := by decide +kernel
theorem d2_18 : cod 2 18 = some (.istore_n 1, 19) := by decide +kernel
theorem d2_19 : cod 2 19 = some (.iinc 2 1, 22) := by decide +kernel
theorem d2_22 : cod 2 22 = some (.goto (-18), 25) := by decide +kernel
theorem d2_25 : cod 2 25 = some (.iload_n 1, 26) := by decide +kernel
theorem d2_26 : cod 2 26 = some (.ireturn, 27) := by decide +kernel
theorem d3_0 : cod 3 0 = some (.aload_n 0, 1) := by decide +kernel
theorem d3_1 : cod 3 1 = some (.invokespecial 3, 4) := by decide +kernel
theorem d3_4 : cod 3 4 = some (.aload_n 0, 5) := by decide +kernel
theorem d3_5 : cod 3 5 = some (.iconst 5, 6) := by decide +kernel
theorem d3_6 : cod 3 6 = some (.newarray .int, 8) := by decide +kernel
theorem d3_8 : cod 3 8 = some (.putfield 9, 11) := by decide +kernel
theorem d3_11 : cod 3 11 = some (.aload_n 0, 12) := by decide +kernel
theorem d3_12 : cod 3 12 = some (.bipush 20, 14) := by decide +kernel
theorem d3_14 : cod 3 14 = some (.newarray .int, 16) := by decide +kernel
theorem d3_16 : cod 3 16 = some (.putfield 15, 19) := by decide +kernel
theorem d3_19 : cod 3 19 = some (.aload_n 0, 20) := by decide +kernel
theorem d3_20 : cod 3 20 = some (.bipush 20, 22) := by decide +kernel
theorem d3_22 : cod 3 22 = some (.newarray .int, 24) := by decide +kernel
theorem d3_24 : cod 3 24 = some (.putfield 18, 27) := by decide +kernel
theorem d3_27 : cod 3 27 = some (.aload_n 0, 28) := by decide +kernel
theorem d3_28 : cod 3 28 = some (.bipush 20, 30) := by decide +kernel
theorem d3_30 : cod 3 30 = some (.newarray .int, 32) := by decide +kernel
theorem d3_32 : cod 3 32 = some (.putfield 21, 35) := by decide +kernel
theorem d3_35 : cod 3 35 = some (.aload_n 0, 36) := by decide +kernel
theorem d3_36 : cod 3 36 = some (.bipush 20, 38) := by decide +kernel
theorem d3_38 : cod 3 38 = some (.newarray .boolean, 40) := by decide +kernel
theorem d3_40 : cod 3 40 = some (.putfield 24, 43) := by decide +kernel
theorem d3_43 : cod 3 43 = some (.aload_n 0, 44) := by decide +kernel
theorem d3_44 : cod 3 44 = some (.getfield 9, 47) := by decide +kernel
theorem d3_47 : cod 3 47 = some (.iconst 5, 48) := by decide +kernel
theorem d3_48 : cod 3 48 = some (.invokestatic 28, 51) := by decide +kernel
theorem d3_51 : cod 3 51 = some (.return_, 52) := by decide +kernel
theorem d4_0 : cod 4 0 = some (.aload_n 0, 1) := by decide +kernel
theorem d4_1 : cod 4 1 = some (.iconst 0, 2) := by decide +kernel
theorem d4_2 : cod 4 2 = some (.putfield 34, 5) := by decide +kernel
theorem d4_5 : cod 4 5 = some (.return_, 6) := by decide +kernel
theorem d5_0 : cod 5 0 = some (.aload_n 0, 1) := by decide +kernel
theorem d5_1 : cod 5 1 = some (.getfield 15, 4) := by decide +kernel
theorem d5_4 : cod 5 4 = some (.aload_n 0, 5) := by decide +kernel
theorem d5_5 : cod 5 5 = some (.getfield 34, 8) := by decide +kernel
theorem d5_8 : cod 5 8 = some (.iload_n 1, 9) := by decide +kernel
theorem d5_9 : cod 5 9 = some (.iastore, 10) := by decide +kernel
theorem d5_10 : cod 5 10 = some (.aload_n 0, 11) := by decide +kernel
theorem d5_11 : cod 5 11 = some (.getfield 18, 14) := by decide +kernel
theorem d5_14 : cod 5 14 = some (.aload_n 0, 15) := by decide +kernel
theorem d5_15 : cod 5 15 = some (.getfield 34, 18) := by decide +kernel
theorem d5_18 : cod 5 18 = some (.iload_n 2, 19) := by decide +kernel
theorem d5_19 : cod 5 19 = some (.iastore, 20) := by decide +kernel
theorem d5_20 : cod 5 20 = some (.aload_n 0, 21) := by decide +kernel
theorem d5_21 : cod 5 21 = some (.getfield 21, 24) := by decide +kernel
theorem d5_24 : cod 5 24 = some (.aload_n 0, 25) := by decide +kernel
theorem d5_25 : cod 5 25 = some (.getfield 34, 28) := by decide +kernel
theorem d5_28 : cod 5 28 = some (.iload_n 3, 29) := by decide +kernel
theorem d5_29 : cod 5 29 = some (.iastore, 30) := by decide +kernel
theorem d5_30 : cod 5 30 = some (.aload_n 0, 31) := by decide +kernel
theorem d5_31 : cod 5 31 = some (.getfield 24, 34) := by decide +kernel
theorem d5_34 : cod 5 34 = some (.aload_n 0, 35) := by decide +kernel
theorem d5_35 : cod 5 35 = some (.getfield 34, 38) := by decide +kernel
theorem d5_38 : cod 5 38 = some (.iload 4, 40) := by decide +kernel
theorem d5_40 : cod 5 40 = some (.bastore, 41) := by decide +kernel
theorem d5_41 : cod 5 41 = some (.aload_n 0, 42) := by decide +kernel
theorem d5_42 : cod 5 42 = some (.dup, 43) := by decide +kernel
theorem d5_43 : cod 5 43 = some (.getfield 34, 46) := by decide +kernel
theorem d5_46 : cod 5 46 = some (.iconst 1, 47) := by decide +kernel
theorem d5_47 : cod 5 47 = some (.iadd, 48) := by decide +kernel
theorem d5_48 : cod 5 48 = some (.putfield 34, 51) := by decide +kernel
theorem d5_51 : cod 5 51 = some (.aload_n 0, 52) := by decide +kernel
theorem d5_52 : cod 5 52 = some (.getfield 34, 55) := by decide +kernel
theorem d5_55 : cod 5 55 = some (.iconst 1, 56) := by decide +kernel
theorem d5_56 : cod 5 56 = some (.isub, 57) := by decide +kernel
theorem d5_57 : cod 5 57 = some (.ireturn, 58) := by decide +kernel
theorem d6_0 : cod 6 0 = some (.iconst 0, 1) := by decide +kernel
theorem d6_1 : cod 6 1 = some (.istore 4, 3) := by decide +kernel
theorem d6_3 : cod 6 3 = some (.iconst 0, 4) := by decide +kernel
theorem d6_4 : cod 6 4 = some (.istore 5, 6) := by decide +kernel
theorem d6_6 : cod 6 6 = some (.iload 5, 8) := by decide +kernel
theorem d6_8 : cod 6 8 = some (.iconst 5, 9) := by decide +kernel
theorem d6_9 : cod 6 9 = some (.if_icmp .ge 89, 12) := by decide +kernel
theorem d6_12 : cod 6 12 = some (.aload_n 0, 13) := by decide +kernel
theorem d6_13 : cod 6 13 = some (.iload 5, 15) := by decide +kernel
theorem d6_15 : cod 6 15 = some (.iload_n 1, 16) := by decide +kernel
theorem d6_16 : cod 6 16 = some (.iload_n 2, 17) := by decide +kernel
theorem d6_17 : cod 6 17 = some (.invokevirtual 38, 20) := by decide +kernel
theorem d6_20 : cod 6 20 = some (.istore 6, 22) := by decide +kernel
theorem d6_22 : cod 6 22 = some (.iload 6, 24) := by decide +kernel
theorem d6_24 : cod 6 24 = some (.iconst (-1), 25) := by decide +kernel
theorem d6_25 : cod 6 25 = some (.if_icmp .eq 41, 28) := by decide +kernel
theorem d6_28 : cod 6 28 = some (.aload_n 0, 29) := by decide +kernel
theorem d6_29 : cod 6 29 = some (.getfield 24, 32) := by decide +kernel
theorem d6_32 : cod 6 32 = some (.iload 6, 34) := by decide +kernel
theorem d6_34 : cod 6 34 = some (.baload, 35) := by decide +kernel
theorem d6_35 : cod 6 35 = some (.iload_n 3, 36) := by decide +kernel
theorem d6_36 : cod 6 36 = some (.if_icmp .ne 30, 39) := by decide +kernel
theorem d6_39 : cod 6 39 = some (.aload_n 0, 40) := by decide +kernel
theorem d6_40 : cod 6 40 = some (.getfield 9, 43) := by decide +kernel
theorem d6_43 : cod 6 43 = some (.iload 5, 45) := by decide +kernel
theorem d6_45 : cod 6 45 = some (.aload_n 0, 46) := by decide +kernel
theorem d6_46 : cod 6 46 = some (.getfield 9, 49) := by decide +kernel
theorem d6_49 : cod 6 49 = some (.iload 5, 51) := by decide +kernel
theorem d6_51 : cod 6 51 = some (.iaload, 52) := by decide +kernel
theorem d6_52 : cod 6 52 = some (.iconst 1, 53) := by decide +kernel
theorem d6_53 : cod 6 53 = some (.iadd, 54) := by decide +kernel
theorem d6_54 : cod 6 54 = some (.bipush 9, 56) := by decide +kernel
theorem d6_56 : cod 6 56 = some (.invokestatic 42, 59) := by decide +kernel
theorem d6_59 : cod 6 59 = some (.iastore, 60) := by decide +kernel
theorem d6_60 : cod 6 60 = some (.iinc 4 1, 63) := by decide +kernel
theorem d6_63 : cod 6 63 = some (.goto 29, 66) := by decide +kernel
theorem d6_66 : cod 6 66 = some (.iload 6, 68) := by decide +kernel
theorem d6_68 : cod 6 68 = some (.iconst (-1), 69) := by decide +kernel
theorem d6_69 : cod 6 69 = some (.if_icmp .eq 23, 72) := by decide +kernel
theorem d6_72 : cod 6 72 = some (.aload_n 0, 73) := by decide +kernel
theorem d6_73 : cod 6 73 = some (.getfield 9, 76) := by decide +kernel
theorem d6_76 : cod 6 76 = some (.iload 5, 78) := by decide +kernel
theorem d6_78 : cod 6 78 = some (.aload_n 0, 79) := by decide +kernel
theorem d6_79 : cod 6 79 = some (.getfield 9, 82) := by decide +kernel
theorem d6_82 : cod 6 82 = some (.iload 5, 84) := by decide +kernel
theorem d6_84 : cod 6 84 = some (.iaload, 85) := by decide +kernel
theorem d6_85 : cod 6 85 = some (.iconst 2, 86) := by decide +kernel
theorem d6_86 : cod 6 86 = some (.isub, 87) := by decide +kernel
theorem d6_87 : cod 6 87 = some (.iconst 0, 88) := by decide +kernel
theorem d6_88 : cod 6 88 = some (.invokestatic 48, 91) := by decide +kernel
theorem d6_91 : cod 6 91 = some (.iastore, 92) := by decide +kernel
theorem d6_92 : cod 6 92 = some (.iinc 5 1, 95) := by decide +kernel
theorem d6_95 : cod 6 95 = some (.goto (-89), 98) := by decide +kernel
theorem d6_98 : cod 6 98 = some (.iload 4, 100) := by decide +kernel
theorem d6_100 : cod 6 100 = some (.ireturn, 101) := by decide +kernel
theorem d7_0 : cod 7 0 = some (.iconst (-1), 1) := by decide +kernel
theorem d7_1 : cod 7 1 = some (.istore 4, 3) := by decide +kernel
theorem d7_3 : cod 7 3 = some (.iconst 0, 4) := by decide +kernel
theorem d7_4 : cod 7 4 = some (.istore 5, 6) := by decide +kernel
theorem d7_6 : cod 7 6 = some (.iload 5, 8) := by decide +kernel
theorem d7_8 : cod 7 8 = some (.aload_n 0, 9) := by decide +kernel
theorem d7_9 : cod 7 9 = some (.getfield 34, 12) := by decide +kernel
theorem d7_12 : cod 7 12 = some (.if_icmp .ge 46, 15) := by decide +kernel
theorem d7_15 : cod 7 15 = some (.aload_n 0, 16) := by decide +kernel
theorem d7_16 : cod 7 16 = some (.getfield 18, 19) := by decide +kernel
theorem d7_19 : cod 7 19 = some (.iload 5, 21) := by decide +kernel
theorem d7_21 : cod 7 21 = some (.iaload, 22) := by decide +kernel
theorem d7_22 : cod 7 22 = some (.iload_n 1, 23) := by decide +kernel
theorem d7_23 : cod 7 23 = some (.if_icmp .ne 29, 26) := by decide +kernel
theorem d7_26 : cod 7 26 = some (.aload_n 0, 27) := by decide +kernel
theorem d7_27 : cod 7 27 = some (.getfield 15, 30) := by decide +kernel
theorem d7_30 : cod 7 30 = some (.iload 5, 32) := by decide +kernel
theorem d7_32 : cod 7 32 = some (.iaload, 33) := by decide +kernel
theorem d7_33 : cod 7 33 = some (.iload_n 2, 34) := by decide +kernel
theorem d7_34 : cod 7 34 = some (.if_icmp .ne 18, 37) := by decide +kernel
theorem d7_37 : cod 7 37 = some (.aload_n 0, 38) := by decide +kernel
theorem d7_38 : cod 7 38 = some (.getfield 21, 41) := by decide +kernel
theorem d7_41 : cod 7 41 = some (.iload 5, 43) := by decide +kernel
theorem d7_43 : cod 7 43 = some (.iaload, 44) := by decide +kernel
theorem d7_44 : cod 7 44 = some (.iload_n 3, 45) := by decide +kernel
theorem d7_45 : cod 7 45 = some (.if_icmp .gt 7, 48) := by decide +kernel
theorem d7_48 : cod 7 48 = some (.iload 5, 50) := by decide +kernel
theorem d7_50 : cod 7 50 = some (.istore 4, 52) := by decide +kernel
theorem d7_52 : cod 7 52 = some (.iinc 5 1, 55) := by decide +kernel
theorem d7_55 : cod 7 55 = some (.goto (-49), 58) := by decide +kernel
theorem d7_58 : cod 7 58 = some (.iload 4, 60) := by decide +kernel
theorem d7_60 : cod 7 60 = some (.iconst (-1), 61) := by decide +kernel
theorem d7_61 : cod 7 61 = some (.if_icmp .eq 23, 64) := by decide +kernel
theorem d7_64 : cod 7 64 = some (.iload_n 3, 65) := by decide +kernel
theorem d7_65 : cod 7 65 = some (.aload_n 0, 66) := by decide +kernel
theorem d7_66 : cod 7 66 = some (.getfield 21, 69) := by decide +kernel
theorem d7_69 : cod 7 69 = some (.iload 4, 71) := by decide +kernel
theorem d7_71 : cod 7 71 = some (.iaload, 72) := by decide +kernel
theorem d7_72 : cod 7 72 = some (.isub, 73) := by decide +kernel
theorem d7_73 : cod 7 73 = some (.sipush 300, 76) := by decide +kernel
theorem d7_76 : cod 7 76 = some (.if_icmp .gt 8, 79) := by decide +kernel
theorem d7_79 : cod 7 79 = some (.iload 4, 81) := by decide +kernel
theorem d7_81 : cod 7 81 = some (.goto 4, 84) := by decide +kernel
theorem d7_84 : cod 7 84 = some (.iconst (-1), 85) := by decide +kernel
theorem d7_85 : cod 7 85 = some (.ireturn, 86) := by decide +kernel
theorem d8_0 : cod 8 0 = some (.iconst 0, 1) := by decide +kernel
theorem d8_1 : cod 8 1 = some (.istore_n 3, 2) := by decide +kernel
theorem d8_2 : cod 8 2 = some (.iconst 0, 3) := by decide +kernel
theorem d8_3 : cod 8 3 = some (.istore 4, 5) := by decide +kernel
theorem d8_5 : cod 8 5 = some (.iload 4, 7) := by decide +kernel
theorem d8_7 : cod 8 7 = some (.iconst 5, 8) := by decide +kernel
theorem d8_8 : cod 8 8 = some (.if_icmp .ge 56, 11) := by decide +kernel
theorem d8_11 : cod 8 11 = some (.aload_n 0, 12) := by decide +kernel
theorem d8_12 : cod 8 12 = some (.iload 4, 14) := by decide +kernel
theorem d8_14 : cod 8 14 = some (.iload_n 1, 15) := by decide +kernel
theorem d8_15 : cod 8 15 = some (.iload_n 2, 16) := by decide +kernel
theorem d8_16 : cod 8 16 = some (.invokevirtual 38, 19) := by decide +kernel
theorem d8_19 : cod 8 19 = some (.istore 5, 21) := by decide +kernel
theorem d8_21 : cod 8 21 = some (.iload 5, 23) := by decide +kernel
theorem d8_23 : cod 8 23 = some (.iconst (-1), 24) := by decide +kernel
theorem d8_24 : cod 8 24 = some (.if_icmp .eq 34, 27) := by decide +kernel
theorem d8_27 : cod 8 27 = some (.iload_n 3, 28) := by decide +kernel
theorem d8_28 : cod 8 28 = some (.aload_n 0, 29) := by decide +kernel
theorem d8_29 : cod 8 29 = some (.getfield 24, 32) := by decide +kernel
theorem d8_32 : cod 8 32 = some (.iload 5, 34) := by decide +kernel
theorem d8_34 : cod 8 34 = some (.baload, 35) := by decide +kernel
theorem d8_35 : cod 8 35 = some (.ifCond .eq 13, 38) := by decide +kernel
theorem d8_38 : cod 8 38 = some (.aload_n 0, 39) := by decide +kernel
theorem d8_39 : cod 8 39 = some (.getfield 9, 42) := by decide +kernel
theorem d8_42 : cod 8 42 = some (.iload 4, 44) := by decide +kernel
theorem d8_44 : cod 8 44 = some (.iaload, 45) := by decide +kernel
theorem d8_45 : cod 8 45 = some (.goto 11, 48) := by decide +kernel
theorem d8_48 : cod 8 48 = some (.aload_n 0, 49) := by decide +kernel
theorem d8_49 : cod 8 49 = some (.getfield 9, 52) := by decide +kernel
theorem d8_52 : cod 8 52 = some (.iload 4, 54) := by decide +kernel
theorem d8_54 : cod 8 54 = some (.iaload, 55) := by decide +kernel
theorem d8_55 : cod 8 55 = some (.ineg, 56) := by decide +kernel
theorem d8_56 : cod 8 56 = some (.iadd, 57) := by decide +kernel
theorem d8_57 : cod 8 57 = some (.istore_n 3, 58) := by decide +kernel
theorem d8_58 : cod 8 58 = some (.iinc 4 1, 61) := by decide +kernel
theorem d8_61 : cod 8 61 = some (.goto (-56), 64) := by decide +kernel
theorem d8_64 : cod 8 64 = some (.iload_n 3, 65) := by decide +kernel
theorem d8_65 : cod 8 65 = some (.ireturn, 66) := by decide +kernel
theorem d9_0 : cod 9 0 = some (.iconst 0, 1) := by decide +kernel
theorem d9_1 : cod 9 1 = some (.istore_n 1, 2) := by decide +kernel
theorem d9_2 : cod 9 2 = some (.iload_n 1, 3) := by decide +kernel
theorem d9_3 : cod 9 3 = some (.iconst 5, 4) := by decide +kernel
theorem d9_4 : cod 9 4 = some (.if_icmp .ge 26, 7) := by decide +kernel
theorem d9_7 : cod 9 7 = some (.aload_n 0, 8) := by decide +kernel
theorem d9_8 : cod 9 8 = some (.getfield 9, 11) := by decide +kernel
theorem d9_11 : cod 9 11 = some (.iload_n 1, 12) := by decide +kernel
theorem d9_12 : cod 9 12 = some (.iaload, 13) := by decide +kernel
theorem d9_13 : cod 9 13 = some (.iconst 0, 14) := by decide +kernel
theorem d9_14 : cod 9 14 = some (.bipush 9, 16) := by decide +kernel
theorem d9_16 : cod 9 16 = some (.invokestatic 51, 19) := by decide +kernel
theorem d9_19 : cod 9 19 = some (.ifCond .ne 5, 22) := by decide +kernel
theorem d9_22 : cod 9 22 = some (.iconst 0, 23) := by decide +kernel
theorem d9_23 : cod 9 23 = some (.ireturn, 24) := by decide +kernel
theorem d9_24 : cod 9 24 = some (.iinc 1 1, 27) := by decide +kernel
theorem d9_27 : cod 9 27 = some (.goto (-25), 30) := by decide +kernel
theorem d9_30 : cod 9 30 = some (.iconst 1, 31) := by decide +kernel
theorem d9_31 : cod 9 31 = some (.ireturn, 32) := by decide +kernel
theorem d10_0 : cod 10 0 = some (.aload_n 0, 1) := by decide +kernel
theorem d10_1 : cod 10 1 = some (.invokespecial 3, 4) := by decide +kernel
theorem d10_4 : cod 10 4 = some (.aload_n 0, 5) := by decide +kernel
theorem d10_5 : cod 10 5 = some (.bipush 40, 7) := by decide +kernel
theorem d10_7 : cod 10 7 = some (.newarray .int, 9) := by decide +kernel
theorem d10_9 : cod 10 9 = some (.putfield 9, 12) := by decide +kernel
theorem d10_12 : cod 10 12 = some (.return_, 13) := by decide +kernel
theorem d11_0 : cod 11 0 = some (.iload_n 1, 1) := by decide +kernel
theorem d11_1 : cod 11 1 = some (.aload_n 0, 2) := by decide +kernel
theorem d11_2 : cod 11 2 = some (.getfield 15, 5) := by decide +kernel
theorem d11_5 : cod 11 5 = some (.if_icmp .ne 43, 8) := by decide +kernel
theorem d11_8 : cod 11 8 = some (.iconst 0, 9) := by decide +kernel
theorem d11_9 : cod 11 9 = some (.istore 4, 11) := by decide +kernel
theorem d11_11 : cod 11 11 = some (.iload 4, 13) := by decide +kernel
theorem d11_13 : cod 11 13 = some (.bipush 8, 15) := by decide +kernel
theorem d11_15 : cod 11 15 = some (.if_icmp .ge 23, 18) := by decide +kernel
theorem d11_18 : cod 11 18 = some (.aload_n 0, 19) := by decide +kernel
theorem d11_19 : cod 11 19 = some (.getfield 9, 22) := by decide +kernel
theorem d11_22 : cod 11 22 = some (.iload_n 1, 23) := by decide +kernel
theorem d11_23 : cod 11 23 = some (.bipush 8, 25) := by decide +kernel
theorem d11_25 : cod 11 25 = some (.imul, 26) := by decide +kernel
theorem d11_26 : cod 11 26 = some (.iload 4, 28) := by decide +kernel
theorem d11_28 : cod 11 28 = some (.iadd, 29) := by decide +kernel
theorem d11_29 : cod 11 29 = some (.bipush 8, 31) := by decide +kernel
theorem d11_31 : cod 11 31 = some (.iastore, 32) := by decide +kernel
theorem d11_32 : cod 11 32 = some (.iinc 4 1, 35) := by decide +kernel
theorem d11_35 : cod 11 35 = some (.goto (-24), 38) := by decide +kernel
theorem d11_38 : cod 11 38 = some (.aload_n 0, 39) := by decide +kernel
theorem d11_39 : cod 11 39 = some (.dup, 40) := by decide +kernel
theorem d11_40 : cod 11 40 = some (.getfield 15, 43) := by decide +kernel
theorem d11_43 : cod 11 43 = some (.iconst 1, 44) := by decide +kernel
theorem d11_44 : cod 11 44 = some (.iadd, 45) := by decide +kernel
theorem d11_45 : cod 11 45 = some (.putfield 15, 48) := by decide +kernel
theorem d11_48 : cod 11 48 = some (.aload_n 0, 49) := by decide +kernel
theorem d11_49 : cod 11 49 = some (.getfield 9, 52) := by decide +kernel
theorem d11_52 : cod 11 52 = some (.iload_n 1, 53) := by decide +kernel
theorem d11_53 : cod 11 53 = some (.bipush 8, 55) := by decide +kernel
theorem d11_55 : cod 11 55 = some (.imul, 56) := by decide +kernel
theorem d11_56 : cod 11 56 = some (.iload_n 2, 57) := by decide +kernel
theorem d11_57 : cod 11 57 = some (.iadd, 58) := by decide +kernel
theorem d11_58 : cod 11 58 = some (.iload_n 3, 59) := by decide +kernel
theorem d11_59 : cod 11 59 = some (.iastore, 60) := by decide +kernel
theorem d11_60 : cod 11 60 = some (.return_, 61) := by decide +kernel
theorem d12_0 : cod 12 0 = some (.iconst (-1), 1) := by decide +kernel
theorem d12_1 : cod 12 1 = some (.istore_n 2, 2) := by decide +kernel
theorem d12_2 : cod 12 2 = some (.aload_n 0, 3) := by decide +kernel
theorem d12_3 : cod 12 3 = some (.aload_n 1, 4) := by decide +kernel
theorem d12_4 : cod 12 4 = some (.iconst (-1), 5) := by decide +kernel
theorem d12_5 : cod 12 5 = some (.invokevirtual 24, 8) := by decide +kernel
theorem d12_8 : cod 12 8 = some (.lstore_n 3, 9) := by decide +kernel
theorem d12_9 : cod 12 9 = some (.iconst 0, 10) := by decide +kernel
theorem d12_10 : cod 12 10 = some (.istore 5, 12) := by decide +kernel
theorem d12_12 : cod 12 12 = some (.iload 5, 14) := by decide +kernel
theorem d12_14 : cod 12 14 = some (.aload_n 0, 15) := by decide +kernel
theorem d12_15 : cod 12 15 = some (.getfield 15, 18) := by decide +kernel
theorem d12_18 : cod 12 18 = some (.if_icmp .ge 31, 21) := by decide +kernel
theorem d12_21 : cod 12 21 = some (.aload_n 0, 22) := by decide +kernel
theorem d12_22 : cod 12 22 = some (.aload_n 1, 23) := by decide +kernel
theorem d12_23 : cod 12 23 = some (.iload 5, 25) := by decide +kernel
theorem d12_25 : cod 12 25 = some (.invokevirtual 24, 28) := by decide +kernel
theorem d12_28 : cod 12 28 = some (.lstore 6, 30) := by decide +kernel
theorem d12_30 : cod 12 30 = some (.lload 6, 32) := by decide +kernel
theorem d12_32 : cod 12 32 = some (.lload_n 3, 33) := by decide +kernel
theorem d12_33 : cod 12 33 = some (.lcmp, 34) := by decide +kernel
theorem d12_34 : cod 12 34 = some (.ifCond .le 9, 37) := by decide +kernel
theorem d12_37 : cod 12 37 = some (.lload 6, 39) := by decide +kernel
theorem d12_39 : cod 12 39 = some (.lstore_n 3, 40) := by decide +kernel
theorem d12_40 : cod 12 40 = some (.iload 5, 42) := by decide +kernel
theorem d12_42 : cod 12 42 = some (.istore_n 2, 43) := by decide +kernel
theorem d12_43 : cod 12 43 = some (.iinc 5 1, 46) := by decide +kernel
theorem d12_46 : cod 12 46 = some (.goto (-34), 49) := by decide +kernel
theorem d12_49 : cod 12 49 = some (.iload_n 2, 50) := by decide +kernel
theorem d12_50 : cod 12 50 = some (.ireturn, 51) := by decide +kernel
theorem d13_0 : cod 13 0 = some (.lconst 1, 1) := by decide +kernel
theorem d13_1 : cod 13 1 = some (.lstore_n 3, 2) := by decide +kernel
theorem d13_2 : cod 13 2 = some (.iconst 0, 3) := by decide +kernel
theorem d13_3 : cod 13 3 = some (.istore 5, 5) := by decide +kernel
theorem d13_5 : cod 13 5 = some (.iload 5, 7) := by decide +kernel
theorem d13_7 : cod 13 7 = some (.bipush 8, 9) := by decide +kernel
theorem d13_9 : cod 13 9 = some (.if_icmp .ge 71, 12) := by decide +kernel
theorem d13_12 : cod 13 12 = some (.iload_n 2, 13) := by decide +kernel
theorem d13_13 : cod 13 13 = some (.iconst (-1), 14) := by decide +kernel
theorem d13_14 : cod 13 14 = some (.if_icmp .ne 8, 17) := by decide +kernel
theorem d13_17 : cod 13 17 = some (.bipush 8, 19) := by decide +kernel
theorem d13_19 : cod 13 19 = some (.goto 15, 22) := by decide +kernel
theorem d13_22 : cod 13 22 = some (.aload_n 0, 23) := by decide +kernel
theorem d13_23 : cod 13 23 = some (.getfield 9, 26) := by decide +kernel
theorem d13_26 : cod 13 26 = some (.iload_n 2, 27) := by decide +kernel
theorem d13_27 : cod 13 27 = some (.bipush 8, 29) := by decide +kernel
theorem d13_29 : cod 13 29 = some (.imul, 30) := by decide +kernel
theorem d13_30 : cod 13 30 = some (.iload 5, 32) := by decide +kernel
theorem d13_32 : cod 13 32 = some (.iadd, 33) := by decide +kernel
theorem d13_33 : cod 13 33 = some (.iaload, 34) := by decide +kernel
theorem d13_34 : cod 13 34 = some (.istore 6, 36) := by decide +kernel
theorem d13_36 : cod 13 36 = some (.aload_n 1, 37) := by decide +kernel
theorem d13_37 : cod 13 37 = some (.getfield 19, 40) := by decide +kernel
theorem d13_40 : cod 13 40 = some (.iload 5, 42) := by decide +kernel
theorem d13_42 : cod 13 42 = some (.iaload, 43) := by decide +kernel
theorem d13_43 : cod 13 43 = some (.iconst 1, 44) := by decide +kernel
theorem d13_44 : cod 13 44 = some (.if_icmp .ne 11, 47) := by decide +kernel
theorem d13_47 : cod 13 47 = some (.lload_n 3, 48) := by decide +kernel
theorem d13_48 : cod 13 48 = some (.iconst 1, 49) := by decide +kernel
theorem d13_49 : cod 13 49 = some (.iload 6, 51) := by decide +kernel
theorem d13_51 : cod 13 51 = some (.iadd, 52) := by decide +kernel
theorem d13_52 : cod 13 52 = some (.i2l, 53) := by decide +kernel
theorem d13_53 : cod 13 53 = some (.lmul, 54) := by decide +kernel
theorem d13_54 : cod 13 54 = some (.lstore_n 3, 55) := by decide +kernel
theorem d13_55 : cod 13 55 = some (.aload_n 1, 56) := by decide +kernel
theorem d13_56 : cod 13 56 = some (.getfield 19, 59) := by decide +kernel
theorem d13_59 : cod 13 59 = some (.iload 5, 61) := by decide +kernel
theorem d13_61 : cod 13 61 = some (.iaload, 62) := by decide +kernel
theorem d13_62 : cod 13 62 = some (.ifCond .ne 12, 65) := by decide +kernel
theorem d13_65 : cod 13 65 = some (.lload_n 3, 66) := by decide +kernel
theorem d13_66 : cod 13 66 = some (.bipush 17, 68) := by decide +kernel
theorem d13_68 : cod 13 68 = some (.iload 6, 70) := by decide +kernel
theorem d13_70 : cod 13 70 = some (.isub, 71) := by decide +kernel
theorem d13_71 : cod 13 71 = some (.i2l, 72) := by decide +kernel
theorem d13_72 : cod 13 72 = some (.lmul, 73) := by decide +kernel
theorem d13_73 : cod 13 73 = some (.lstore_n 3, 74) := by decide +kernel
theorem d13_74 : cod 13 74 = some (.iinc 5 1, 77) := by decide +kernel
theorem d13_77 : cod 13 77 = some (.goto (-72), 80) := by decide +kernel
theorem d13_80 : cod 13 80 = some (.lload_n 3, 81) := by decide +kernel
theorem d13_81 : cod 13 81 = some (.lreturn, 82) := by decide +kernel
theorem d14_0 : cod 14 0 = some (.iconst 0, 1) := by decide +kernel
theorem d14_1 : cod 14 1 = some (.istore_n 2, 2) := by decide +kernel
theorem d14_2 : cod 14 2 = some (.iconst 0, 3) := by decide +kernel
theorem d14_3 : cod 14 3 = some (.istore_n 3, 4) := by decide +kernel
theorem d14_4 : cod 14 4 = some (.iload_n 3, 5) := by decide +kernel
theorem d14_5 : cod 14 5 = some (.aload_n 0, 6) := by decide +kernel
theorem d14_6 : cod 14 6 = some (.getfield 38, 9) := by decide +kernel
theorem d14_9 : cod 14 9 = some (.if_icmp .ge 41, 12) := by decide +kernel
theorem d14_12 : cod 14 12 = some (.iconst 0, 13) := by decide +kernel
theorem d14_13 : cod 14 13 = some (.istore 4, 15) := by decide +kernel
theorem d14_15 : cod 14 15 = some (.iload 4, 17) := by decide +kernel
theorem d14_17 : cod 14 17 = some (.aload_n 0, 18) := by decide +kernel
theorem d14_18 : cod 14 18 = some (.getfield 35, 21) := by decide +kernel
theorem d14_21 : cod 14 21 = some (.if_icmp .ge 23, 24) := by decide +kernel
theorem d14_24 : cod 14 24 = some (.iload_n 2, 25) := by decide +kernel
theorem d14_25 : cod 14 25 = some (.iload_n 1, 26) := by decide +kernel
theorem d14_26 : cod 14 26 = some (.iload_n 3, 27) := by decide +kernel
theorem d14_27 : cod 14 27 = some (.aload_n 0, 28) := by decide +kernel
theorem d14_28 : cod 14 28 = some (.getfield 65, 31) := by decide +kernel
theorem d14_31 : cod 14 31 = some (.imul, 32) := by decide +kernel
theorem d14_32 : cod 14 32 = some (.iload 4, 34) := by decide +kernel
theorem d14_34 : cod 14 34 = some (.iadd, 35) := by decide +kernel
theorem d14_35 : cod 14 35 = some (.ishr, 36) := by decide +kernel
theorem d14_36 : cod 14 36 = some (.ior, 37) := by decide +kernel
theorem d14_37 : cod 14 37 = some (.istore_n 2, 38) := by decide +kernel
theorem d14_38 : cod 14 38 = some (.iinc 4 1, 41) := by decide +kernel
theorem d14_41 : cod 14 41 = some (.goto (-26), 44) := by decide +kernel
theorem d14_44 : cod 14 44 = some (.iinc 3 1, 47) := by decide +kernel
theorem d14_47 : cod 14 47 = some (.goto (-43), 50) := by decide +kernel
theorem d14_50 : cod 14 50 = some (.iload_n 2, 51) := by decide +kernel
theorem d14_51 : cod 14 51 = some (.ireturn, 52) := by decide +kernel
theorem d15_0 : cod 15 0 = some (.iconst (-1), 1) := by decide +kernel
theorem d15_1 : cod 15 1 = some (.istore_n 2, 2) := by decide +kernel
theorem d15_2 : cod 15 2 = some (.iconst 0, 3) := by decide +kernel
theorem d15_3 : cod 15 3 = some (.istore_n 3, 4) := by decide +kernel
theorem d15_4 : cod 15 4 = some (.iload_n 3, 5) := by decide +kernel
theorem d15_5 : cod 15 5 = some (.bipush 24, 7) := by decide +kernel
theorem d15_7 : cod 15 7 = some (.if_icmp .ge 29, 10) := by decide +kernel
theorem d15_10 : cod 15 10 = some (.iload_n 2, 11) := by decide +kernel
theorem d15_11 : cod 15 11 = some (.ifCond .eq 25, 14) := by decide +kernel
theorem d15_14 : cod 15 14 = some (.iload_n 3, 15) := by decide +kernel
theorem d15_15 : cod 15 15 = some (.iload_n 1, 16) := by decide +kernel
theorem d15_16 : cod 15 16 = some (.invokestatic 85, 19) := by decide +kernel
theorem d15_19 : cod 15 19 = some (.ifCond .eq 11, 22) := by decide +kernel
theorem d15_22 : cod 15 22 = some (.iload_n 2, 23) := by decide +kernel
theorem d15_23 : cod 15 23 = some (.aload_n 0, 24) := by decide +kernel
theorem d15_24 : cod 15 24 = some (.iload_n 3, 25) := by decide +kernel
theorem d15_25 : cod 15 25 = some (.invokevirtual 89, 28) := by decide +kernel
theorem d15_28 : cod 15 28 = some (.iand, 29) := by decide +kernel
theorem d15_29 : cod 15 29 = some (.istore_n 2, 30) := by decide +kernel
theorem d15_30 : cod 15 30 = some (.iinc 3 1, 33) := by decide +kernel
theorem d15_33 : cod 15 33 = some (.goto (-29), 36) := by decide +kernel
theorem d15_36 : cod 15 36 = some (.iload_n 2, 37) := by decide +kernel
theorem d15_37 : cod 15 37 = some (.ireturn, 38) := by decide +kernel
theorem d16_0 : cod 16 0 = some (.iconst 0, 1) := by decide +kernel
theorem d16_1 : cod 16 1 = some (.istore_n 2, 2) := by decide +kernel
theorem d16_2 : cod 16 2 = some (.iconst 0, 3) := by decide +kernel
theorem d16_3 : cod 16 3 = some (.istore_n 3, 4) := by decide +kernel
theorem d16_4 : cod 16 4 = some (.iload_n 3, 5) := by decide +kernel
theorem d16_5 : cod 16 5 = some (.aload_n 0, 6) := by decide +kernel
theorem d16_6 : cod 16 6 = some (.getfield 38, 9) := by decide +kernel
theorem d16_9 : cod 16 9 = some (.if_icmp .ge 43, 12) := by decide +kernel
theorem d16_12 : cod 16 12 = some (.iconst 0, 13) := by decide +kernel
theorem d16_13 : cod 16 13 = some (.istore 4, 15) := by decide +kernel
theorem d16_15 : cod 16 15 = some (.iload 4, 17) := by decide +kernel
theorem d16_17 : cod 16 17 = some (.aload_n 0, 18) := by decide +kernel
theorem d16_18 : cod 16 18 = some (.getfield 35, 21) := by decide +kernel
theorem d16_21 : cod 16 21 = some (.if_icmp .ge 25, 24) := by decide +kernel
theorem d16_24 : cod 16 24 = some (.iload_n 2, 25) := by decide +kernel
theorem d16_25 : cod 16 25 = some (.iconst 1, 26) := by decide +kernel
theorem d16_26 : cod 16 26 = some (.iload_n 1, 27) := by decide +kernel
theorem d16_27 : cod 16 27 = some (.iload_n 3, 28) := by decide +kernel
theorem d16_28 : cod 16 28 = some (.aload_n 0, 29) := by decide +kernel
theorem d16_29 : cod 16 29 = some (.getfield 65, 32) := by decide +kernel
theorem d16_32 : cod 16 32 = some (.imul, 33) := by decide +kernel
theorem d16_33 : cod 16 33 = some (.iadd, 34) := by decide +kernel
theorem d16_34 : cod 16 34 = some (.iload 4, 36) := by decide +kernel
theorem d16_36 : cod 16 36 = some (.iadd, 37) := by decide +kernel
theorem d16_37 : cod 16 37 = some (.ishl, 38) := by decide +kernel
theorem d16_38 : cod 16 38 = some (.ior, 39) := by decide +kernel
theorem d16_39 : cod 16 39 = some (.istore_n 2, 40) := by decide +kernel
theorem d16_40 : cod 16 40 = some (.iinc 4 1, 43) := by decide +kernel
theorem d16_43 : cod 16 43 = some (.goto (-28), 46) := by decide +kernel
theorem d16_46 : cod 16 46 = some (.iinc 3 1, 49) := by decide +kernel
theorem d16_49 : cod 16 49 = some (.goto (-45), 52) := by decide +kernel
theorem d16_52 : cod 16 52 = some (.iload_n 2, 53) := by decide +kernel
theorem d16_53 : cod 16 53 = some (.ireturn, 54) := by decide +kernel
theorem d17_0 : cod 17 0 = some (.aload_n 0, 1) := by decide +kernel
theorem d17_1 : cod 17 1 = some (.invokespecial 3, 4) := by decide +kernel
theorem d17_4 : cod 17 4 = some (.aload_n 0, 5) := by decide +kernel
theorem d17_5 : cod 17 5 = some (.bipush 9, 7) := by decide +kernel
theorem d17_7 : cod 17 7 = some (.newarray .int, 9) := by decide +kernel
theorem d17_9 : cod 17 9 = some (.putfield 9, 12) := by decide +kernel
theorem d17_12 : cod 17 12 = some (.aload_n 0, 13) := by decide +kernel
theorem d17_13 : cod 17 13 = some (.bipush 9, 15) := by decide +kernel
theorem d17_15 : cod 17 15 = some (.newarray .boolean, 17) := by decide +kernel
theorem d17_17 : cod 17 17 = some (.putfield 15, 20) := by decide +kernel
theorem d17_20 : cod 17 20 = some (.aload_n 0, 21) := by decide +kernel
theorem d17_21 : cod 17 21 = some (.bipush 8, 23) := by decide +kernel
theorem d17_23 : cod 17 23 = some (.newarray .int, 25) := by decide +kernel
theorem d17_25 : cod 17 25 = some (.putfield 19, 28) := by decide +kernel
theorem d17_28 : cod 17 28 = some (.aload_n 0, 29) := by decide +kernel
theorem d17_29 : cod 17 29 = some (.iconst 4, 30) := by decide +kernel
theorem d17_30 : cod 17 30 = some (.newarray .int, 32) := by decide +kernel
theorem d17_32 : cod 17 32 = some (.putfield 22, 35) := by decide +kernel
theorem d17_35 : cod 17 35 = some (.aload_n 0, 36) := by decide +kernel
theorem d17_36 : cod 17 36 = some (.bipush 8, 38) := by decide +kernel
theorem d17_38 : cod 17 38 = some (.newarray .int, 40) := by decide +kernel
theorem d17_40 : cod 17 40 = some (.putfield 25, 43) := by decide +kernel
theorem d17_43 : cod 17 43 = some (.aload_n 0, 44) := by decide +kernel
theorem d17_44 : cod 17 44 = some (.iconst 3, 45) := by decide +kernel
theorem d17_45 : cod 17 45 = some (.newarray .int, 47) := by decide +kernel
theorem d17_47 : cod 17 47 = some (.putfield 28, 50) := by decide +kernel
theorem d17_50 : cod 17 50 = some (.aload_n 0, 51) := by decide +kernel
theorem d17_51 : cod 17 51 = some (.iload_n 1, 52) := by decide +kernel
theorem d17_52 : cod 17 52 = some (.putfield 31, 55) := by decide +kernel
theorem d17_55 : cod 17 55 = some (.aload_n 0, 56) := by decide +kernel
theorem d17_56 : cod 17 56 = some (.iload_n 2, 57) := by decide +kernel
theorem d17_57 : cod 17 57 = some (.putfield 35, 60) := by decide +kernel
theorem d17_60 : cod 17 60 = some (.aload_n 0, 61) := by decide +kernel
theorem d17_61 : cod 17 61 = some (.iload_n 3, 62) := by decide +kernel
theorem d17_62 : cod 17 62 = some (.putfield 38, 65) := by decide +kernel
theorem d17_65 : cod 17 65 = some (.aload_n 0, 66) := by decide +kernel
theorem d17_66 : cod 17 66 = some (.iload 4, 68) := by decide +kernel
theorem d17_68 : cod 17 68 = some (.putfield 41, 71) := by decide +kernel
theorem d17_71 : cod 17 71 = some (.aload_n 0, 72) := by decide +kernel
theorem d17_72 : cod 17 72 = some (.iload 5, 74) := by decide +kernel
theorem d17_74 : cod 17 74 = some (.putfield 44, 77) := by decide +kernel
theorem d17_77 : cod 17 77 = some (.aload_n 0, 78) := by decide +kernel
theorem d17_78 : cod 17 78 = some (.getfield 25, 81) := by decide +kernel
theorem d17_81 : cod 17 81 = some (.iconst 2, 82) := by decide +kernel
theorem d17_82 : cod 17 82 = some (.invokestatic 48, 85) := by decide +kernel
theorem d17_85 : cod 17 85 = some (.return_, 86) := by decide +kernel
theorem d18_0 : cod 18 0 = some (.aload_n 0, 1) := by decide +kernel
theorem d18_1 : cod 18 1 = some (.aload_n 1, 2) := by decide +kernel
theorem d18_2 : cod 18 2 = some (.getfield 58, 5) := by decide +kernel
theorem d18_5 : cod 18 5 = some (.putfield 65, 8) := by decide +kernel
theorem d18_8 : cod 18 8 = some (.iconst 0, 9) := by decide +kernel
theorem d18_9 : cod 18 9 = some (.istore_n 2, 10) := by decide +kernel
theorem d18_10 : cod 18 10 = some (.iload_n 2, 11) := by decide +kernel
theorem d18_11 : cod 18 11 = some (.bipush 8, 13) := by decide +kernel
theorem d18_13 : cod 18 13 = some (.if_icmp .ge 54, 16) := by decide +kernel
theorem d18_16 : cod 18 16 = some (.iconst 0, 17) := by decide +kernel
theorem d18_17 : cod 18 17 = some (.istore_n 3, 18) := by decide +kernel
theorem d18_18 : cod 18 18 = some (.iconst 0, 19) := by decide +kernel
theorem d18_19 : cod 18 19 = some (.istore 4, 21) := by decide +kernel
theorem d18_21 : cod 18 21 = some (.iload 4, 23) := by decide +kernel
theorem d18_23 : cod 18 23 = some (.aload_n 1, 24) := by decide +kernel
theorem d18_24 : cod 18 24 = some (.invokevirtual 68, 27) := by decide +kernel
theorem d18_27 : cod 18 27 = some (.if_icmp .ge 27, 30) := by decide +kernel
theorem d18_30 : cod 18 30 = some (.aload_n 0, 31) := by decide +kernel
theorem d18_31 : cod 18 31 = some (.aload_n 1, 32) := by decide +kernel
theorem d18_32 : cod 18 32 = some (.iload 4, 34) := by decide +kernel
theorem d18_34 : cod 18 34 = some (.iload_n 2, 35) := by decide +kernel
theorem d18_35 : cod 18 35 = some (.invokevirtual 71, 38) := by decide +kernel
theorem d18_38 : cod 18 38 = some (.ifCond .eq 10, 41) := by decide +kernel
theorem d18_41 : cod 18 41 = some (.iload_n 3, 42) := by decide +kernel
theorem d18_42 : cod 18 42 = some (.iconst 1, 43) := by decide +kernel
theorem d18_43 : cod 18 43 = some (.iload 4, 45) := by decide +kernel
theorem d18_45 : cod 18 45 = some (.ishl, 46) := by decide +kernel
theorem d18_46 : cod 18 46 = some (.ior, 47) := by decide +kernel
theorem d18_47 : cod 18 47 = some (.istore_n 3, 48) := by decide +kernel
theorem d18_48 : cod 18 48 = some (.iinc 4 1, 51) := by decide +kernel
theorem d18_51 : cod 18 51 = some (.goto (-30), 54) := by decide +kernel
theorem d18_54 : cod 18 54 = some (.aload_n 0, 55) := by decide +kernel
theorem d18_55 : cod 18 55 = some (.getfield 19, 58) := by decide +kernel
theorem d18_58 : cod 18 58 = some (.iload_n 2, 59) := by decide +kernel
theorem d18_59 : cod 18 59 = some (.iload_n 3, 60) := by decide +kernel
theorem d18_60 : cod 18 60 = some (.iastore, 61) := by decide +kernel
theorem d18_61 : cod 18 61 = some (.iinc 2 1, 64) := by decide +kernel
theorem d18_64 : cod 18 64 = some (.goto (-54), 67) := by decide +kernel
theorem d18_67 : cod 18 67 = some (.return_, 68) := by decide +kernel
theorem d19_0 : cod 19 0 = some (.aload_n 1, 1) := by decide +kernel
theorem d19_1 : cod 19 1 = some (.iload_n 2, 2) := by decide +kernel
theorem d19_2 : cod 19 2 = some (.aload_n 0, 3) := by decide +kernel
theorem d19_3 : cod 19 3 = some (.getfield 35, 6) := by decide +kernel
theorem d19_6 : cod 19 6 = some (.aload_n 0, 7) := by decide +kernel
theorem d19_7 : cod 19 7 = some (.getfield 38, 10) := by decide +kernel
theorem d19_10 : cod 19 10 = some (.invokevirtual 75, 13) := by decide +kernel
theorem d19_13 : cod 19 13 = some (.ifCond .eq 18, 16) := by decide +kernel
theorem d19_16 : cod 19 16 = some (.aload_n 0, 17) := by decide +kernel
theorem d19_17 : cod 19 17 = some (.getfield 44, 20) := by decide +kernel
theorem d19_20 : cod 19 20 = some (.ifCond .eq 13, 23) := by decide +kernel
theorem d19_23 : cod 19 23 = some (.iload_n 2, 24) := by decide +kernel
theorem d19_24 : cod 19 24 = some (.aload_n 1, 25) := by decide +kernel
theorem d19_25 : cod 19 25 = some (.getfield 58, 28) := by decide +kernel
theorem d19_28 : cod 19 28 = some (.if_icmp .lt 5, 31) := by decide +kernel
theorem d19_31 : cod 19 31 = some (.iconst 0, 32) := by decide +kernel
theorem d19_32 : cod 19 32 = some (.ireturn, 33) := by decide +kernel
theorem d19_33 : cod 19 33 = some (.iconst 0, 34) := by decide +kernel
theorem d19_34 : cod 19 34 = some (.istore 4, 36) := by decide +kernel
theorem d19_36 : cod 19 36 = some (.iload 4, 38) := by decide +kernel
theorem d19_38 : cod 19 38 = some (.aload_n 0, 39) := by decide +kernel
theorem d19_39 : cod 19 39 = some (.invokevirtual 54, 42) := by decide +kernel
theorem d19_42 : cod 19 42 = some (.if_icmp .ge 81, 45) := by decide +kernel
theorem d19_45 : cod 19 45 = some (.iload_n 2, 46) := by decide +kernel
theorem d19_46 : cod 19 46 = some (.iload 4, 48) := by decide +kernel
theorem d19_48 : cod 19 48 = some (.aload_n 0, 49) := by decide +kernel
theorem d19_49 : cod 19 49 = some (.getfield 35, 52) := by decide +kernel
theorem d19_52 : cod 19 52 = some (.idiv, 53) := by decide +kernel
theorem d19_53 : cod 19 53 = some (.aload_n 1, 54) := by decide +kernel
theorem d19_54 : cod 19 54 = some (.getfield 58, 57) := by decide +kernel
theorem d19_57 : cod 19 57 = some (.imul, 58) := by decide +kernel
theorem d19_58 : cod 19 58 = some (.iadd, 59) := by decide +kernel
theorem d19_59 : cod 19 59 = some (.iload 4, 61) := by decide +kernel
theorem d19_61 : cod 19 61 = some (.aload_n 0, 62) := by decide +kernel
theorem d19_62 : cod 19 62 = some (.getfield 35, 65) := by decide +kernel
theorem d19_65 : cod 19 65 = some (.irem, 66) := by decide +kernel
theorem d19_66 : cod 19 66 = some (.iadd, 67) := by decide +kernel
theorem d19_67 : cod 19 67 = some (.istore 5, 69) := by decide +kernel
theorem d19_69 : cod 19 69 = some (.aload_n 1, 70) := by decide +kernel
theorem d19_70 : cod 19 70 = some (.iload 5, 72) := by decide +kernel
theorem d19_72 : cod 19 72 = some (.iload_n 3, 73) := by decide +kernel
theorem d19_73 : cod 19 73 = some (.invokevirtual 61, 76) := by decide +kernel
theorem d19_76 : cod 19 76 = some (.istore 6, 78) := by decide +kernel
theorem d19_78 : cod 19 78 = some (.aload_n 0, 79) := by decide +kernel
theorem d19_79 : cod 19 79 = some (.getfield 9, 82) := by decide +kernel
theorem d19_82 : cod 19 82 = some (.iload 4, 84) := by decide +kernel
theorem d19_84 : cod 19 84 = some (.iaload, 85) := by decide +kernel
theorem d19_85 : cod 19 85 = some (.iload 6, 87) := by decide +kernel
theorem d19_87 : cod 19 87 = some (.iconst (-1), 88) := by decide +kernel
theorem d19_88 : cod 19 88 = some (.ixor, 89) := by decide +kernel
theorem d19_89 : cod 19 89 = some (.iand, 90) := by decide +kernel
theorem d19_90 : cod 19 90 = some (.ifCond .ne 25, 93) := by decide +kernel
theorem d19_93 : cod 19 93 = some (.aload_n 0, 94) := by decide +kernel
theorem d19_94 : cod 19 94 = some (.getfield 15, 97) := by decide +kernel
theorem d19_97 : cod 19 97 = some (.iload 4, 99) := by decide +kernel
theorem d19_99 : cod 19 99 = some (.baload, 100) := by decide +kernel
theorem d19_100 : cod 19 100 = some (.ifCond .eq 17, 103) := by decide +kernel
theorem d19_103 : cod 19 103 = some (.aload_n 0, 104) := by decide +kernel
theorem d19_104 : cod 19 104 = some (.getfield 9, 107) := by decide +kernel
theorem d19_107 : cod 19 107 = some (.iload 4, 109) := by decide +kernel
theorem d19_109 : cod 19 109 = some (.iaload, 110) := by decide +kernel
theorem d19_110 : cod 19 110 = some (.iload 6, 112) := by decide +kernel
theorem d19_112 : cod 19 112 = some (.if_icmp .eq 5, 115) := by decide +kernel
theorem d19_115 : cod 19 115 = some (.iconst 0, 116) := by decide +kernel
theorem d19_116 : cod 19 116 = some (.ireturn, 117) := by decide +kernel
theorem d19_117 : cod 19 117 = some (.iinc 4 1, 120) := by decide +kernel
theorem d19_120 : cod 19 120 = some (.goto (-84), 123) := by decide +kernel
theorem d19_123 : cod 19 123 = some (.iconst 1, 124) := by decide +kernel
theorem d19_124 : cod 19 124 = some (.ireturn, 125) := by decide +kernel
theorem d20_0 : cod 20 0 = some (.aload_n 0, 1) := by decide +kernel
theorem d20_1 : cod 20 1 = some (.getfield 35, 4) := by decide +kernel
theorem d20_4 : cod 20 4 = some (.aload_n 0, 5) := by decide +kernel
theorem d20_5 : cod 20 5 = some (.getfield 38, 8) := by decide +kernel
theorem d20_8 : cod 20 8 = some (.imul, 9) := by decide +kernel
theorem d20_9 : cod 20 9 = some (.ireturn, 10) := by decide +kernel
theorem d21_0 : cod 21 0 = some (.iconst 0, 1) := by decide +kernel
theorem d21_1 : cod 21 1 = some (.istore 4, 3) := by decide +kernel
theorem d21_3 : cod 21 3 = some (.iload 4, 5) := by decide +kernel
theorem d21_5 : cod 21 5 = some (.aload_n 0, 6) := by decide +kernel
theorem d21_6 : cod 21 6 = some (.invokevirtual 54, 9) := by decide +kernel
theorem d21_9 : cod 21 9 = some (.if_icmp .ge 55, 12) := by decide +kernel
theorem d21_12 : cod 21 12 = some (.iload_n 2, 13) := by decide +kernel
theorem d21_13 : cod 21 13 = some (.iload 4, 15) := by decide +kernel
theorem d21_15 : cod 21 15 = some (.aload_n 0, 16) := by decide +kernel
theorem d21_16 : cod 21 16 = some (.getfield 35, 19) := by decide +kernel
theorem d21_19 : cod 21 19 = some (.idiv, 20) := by decide +kernel
theorem d21_20 : cod 21 20 = some (.aload_n 1, 21) := by decide +kernel
theorem d21_21 : cod 21 21 = some (.getfield 58, 24) := by decide +kernel
theorem d21_24 : cod 21 24 = some (.imul, 25) := by decide +kernel
theorem d21_25 : cod 21 25 = some (.iadd, 26) := by decide +kernel
theorem d21_26 : cod 21 26 = some (.iload 4, 28) := by decide +kernel
theorem d21_28 : cod 21 28 = some (.aload_n 0, 29) := by decide +kernel
theorem d21_29 : cod 21 29 = some (.getfield 35, 32) := by decide +kernel
theorem d21_32 : cod 21 32 = some (.irem, 33) := by decide +kernel
theorem d21_33 : cod 21 33 = some (.iadd, 34) := by decide +kernel
theorem d21_34 : cod 21 34 = some (.istore 5, 36) := by decide +kernel
theorem d21_36 : cod 21 36 = some (.aload_n 0, 37) := by decide +kernel
theorem d21_37 : cod 21 37 = some (.getfield 9, 40) := by decide +kernel
theorem d21_40 : cod 21 40 = some (.iload 4, 42) := by decide +kernel
theorem d21_42 : cod 21 42 = some (.aload_n 1, 43) := by decide +kernel
theorem d21_43 : cod 21 43 = some (.iload 5, 45) := by decide +kernel
theorem d21_45 : cod 21 45 = some (.iload_n 3, 46) := by decide +kernel
theorem d21_46 : cod 21 46 = some (.invokevirtual 61, 49) := by decide +kernel
theorem d21_49 : cod 21 49 = some (.iastore, 50) := by decide +kernel
theorem d21_50 : cod 21 50 = some (.aload_n 0, 51) := by decide +kernel
theorem d21_51 : cod 21 51 = some (.getfield 15, 54) := by decide +kernel
theorem d21_54 : cod 21 54 = some (.iload 4, 56) := by decide +kernel
theorem d21_56 : cod 21 56 = some (.iconst 1, 57) := by decide +kernel
theorem d21_57 : cod 21 57 = some (.bastore, 58) := by decide +kernel
theorem d21_58 : cod 21 58 = some (.iinc 4 1, 61) := by decide +kernel
theorem d21_61 : cod 21 61 = some (.goto (-58), 64) := by decide +kernel
theorem d21_64 : cod 21 64 = some (.return_, 65) := by decide +kernel
theorem d22_0 : cod 22 0 = some (.iconst 0, 1) := by decide +kernel
theorem d22_1 : cod 22 1 = some (.istore_n 1, 2) := by decide +kernel
theorem d22_2 : cod 22 2 = some (.iconst 0, 3) := by decide +kernel
theorem d22_3 : cod 22 3 = some (.istore_n 2, 4) := by decide +kernel
theorem d22_4 : cod 22 4 = some (.iload_n 2, 5) := by decide +kernel
theorem d22_5 : cod 22 5 = some (.bipush 8, 7) := by decide +kernel
theorem d22_7 : cod 22 7 = some (.if_icmp .ge 21, 10) := by decide +kernel
theorem d22_10 : cod 22 10 = some (.iload_n 1, 11) := by decide +kernel
theorem d22_11 : cod 22 11 = some (.aload_n 0, 12) := by decide +kernel
theorem d22_12 : cod 22 12 = some (.getfield 19, 15) := by decide +kernel
theorem d22_15 : cod 22 15 = some (.iload_n 2, 16) := by decide +kernel
theorem d22_16 : cod 22 16 = some (.iaload, 17) := by decide +kernel
theorem d22_17 : cod 22 17 = some (.invokestatic 79, 20) := by decide +kernel
theorem d22_20 : cod 22 20 = some (.iadd, 21) := by decide +kernel
theorem d22_21 : cod 22 21 = some (.istore_n 1, 22) := by decide +kernel
theorem d22_22 : cod 22 22 = some (.iinc 2 1, 25) := by decide +kernel
theorem d22_25 : cod 22 25 = some (.goto (-21), 28) := by decide +kernel
theorem d22_28 : cod 22 28 = some (.iload_n 1, 29) := by decide +kernel
theorem d22_29 : cod 22 29 = some (.ireturn, 30) := by decide +kernel
theorem d23_0 : cod 23 0 = some (.iconst 0, 1) := by decide +kernel
theorem d23_1 : cod 23 1 = some (.istore_n 2, 2) := by decide +kernel
theorem d23_2 : cod 23 2 = some (.iconst 0, 3) := by decide +kernel
theorem d23_3 : cod 23 3 = some (.istore_n 3, 4) := by decide +kernel
theorem d23_4 : cod 23 4 = some (.iload_n 3, 5) := by decide +kernel
theorem d23_5 : cod 23 5 = some (.bipush 8, 7) := by decide +kernel
theorem d23_7 : cod 23 7 = some (.if_icmp .ge 26, 10) := by decide +kernel
theorem d23_10 : cod 23 10 = some (.iload_n 3, 11) := by decide +kernel
theorem d23_11 : cod 23 11 = some (.iload_n 1, 12) := by decide +kernel
theorem d23_12 : cod 23 12 = some (.invokestatic 85, 15) := by decide +kernel
theorem d23_15 : cod 23 15 = some (.ifCond .eq 12, 18) := by decide +kernel
theorem d23_18 : cod 23 18 = some (.iload_n 2, 19) := by decide +kernel
theorem d23_19 : cod 23 19 = some (.aload_n 0, 20) := by decide +kernel
theorem d23_20 : cod 23 20 = some (.getfield 19, 23) := by decide +kernel
theorem d23_23 : cod 23 23 = some (.iload_n 3, 24) := by decide +kernel
theorem d23_24 : cod 23 24 = some (.iaload, 25) := by decide +kernel
theorem d23_25 : cod 23 25 = some (.ior, 26) := by decide +kernel
theorem d23_26 : cod 23 26 = some (.istore_n 2, 27) := by decide +kernel
theorem d23_27 : cod 23 27 = some (.iinc 3 1, 30) := by decide +kernel
theorem d23_30 : cod 23 30 = some (.goto (-26), 33) := by decide +kernel
theorem d23_33 : cod 23 33 = some (.iload_n 2, 34) := by decide +kernel
theorem d23_34 : cod 23 34 = some (.ireturn, 35) := by decide +kernel
theorem d24_0 : cod 24 0 = some (.aload_n 0, 1) := by decide +kernel
theorem d24_1 : cod 24 1 = some (.invokevirtual 92, 4) := by decide +kernel
theorem d24_4 : cod 24 4 = some (.ifCond .ne 5, 7) := by decide +kernel
theorem d24_7 : cod 24 7 = some (.iconst (-1), 8) := by decide +kernel
theorem d24_8 : cod 24 8 = some (.ireturn, 9) := by decide +kernel
theorem d24_9 : cod 24 9 = some (.iconst 2, 10) := by decide +kernel
theorem d24_10 : cod 24 10 = some (.istore_n 1, 11) := by decide +kernel
theorem d24_11 : cod 24 11 = some (.aload_n 0, 12) := by decide +kernel
theorem d24_12 : cod 24 12 = some (.getfield 22, 15) := by decide +kernel
theorem d24_15 : cod 24 15 = some (.iconst 0, 16) := by decide +kernel
theorem d24_16 : cod 24 16 = some (.iaload, 17) := by decide +kernel
theorem d24_17 : cod 24 17 = some (.aload_n 0, 18) := by decide +kernel
theorem d24_18 : cod 24 18 = some (.getfield 22, 21) := by decide +kernel
theorem d24_21 : cod 24 21 = some (.iconst 2, 22) := by decide +kernel
theorem d24_22 : cod 24 22 = some (.iaload, 23) := by decide +kernel
theorem d24_23 : cod 24 23 = some (.if_icmp .ne 39, 26) := by decide +kernel
theorem d24_26 : cod 24 26 = some (.aload_n 0, 27) := by decide +kernel
theorem d24_27 : cod 24 27 = some (.getfield 22, 30) := by decide +kernel
theorem d24_30 : cod 24 30 = some (.iconst 1, 31) := by decide +kernel
theorem d24_31 : cod 24 31 = some (.iaload, 32) := by decide +kernel
theorem d24_32 : cod 24 32 = some (.aload_n 0, 33) := by decide +kernel
theorem d24_33 : cod 24 33 = some (.getfield 22, 36) := by decide +kernel
theorem d24_36 : cod 24 36 = some (.iconst 3, 37) := by decide +kernel
theorem d24_37 : cod 24 37 = some (.iaload, 38) := by decide +kernel
theorem d24_38 : cod 24 38 = some (.if_icmp .ne 24, 41) := by decide +kernel
theorem d24_41 : cod 24 41 = some (.aload_n 0, 42) := by decide +kernel
theorem d24_42 : cod 24 42 = some (.getfield 22, 45) := by decide +kernel
theorem d24_45 : cod 24 45 = some (.iconst 0, 46) := by decide +kernel
theorem d24_46 : cod 24 46 = some (.iaload, 47) := by decide +kernel
theorem d24_47 : cod 24 47 = some (.aload_n 0, 48) := by decide +kernel
theorem d24_48 : cod 24 48 = some (.getfield 22, 51) := by decide +kernel
theorem d24_51 : cod 24 51 = some (.iconst 1, 52) := by decide +kernel
theorem d24_52 : cod 24 52 = some (.iaload, 53) := by decide +kernel
theorem d24_53 : cod 24 53 = some (.if_icmp .ne 7, 56) := by decide +kernel
theorem d24_56 : cod 24 56 = some (.iconst 0, 57) := by decide +kernel
theorem d24_57 : cod 24 57 = some (.goto 4, 60) := by decide +kernel
theorem d24_60 : cod 24 60 = some (.iconst 1, 61) := by decide +kernel
theorem d24_61 : cod 24 61 = some (.istore_n 1, 62) := by decide +kernel
theorem d24_62 : cod 24 62 = some (.aload_n 0, 63) := by decide +kernel
theorem d24_63 : cod 24 63 = some (.invokevirtual 101, 66) := by decide +kernel
theorem d24_66 : cod 24 66 = some (.ifCond .eq 9, 69) := by decide +kernel
theorem d24_69 : cod 24 69 = some (.iload_n 1, 70) := by decide +kernel
theorem d24_70 : cod 24 70 = some (.iconst 4, 71) := by decide +kernel
theorem d24_71 : cod 24 71 = some (.iadd, 72) := by decide +kernel
theorem d24_72 : cod 24 72 = some (.goto 4, 75) := by decide +kernel
theorem d24_75 : cod 24 75 = some (.iload_n 1, 76) := by decide +kernel
theorem d24_76 : cod 24 76 = some (.ireturn, 77) := by decide +kernel
theorem d25_0 : cod 25 0 = some (.aload_n 0, 1) := by decide +kernel
theorem d25_1 : cod 25 1 = some (.getfield 22, 4) := by decide +kernel
theorem d25_4 : cod 25 4 = some (.iconst 0, 5) := by decide +kernel
theorem d25_5 : cod 25 5 = some (.iaload, 6) := by decide +kernel
theorem d25_6 : cod 25 6 = some (.ifCond .eq 34, 9) := by decide +kernel
theorem d25_9 : cod 25 9 = some (.aload_n 0, 10) := by decide +kernel
theorem d25_10 : cod 25 10 = some (.getfield 22, 13) := by decide +kernel
theorem d25_13 : cod 25 13 = some (.iconst 1, 14) := by decide +kernel
theorem d25_14 : cod 25 14 = some (.iaload, 15) := by decide +kernel
theorem d25_15 : cod 25 15 = some (.ifCond .eq 25, 18) := by decide +kernel
theorem d25_18 : cod 25 18 = some (.aload_n 0, 19) := by decide +kernel
theorem d25_19 : cod 25 19 = some (.getfield 22, 22) := by decide +kernel
theorem d25_22 : cod 25 22 = some (.iconst 2, 23) := by decide +kernel
theorem d25_23 : cod 25 23 = some (.iaload, 24) := by decide +kernel
theorem d25_24 : cod 25 24 = some (.ifCond .eq 16, 27) := by decide +kernel
theorem d25_27 : cod 25 27 = some (.aload_n 0, 28) := by decide +kernel
theorem d25_28 : cod 25 28 = some (.getfield 22, 31) := by decide +kernel
theorem d25_31 : cod 25 31 = some (.iconst 3, 32) := by decide +kernel
theorem d25_32 : cod 25 32 = some (.iaload, 33) := by decide +kernel
theorem d25_33 : cod 25 33 = some (.ifCond .eq 7, 36) := by decide +kernel
theorem d25_36 : cod 25 36 = some (.iconst 1, 37) := by decide +kernel
theorem d25_37 : cod 25 37 = some (.goto 4, 40) := by decide +kernel
theorem d25_40 : cod 25 40 = some (.iconst 0, 41) := by decide +kernel
theorem d25_41 : cod 25 41 = some (.ireturn, 42) := by decide +kernel
theorem d26_0 : cod 26 0 = some (.aload_n 0, 1) := by decide +kernel
theorem d26_1 : cod 26 1 = some (.invokevirtual 92, 4) := by decide +kernel
theorem d26_4 : cod 26 4 = some (.ifCond .eq 47, 7) := by decide +kernel
theorem d26_7 : cod 26 7 = some (.aload_n 0, 8) := by decide +kernel
theorem d26_8 : cod 26 8 = some (.getfield 22, 11) := by decide +kernel
theorem d26_11 : cod 26 11 = some (.iconst 0, 12) := by decide +kernel
theorem d26_12 : cod 26 12 = some (.iaload, 13) := by decide +kernel
theorem d26_13 : cod 26 13 = some (.aload_n 0, 14) := by decide +kernel
theorem d26_14 : cod 26 14 = some (.getfield 22, 17) := by decide +kernel
theorem d26_17 : cod 26 17 = some (.iconst 2, 18) := by decide +kernel
theorem d26_18 : cod 26 18 = some (.iaload, 19) := by decide +kernel
theorem d26_19 : cod 26 19 = some (.isub, 20) := by decide +kernel
theorem d26_20 : cod 26 20 = some (.invokestatic 96, 23) := by decide +kernel
theorem d26_23 : cod 26 23 = some (.iconst 2, 24) := by decide +kernel
theorem d26_24 : cod 26 24 = some (.if_icmp .ge 23, 27) := by decide +kernel
theorem d26_27 : cod 26 27 = some (.aload_n 0, 28) := by decide +kernel
theorem d26_28 : cod 26 28 = some (.getfield 22, 31) := by decide +kernel
theorem d26_31 : cod 26 31 = some (.iconst 1, 32) := by decide +kernel
theorem d26_32 : cod 26 32 = some (.iaload, 33) := by decide +kernel
theorem d26_33 : cod 26 33 = some (.aload_n 0, 34) := by decide +kernel
theorem d26_34 : cod 26 34 = some (.getfield 22, 37) := by decide +kernel
theorem d26_37 : cod 26 37 = some (.iconst 3, 38) := by decide +kernel
theorem d26_38 : cod 26 38 = some (.iaload, 39) := by decide +kernel
theorem d26_39 : cod 26 39 = some (.isub, 40) := by decide +kernel
theorem d26_40 : cod 26 40 = some (.invokestatic 96, 43) := by decide +kernel
theorem d26_43 : cod 26 43 = some (.iconst 2, 44) := by decide +kernel
theorem d26_44 : cod 26 44 = some (.if_icmp .lt 7, 47) := by decide +kernel
theorem d26_47 : cod 26 47 = some (.iconst 1, 48) := by decide +kernel
theorem d26_48 : cod 26 48 = some (.goto 4, 51) := by decide +kernel
theorem d26_51 : cod 26 51 = some (.iconst 0, 52) := by decide +kernel
theorem d26_52 : cod 26 52 = some (.ireturn, 53) := by decide +kernel
theorem d27_0 : cod 27 0 = some (.iconst 0, 1) := by decide +kernel
theorem d27_1 : cod 27 1 = some (.istore_n 1, 2) := by decide +kernel
theorem d27_2 : cod 27 2 = some (.iconst 0, 3) := by decide +kernel
theorem d27_3 : cod 27 3 = some (.istore_n 2, 4) := by decide +kernel
theorem d27_4 : cod 27 4 = some (.iload_n 2, 5) := by decide +kernel
theorem d27_5 : cod 27 5 = some (.aload_n 0, 6) := by decide +kernel
theorem d27_6 : cod 27 6 = some (.invokevirtual 54, 9) := by decide +kernel
theorem d27_9 : cod 27 9 = some (.if_icmp .ge 21, 12) := by decide +kernel
theorem d27_12 : cod 27 12 = some (.iload_n 1, 13) := by decide +kernel
theorem d27_13 : cod 27 13 = some (.aload_n 0, 14) := by decide +kernel
theorem d27_14 : cod 27 14 = some (.getfield 9, 17) := by decide +kernel
theorem d27_17 : cod 27 17 = some (.iload_n 2, 18) := by decide +kernel
theorem d27_18 : cod 27 18 = some (.iaload, 19) := by decide +kernel
theorem d27_19 : cod 27 19 = some (.invokestatic 79, 22) := by decide +kernel
theorem d27_22 : cod 27 22 = some (.iadd, 23) := by decide +kernel
theorem d27_23 : cod 27 23 = some (.istore_n 1, 24) := by decide +kernel
theorem d27_24 : cod 27 24 = some (.iinc 2 1, 27) := by decide +kernel
theorem d27_27 : cod 27 27 = some (.goto (-23), 30) := by decide +kernel
theorem d27_30 : cod 27 30 = some (.iload_n 1, 31) := by decide +kernel
theorem d27_31 : cod 27 31 = some (.ireturn, 32) := by decide +kernel
theorem d28_0 : cod 28 0 = some (.aload_n 0, 1) := by decide +kernel
theorem d28_1 : cod 28 1 = some (.invokespecial 3, 4) := by decide +kernel
theorem d28_4 : cod 28 4 = some (.aload_n 0, 5) := by decide +kernel
theorem d28_5 : cod 28 5 = some (.sipush 192, 8) := by decide +kernel
theorem d28_8 : cod 28 8 = some (.newarray .int, 10) := by decide +kernel
theorem d28_10 : cod 28 10 = some (.putfield 9, 13) := by decide +kernel
theorem d28_13 : cod 28 13 = some (.return_, 14) := by decide +kernel
theorem d29_0 : cod 29 0 = some (.aload_n 0, 1) := by decide +kernel
theorem d29_1 : cod 29 1 = some (.iload_n 1, 2) := by decide +kernel
theorem d29_2 : cod 29 2 = some (.putfield 15, 5) := by decide +kernel
theorem d29_5 : cod 29 5 = some (.aload_n 0, 6) := by decide +kernel
theorem d29_6 : cod 29 6 = some (.iload_n 2, 7) := by decide +kernel
theorem d29_7 : cod 29 7 = some (.putfield 19, 10) := by decide +kernel
theorem d29_10 : cod 29 10 = some (.aload_n 0, 11) := by decide +kernel
theorem d29_11 : cod 29 11 = some (.iconst 0, 12) := by decide +kernel
theorem d29_12 : cod 29 12 = some (.putfield 22, 15) := by decide +kernel
theorem d29_15 : cod 29 15 = some (.aload_n 0, 16) := by decide +kernel
theorem d29_16 : cod 29 16 = some (.getfield 9, 19) := by decide +kernel
theorem d29_19 : cod 29 19 = some (.iconst 0, 20) := by decide +kernel
theorem d29_20 : cod 29 20 = some (.invokestatic 25, 23) := by decide +kernel
theorem d29_23 : cod 29 23 = some (.return_, 24) := by decide +kernel
theorem d30_0 : cod 30 0 = some (.aload_n 0, 1) := by decide +kernel
theorem d30_1 : cod 30 1 = some (.getfield 15, 4) := by decide +kernel
theorem d30_4 : cod 30 4 = some (.aload_n 0, 5) := by decide +kernel
theorem d30_5 : cod 30 5 = some (.getfield 19, 8) := by decide +kernel
theorem d30_8 : cod 30 8 = some (.imul, 9) := by decide +kernel
theorem d30_9 : cod 30 9 = some (.ireturn, 10) := by decide +kernel
theorem d31_0 : cod 31 0 = some (.iload_n 1, 1) := by decide +kernel
theorem d31_1 : cod 31 1 = some (.istore_n 2, 2) := by decide +kernel
theorem d31_2 : cod 31 2 = some (.iconst 0, 3) := by decide +kernel
theorem d31_3 : cod 31 3 = some (.istore_n 3, 4) := by decide +kernel
theorem d31_4 : cod 31 4 = some (.iload_n 3, 5) := by decide +kernel
theorem d31_5 : cod 31 5 = some (.aload_n 0, 6) := by decide +kernel
theorem d31_6 : cod 31 6 = some (.invokevirtual 31, 9) := by decide +kernel
theorem d31_9 : cod 31 9 = some (.if_icmp .ge 92, 12) := by decide +kernel
theorem d31_12 : cod 31 12 = some (.iload_n 2, 13) := by decide +kernel
theorem d31_13 : cod 31 13 = some (.invokestatic 43, 16) := by decide +kernel
theorem d31_16 : cod 31 16 = some (.istore_n 2, 17) := by decide +kernel
theorem d31_17 : cod 31 17 = some (.iload_n 2, 18) := by decide +kernel
theorem d31_18 : cod 31 18 = some (.iconst 3, 19) := by decide +kernel
theorem d31_19 : cod 31 19 = some (.irem, 20) := by decide +kernel
theorem d31_20 : cod 31 20 = some (.istore 4, 22) := by decide +kernel
theorem d31_22 : cod 31 22 = some (.iconst 0, 23) := by decide +kernel
theorem d31_23 : cod 31 23 = some (.istore 5, 25) := by decide +kernel
theorem d31_25 : cod 31 25 = some (.iload 5, 27) := by decide +kernel
theorem d31_27 : cod 31 27 = some (.iload 4, 29) := by decide +kernel
theorem d31_29 : cod 31 29 = some (.if_icmp .ge 66, 32) := by decide +kernel
theorem d31_32 : cod 31 32 = some (.aload_n 0, 33) := by decide +kernel
theorem d31_33 : cod 31 33 = some (.getfield 22, 36) := by decide +kernel
theorem d31_36 : cod 31 36 = some (.bipush 60, 38) := by decide +kernel
theorem d31_38 : cod 31 38 = some (.if_icmp .ge 57, 41) := by decide +kernel
theorem d31_41 : cod 31 41 = some (.iload_n 2, 42) := by decide +kernel
theorem d31_42 : cod 31 42 = some (.invokestatic 43, 45) := by decide +kernel
theorem d31_45 : cod 31 45 = some (.istore_n 2, 46) := by decide +kernel
theorem d31_46 : cod 31 46 = some (.iload_n 2, 47) := by decide +kernel
theorem d31_47 : cod 31 47 = some (.bipush 10, 49) := by decide +kernel
theorem d31_49 : cod 31 49 = some (.irem, 50) := by decide +kernel
theorem d31_50 : cod 31 50 = some (.istore 6, 52) := by decide +kernel
theorem d31_52 : cod 31 52 = some (.iload_n 2, 53) := by decide +kernel
theorem d31_53 : cod 31 53 = some (.invokestatic 43, 56) := by decide +kernel
theorem d31_56 : cod 31 56 = some (.istore_n 2, 57) := by decide +kernel
theorem d31_57 : cod 31 57 = some (.iload_n 2, 58) := by decide +kernel
theorem d31_58 : cod 31 58 = some (.bipush 8, 60) := by decide +kernel
theorem d31_60 : cod 31 60 = some (.irem, 61) := by decide +kernel
theorem d31_61 : cod 31 61 = some (.istore 7, 63) := by decide +kernel
theorem d31_63 : cod 31 63 = some (.iload_n 2, 64) := by decide +kernel
theorem d31_64 : cod 31 64 = some (.invokestatic 43, 67) := by decide +kernel
theorem d31_67 : cod 31 67 = some (.istore_n 2, 68) := by decide +kernel
theorem d31_68 : cod 31 68 = some (.aload_n 0, 69) := by decide +kernel
theorem d31_69 : cod 31 69 = some (.iload_n 3, 70) := by decide +kernel
theorem d31_70 : cod 31 70 = some (.iload 6, 72) := by decide +kernel
theorem d31_72 : cod 31 72 = some (.iload 7, 74) := by decide +kernel
theorem d31_74 : cod 31 74 = some (.iload 7, 76) := by decide +kernel
theorem d31_76 : cod 31 76 = some (.iload_n 2, 77) := by decide +kernel
theorem d31_77 : cod 31 77 = some (.bipush 8, 79) := by decide +kernel
theorem d31_79 : cod 31 79 = some (.irem, 80) := by decide +kernel
theorem d31_80 : cod 31 80 = some (.iadd, 81) := by decide +kernel
theorem d31_81 : cod 31 81 = some (.bipush 7, 83) := by decide +kernel
theorem d31_83 : cod 31 83 = some (.invokestatic 47, 86) := by decide +kernel
theorem d31_86 : cod 31 86 = some (.invokevirtual 53, 89) := by decide +kernel
theorem d31_89 : cod 31 89 = some (.iinc 5 1, 92) := by decide +kernel
theorem d31_92 : cod 31 92 = some (.goto (-67), 95) := by decide +kernel
theorem d31_95 : cod 31 95 = some (.iinc 3 1, 98) := by decide +kernel
theorem d31_98 : cod 31 98 = some (.goto (-94), 101) := by decide +kernel
theorem d31_101 : cod 31 101 = some (.return_, 102) := by decide +kernel
theorem d32_0 : cod 32 0 = some (.bipush 43, 2) := by decide +kernel
theorem d32_2 : cod 32 2 = some (.iload_n 0, 3) := by decide +kernel
theorem d32_3 : cod 32 3 = some (.imul, 4) := by decide +kernel
theorem d32_4 : cod 32 4 = some (.bipush 31, 6) := by decide +kernel
theorem d32_6 : cod 32 6 = some (.iadd, 7) := by decide +kernel
theorem d32_7 : cod 32 7 = some (.bipush 107, 9) := by decide +kernel
theorem d32_9 : cod 32 9 = some (.irem, 10) := by decide +kernel
theorem d32_10 : cod 32 10 = some (.ireturn, 11) := by decide +kernel
theorem d33_0 : cod 33 0 = some (.iload_n 3, 1) := by decide +kernel
theorem d33_1 : cod 33 1 = some (.istore 5, 3) := by decide +kernel
theorem d33_3 : cod 33 3 = some (.iload 5, 5) := by decide +kernel
theorem d33_5 : cod 33 5 = some (.iload 4, 7) := by decide +kernel
theorem d33_7 : cod 33 7 = some (.if_icmp .gt 27, 10) := by decide +kernel
theorem d33_10 : cod 33 10 = some (.aload_n 0, 11) := by decide +kernel
theorem d33_11 : cod 33 11 = some (.getfield 9, 14) := by decide +kernel
theorem d33_14 : cod 33 14 = some (.iload_n 1, 15) := by decide +kernel
theorem d33_15 : cod 33 15 = some (.bipush 8, 17) := by decide +kernel
theorem d33_17 : cod 33 17 = some (.imul, 18) := by decide +kernel
theorem d33_18 : cod 33 18 = some (.iload 5, 20) := by decide +kernel
theorem d33_20 : cod 33 20 = some (.iadd, 21) := by decide +kernel
theorem d33_21 : cod 33 21 = some (.dup2, 22) := by decide +kernel
theorem d33_22 : cod 33 22 = some (.iaload, 23) := by decide +kernel
theorem d33_23 : cod 33 23 = some (.iconst 1, 24) := by decide +kernel
theorem d33_24 : cod 33 24 = some (.iload_n 2, 25) := by decide +kernel
theorem d33_25 : cod 33 25 = some (.ishl, 26) := by decide +kernel
theorem d33_26 : cod 33 26 = some (.ior, 27) := by decide +kernel
theorem d33_27 : cod 33 27 = some (.iastore, 28) := by decide +kernel
theorem d33_28 : cod 33 28 = some (.iinc 5 1, 31) := by decide +kernel
theorem d33_31 : cod 33 31 = some (.goto (-28), 34) := by decide +kernel
theorem d33_34 : cod 33 34 = some (.aload_n 0, 35) := by decide +kernel
theorem d33_35 : cod 33 35 = some (.dup, 36) := by decide +kernel
theorem d33_36 : cod 33 36 = some (.getfield 22, 39) := by decide +kernel
theorem d33_39 : cod 33 39 = some (.iconst 1, 40) := by decide +kernel
theorem d33_40 : cod 33 40 = some (.iadd, 41) := by decide +kernel
theorem d33_41 : cod 33 41 = some (.putfield 22, 44) := by decide +kernel
theorem d33_44 : cod 33 44 = some (.return_, 45) := by decide +kernel
theorem d34_0 : cod 34 0 = some (.aload_n 0, 1) := by decide +kernel
theorem d34_1 : cod 34 1 = some (.getfield 15, 4) := by decide +kernel
theorem d34_4 : cod 34 4 = some (.iconst 1, 5) := by decide +kernel
theorem d34_5 : cod 34 5 = some (.if_icmp .lt 11, 8) := by decide +kernel
theorem d34_8 : cod 34 8 = some (.aload_n 0, 9) := by decide +kernel
theorem d34_9 : cod 34 9 = some (.iload_n 1, 10) := by decide +kernel
theorem d34_10 : cod 34 10 = some (.invokevirtual 39, 13) := by decide +kernel
theorem d34_13 : cod 34 13 = some (.ifCond .ne 5, 16) := by decide +kernel
theorem d34_16 : cod 34 16 = some (.iconst 0, 17) := by decide +kernel
theorem d34_17 : cod 34 17 = some (.ireturn, 18) := by decide +kernel
theorem d34_18 : cod 34 18 = some (.iload_n 1, 19) := by decide +kernel
theorem d34_19 : cod 34 19 = some (.aload_n 0, 20) := by decide +kernel
theorem d34_20 : cod 34 20 = some (.getfield 15, 23) := by decide +kernel
theorem d34_23 : cod 34 23 = some (.irem, 24) := by decide +kernel
theorem d34_24 : cod 34 24 = some (.iload_n 2, 25) := by decide +kernel
theorem d34_25 : cod 34 25 = some (.iadd, 26) := by decide +kernel
theorem d34_26 : cod 34 26 = some (.aload_n 0, 27) := by decide +kernel
theorem d34_27 : cod 34 27 = some (.getfield 15, 30) := by decide +kernel
theorem d34_30 : cod 34 30 = some (.if_icmp .gt 22, 33) := by decide +kernel
theorem d34_33 : cod 34 33 = some (.iload_n 1, 34) := by decide +kernel
theorem d34_34 : cod 34 34 = some (.aload_n 0, 35) := by decide +kernel
theorem d34_35 : cod 34 35 = some (.getfield 15, 38) := by decide +kernel
theorem d34_38 : cod 34 38 = some (.idiv, 39) := by decide +kernel
theorem d34_39 : cod 34 39 = some (.iload_n 3, 40) := by decide +kernel
theorem d34_40 : cod 34 40 = some (.iadd, 41) := by decide +kernel
theorem d34_41 : cod 34 41 = some (.aload_n 0, 42) := by decide +kernel
theorem d34_42 : cod 34 42 = some (.getfield 19, 45) := by decide +kernel
theorem d34_45 : cod 34 45 = some (.if_icmp .gt 7, 48) := by decide +kernel
theorem d34_48 : cod 34 48 = some (.iconst 1, 49) := by decide +kernel
theorem d34_49 : cod 34 49 = some (.goto 4, 52) := by decide +kernel
theorem d34_52 : cod 34 52 = some (.iconst 0, 53) := by decide +kernel
theorem d34_53 : cod 34 53 = some (.ireturn, 54) := by decide +kernel
theorem d35_0 : cod 35 0 = some (.iload_n 1, 1) := by decide +kernel
theorem d35_1 : cod 35 1 = some (.iconst 0, 2) := by decide +kernel
theorem d35_2 : cod 35 2 = some (.aload_n 0, 3) := by decide +kernel
theorem d35_3 : cod 35 3 = some (.invokevirtual 31, 6) := by decide +kernel
theorem d35_6 : cod 35 6 = some (.iconst 1, 7) := by decide +kernel
theorem d35_7 : cod 35 7 = some (.isub, 8) := by decide +kernel
theorem d35_8 : cod 35 8 = some (.invokestatic 35, 11) := by decide +kernel
theorem d35_11 : cod 35 11 = some (.ireturn, 12) := by decide +kernel
theorem d36_0 : cod 36 0 = some (.aload_n 0, 1) := by decide +kernel
theorem d36_1 : cod 36 1 = some (.getfield 9, 4) := by decide +kernel
theorem d36_4 : cod 36 4 = some (.iload_n 1, 5) := by decide +kernel
theorem d36_5 : cod 36 5 = some (.bipush 8, 7) := by decide +kernel
theorem d36_7 : cod 36 7 = some (.imul, 8) := by decide +kernel
theorem d36_8 : cod 36 8 = some (.iload_n 2, 9) := by decide +kernel
theorem d36_9 : cod 36 9 = some (.iadd, 10) := by decide +kernel
theorem d36_10 : cod 36 10 = some (.iaload, 11) := by decide +kernel
theorem d36_11 : cod 36 11 = some (.ireturn, 12) := by decide +kernel
theorem d37_0 : cod 37 0 = some (.aload_n 0, 1) := by decide +kernel
theorem d37_1 : cod 37 1 = some (.invokespecial 3, 4) := by decide +kernel
theorem d37_4 : cod 37 4 = some (.aload_n 0, 5) := by decide +kernel
theorem d37_5 : cod 37 5 = some (.bipush 36, 7) := by decide +kernel
theorem d37_7 : cod 37 7 = some (.newarray .int, 9) := by decide +kernel
theorem d37_9 : cod 37 9 = some (.putfield 9, 12) := by decide +kernel
theorem d37_12 : cod 37 12 = some (.aload_n 0, 13) := by decide +kernel
theorem d37_13 : cod 37 13 = some (.bipush 36, 15) := by decide +kernel
theorem d37_15 : cod 37 15 = some (.newarray .int, 17) := by decide +kernel
theorem d37_17 : cod 37 17 = some (.putfield 15, 20) := by decide +kernel
theorem d37_20 : cod 37 20 = some (.aload_n 0, 21) := by decide +kernel
theorem d37_21 : cod 37 21 = some (.bipush 16, 23) := by decide +kernel
theorem d37_23 : cod 37 23 = some (.newarray .int, 25) := by decide +kernel
theorem d37_25 : cod 37 25 = some (.putfield 18, 28) := by decide +kernel
theorem d37_28 : cod 37 28 = some (.aload_n 0, 29) := by decide +kernel
theorem d37_29 : cod 37 29 = some (.bipush 16, 31) := by decide +kernel
theorem d37_31 : cod 37 31 = some (.newarray .int, 33) := by decide +kernel
theorem d37_33 : cod 37 33 = some (.putfield 21, 36) := by decide +kernel
theorem d37_36 : cod 37 36 = some (.aload_n 0, 37) := by decide +kernel
theorem d37_37 : cod 37 37 = some (.bipush 16, 39) := by decide +kernel
theorem d37_39 : cod 37 39 = some (.newarray .int, 41) := by decide +kernel
theorem d37_41 : cod 37 41 = some (.putfield 24, 44) := by decide +kernel
theorem d37_44 : cod 37 44 = some (.aload_n 0, 45) := by decide +kernel
theorem d37_45 : cod 37 45 = some (.bipush 16, 47) := by decide +kernel
theorem d37_47 : cod 37 47 = some (.newarray .int, 49) := by decide +kernel
theorem d37_49 : cod 37 49 = some (.putfield 27, 52) := by decide +kernel
theorem d37_52 : cod 37 52 = some (.aload_n 0, 53) := by decide +kernel
theorem d37_53 : cod 37 53 = some (.getfield 15, 56) := by decide +kernel
theorem d37_56 : cod 37 56 = some (.sipush 1000, 59) := by decide +kernel
theorem d37_59 : cod 37 59 = some (.invokestatic 30, 62) := by decide +kernel
theorem d37_62 : cod 37 62 = some (.iconst 0, 63) := by decide +kernel
theorem d37_63 : cod 37 63 = some (.istore_n 1, 64) := by decide +kernel
theorem d37_64 : cod 37 64 = some (.iload_n 1, 65) := by decide +kernel
theorem d37_65 : cod 37 65 = some (.bipush 6, 67) := by decide +kernel
theorem d37_67 : cod 37 67 = some (.if_icmp .ge 21, 70) := by decide +kernel
theorem d37_70 : cod 37 70 = some (.aload_n 0, 71) := by decide +kernel
theorem d37_71 : cod 37 71 = some (.getfield 15, 74) := by decide +kernel
theorem d37_74 : cod 37 74 = some (.iload_n 1, 75) := by decide +kernel
theorem d37_75 : cod 37 75 = some (.bipush 6, 77) := by decide +kernel
theorem d37_77 : cod 37 77 = some (.imul, 78) := by decide +kernel
theorem d37_78 : cod 37 78 = some (.iload_n 1, 79) := by decide +kernel
theorem d37_79 : cod 37 79 = some (.iadd, 80) := by decide +kernel
theorem d37_80 : cod 37 80 = some (.iconst 0, 81) := by decide +kernel
theorem d37_81 : cod 37 81 = some (.iastore, 82) := by decide +kernel
theorem d37_82 : cod 37 82 = some (.iinc 1 1, 85) := by decide +kernel
theorem d37_85 : cod 37 85 = some (.goto (-21), 88) := by decide +kernel
theorem d37_88 : cod 37 88 = some (.return_, 89) := by decide +kernel
theorem d38_0 : cod 38 0 = some (.aload_n 0, 1) := by decide +kernel
theorem d38_1 : cod 38 1 = some (.getfield 18, 4) := by decide +kernel
theorem d38_4 : cod 38 4 = some (.aload_n 0, 5) := by decide +kernel
theorem d38_5 : cod 38 5 = some (.getfield 46, 8) := by decide +kernel
theorem d38_8 : cod 38 8 = some (.iload_n 1, 9) := by decide +kernel
theorem d38_9 : cod 38 9 = some (.iastore, 10) := by decide +kernel
theorem d38_10 : cod 38 10 = some (.aload_n 0, 11) := by decide +kernel
theorem d38_11 : cod 38 11 = some (.getfield 21, 14) := by decide +kernel
theorem d38_14 : cod 38 14 = some (.aload_n 0, 15) := by decide +kernel
theorem d38_15 : cod 38 15 = some (.getfield 46, 18) := by decide +kernel
theorem d38_18 : cod 38 18 = some (.iload_n 2, 19) := by decide +kernel
theorem d38_19 : cod 38 19 = some (.iastore, 20) := by decide +kernel
theorem d38_20 : cod 38 20 = some (.aload_n 0, 21) := by decide +kernel
theorem d38_21 : cod 38 21 = some (.getfield 24, 24) := by decide +kernel
theorem d38_24 : cod 38 24 = some (.aload_n 0, 25) := by decide +kernel
theorem d38_25 : cod 38 25 = some (.getfield 46, 28) := by decide +kernel
theorem d38_28 : cod 38 28 = some (.iload_n 3, 29) := by decide +kernel
theorem d38_29 : cod 38 29 = some (.iastore, 30) := by decide +kernel
theorem d38_30 : cod 38 30 = some (.aload_n 0, 31) := by decide +kernel
theorem d38_31 : cod 38 31 = some (.getfield 27, 34) := by decide +kernel
theorem d38_34 : cod 38 34 = some (.aload_n 0, 35) := by decide +kernel
theorem d38_35 : cod 38 35 = some (.getfield 46, 38) := by decide +kernel
theorem d38_38 : cod 38 38 = some (.iload 4, 40) := by decide +kernel
theorem d38_40 : cod 38 40 = some (.iastore, 41) := by decide +kernel
theorem d38_41 : cod 38 41 = some (.aload_n 0, 42) := by decide +kernel
theorem d38_42 : cod 38 42 = some (.dup, 43) := by decide +kernel
theorem d38_43 : cod 38 43 = some (.getfield 46, 46) := by decide +kernel
theorem d38_46 : cod 38 46 = some (.iconst 1, 47) := by decide +kernel
theorem d38_47 : cod 38 47 = some (.iadd, 48) := by decide +kernel
theorem d38_48 : cod 38 48 = some (.putfield 46, 51) := by decide +kernel
theorem d38_51 : cod 38 51 = some (.aload_n 0, 52) := by decide +kernel
theorem d38_52 : cod 38 52 = some (.getfield 46, 55) := by decide +kernel
theorem d38_55 : cod 38 55 = some (.iconst 1, 56) := by decide +kernel
theorem d38_56 : cod 38 56 = some (.isub, 57) := by decide +kernel
theorem d38_57 : cod 38 57 = some (.ireturn, 58) := by decide +kernel
theorem d39_0 : cod 39 0 = some (.aload_n 0, 1) := by decide +kernel
theorem d39_1 : cod 39 1 = some (.getfield 9, 4) := by decide +kernel
theorem d39_4 : cod 39 4 = some (.iload_n 1, 5) := by decide +kernel
theorem d39_5 : cod 39 5 = some (.bipush 6, 7) := by decide +kernel
theorem d39_7 : cod 39 7 = some (.imul, 8) := by decide +kernel
theorem d39_8 : cod 39 8 = some (.iload_n 2, 9) := by decide +kernel
theorem d39_9 : cod 39 9 = some (.iadd, 10) := by decide +kernel
theorem d39_10 : cod 39 10 = some (.iload_n 3, 11) := by decide +kernel
theorem d39_11 : cod 39 11 = some (.iastore, 12) := by decide +kernel
theorem d39_12 : cod 39 12 = some (.aload_n 0, 13) := by decide +kernel
theorem d39_13 : cod 39 13 = some (.getfield 9, 16) := by decide +kernel
theorem d39_16 : cod 39 16 = some (.iload_n 2, 17) := by decide +kernel
theorem d39_17 : cod 39 17 = some (.bipush 6, 19) := by decide +kernel
theorem d39_19 : cod 39 19 = some (.imul, 20) := by decide +kernel
theorem d39_20 : cod 39 20 = some (.iload_n 1, 21) := by decide +kernel
theorem d39_21 : cod 39 21 = some (.iadd, 22) := by decide +kernel
theorem d39_22 : cod 39 22 = some (.iload_n 3, 23) := by decide +kernel
theorem d39_23 : cod 39 23 = some (.iastore, 24) := by decide +kernel
theorem d39_24 : cod 39 24 = some (.iconst 0, 25) := by decide +kernel
theorem d39_25 : cod 39 25 = some (.istore 4, 27) := by decide +kernel
theorem d39_27 : cod 39 27 = some (.iload 4, 29) := by decide +kernel
theorem d39_29 : cod 39 29 = some (.bipush 6, 31) := by decide +kernel
theorem d39_31 : cod 39 31 = some (.if_icmp .ge 77, 34) := by decide +kernel
theorem d39_34 : cod 39 34 = some (.iconst 0, 35) := by decide +kernel
theorem d39_35 : cod 39 35 = some (.istore 5, 37) := by decide +kernel
theorem d39_37 : cod 39 37 = some (.iload 5, 39) := by decide +kernel
theorem d39_39 : cod 39 39 = some (.bipush 6, 41) := by decide +kernel
theorem d39_41 : cod 39 41 = some (.if_icmp .ge 61, 44) := by decide +kernel
theorem d39_44 : cod 39 44 = some (.aload_n 0, 45) := by decide +kernel
theorem d39_45 : cod 39 45 = some (.getfield 9, 48) := by decide +kernel
theorem d39_48 : cod 39 48 = some (.iload 4, 50) := by decide +kernel
theorem d39_50 : cod 39 50 = some (.bipush 6, 52) := by decide +kernel
theorem d39_52 : cod 39 52 = some (.imul, 53) := by decide +kernel
theorem d39_53 : cod 39 53 = some (.iload 5, 55) := by decide +kernel
theorem d39_55 : cod 39 55 = some (.iadd, 56) := by decide +kernel
theorem d39_56 : cod 39 56 = some (.iaload, 57) := by decide +kernel
theorem d39_57 : cod 39 57 = some (.istore 6, 59) := by decide +kernel
theorem d39_59 : cod 39 59 = some (.aload_n 0, 60) := by decide +kernel
theorem d39_60 : cod 39 60 = some (.getfield 15, 63) := by decide +kernel
theorem d39_63 : cod 39 63 = some (.iload 4, 65) := by decide +kernel
theorem d39_65 : cod 39 65 = some (.bipush 6, 67) := by decide +kernel
theorem d39_67 : cod 39 67 = some (.imul, 68) := by decide +kernel
theorem d39_68 : cod 39 68 = some (.iload 5, 70) := by decide +kernel
theorem d39_70 : cod 39 70 = some (.iadd, 71) := by decide +kernel
theorem d39_71 : cod 39 71 = some (.iload 4, 73) := by decide +kernel
theorem d39_73 : cod 39 73 = some (.iload 5, 75) := by decide +kernel
theorem d39_75 : cod 39 75 = some (.if_icmp .ne 7, 78) := by decide +kernel
theorem d39_78 : cod 39 78 = some (.iconst 0, 79) := by decide +kernel
theorem d39_79 : cod 39 79 = some (.goto 16, 82) := by decide +kernel
theorem d39_82 : cod 39 82 = some (.iload 6, 84) := by decide +kernel
theorem d39_84 : cod 39 84 = some (.ifCond .ne 9, 87) := by decide +kernel
theorem d39_87 : cod 39 87 = some (.sipush 1000, 90) := by decide +kernel
theorem d39_90 : cod 39 90 = some (.goto 5, 93) := by decide +kernel
theorem d39_93 : cod 39 93 = some (.iload 6, 95) := by decide +kernel
theorem d39_95 : cod 39 95 = some (.iastore, 96) := by decide +kernel
theorem d39_96 : cod 39 96 = some (.iinc 5 1, 99) := by decide +kernel
theorem d39_99 : cod 39 99 = some (.goto (-62), 102) := by decide +kernel
theorem d39_102 : cod 39 102 = some (.iinc 4 1, 105) := by decide +kernel
theorem d39_105 : cod 39 105 = some (.goto (-78), 108) := by decide +kernel
theorem d39_108 : cod 39 108 = some (.iconst 0, 109) := by decide +kernel
theorem d39_109 : cod 39 109 = some (.istore 4, 111) := by decide +kernel
theorem d39_111 : cod 39 111 = some (.iload 4, 113) := by decide +kernel
theorem d39_113 : cod 39 113 = some (.bipush 6, 115) := by decide +kernel
theorem d39_115 : cod 39 115 = some (.if_icmp .ge 15, 118) := by decide +kernel
theorem d39_118 : cod 39 118 = some (.aload_n 0, 119) := by decide +kernel
theorem d39_119 : cod 39 119 = some (.iload 4, 121) := by decide +kernel
theorem d39_121 : cod 39 121 = some (.invokevirtual 36, 124) := by decide +kernel
theorem d39_124 : cod 39 124 = some (.iinc 4 1, 127) := by decide +kernel
theorem d39_127 : cod 39 127 = some (.goto (-16), 130) := by decide +kernel
theorem d39_130 : cod 39 130 = some (.return_, 131) := by decide +kernel
theorem d40_0 : cod 40 0 = some (.iconst 0, 1) := by decide +kernel
theorem d40_1 : cod 40 1 = some (.istore_n 2, 2) := by decide +kernel
theorem d40_2 : cod 40 2 = some (.iload_n 2, 3) := by decide +kernel
theorem d40_3 : cod 40 3 = some (.bipush 6, 5) := by decide +kernel
theorem d40_5 : cod 40 5 = some (.if_icmp .ge 75, 8) := by decide +kernel
theorem d40_8 : cod 40 8 = some (.iconst 0, 9) := by decide +kernel
theorem d40_9 : cod 40 9 = some (.istore_n 3, 10) := by decide +kernel
theorem d40_10 : cod 40 10 = some (.iload_n 3, 11) := by decide +kernel
theorem d40_11 : cod 40 11 = some (.bipush 6, 13) := by decide +kernel
theorem d40_13 : cod 40 13 = some (.if_icmp .ge 61, 16) := by decide +kernel
theorem d40_16 : cod 40 16 = some (.aload_n 0, 17) := by decide +kernel
theorem d40_17 : cod 40 17 = some (.getfield 15, 20) := by decide +kernel
theorem d40_20 : cod 40 20 = some (.iload_n 2, 21) := by decide +kernel
theorem d40_21 : cod 40 21 = some (.bipush 6, 23) := by decide +kernel
theorem d40_23 : cod 40 23 = some (.imul, 24) := by decide +kernel
theorem d40_24 : cod 40 24 = some (.iload_n 1, 25) := by decide +kernel
theorem d40_25 : cod 40 25 = some (.iadd, 26) := by decide +kernel
theorem d40_26 : cod 40 26 = some (.iaload, 27) := by decide +kernel
theorem d40_27 : cod 40 27 = some (.aload_n 0, 28) := by decide +kernel
theorem d40_28 : cod 40 28 = some (.getfield 15, 31) := by decide +kernel
theorem d40_31 : cod 40 31 = some (.iload_n 1, 32) := by decide +kernel
theorem d40_32 : cod 40 32 = some (.bipush 6, 34) := by decide +kernel
theorem d40_34 : cod 40 34 = some (.imul, 35) := by decide +kernel
theorem d40_35 : cod 40 35 = some (.iload_n 3, 36) := by decide +kernel
theorem d40_36 : cod 40 36 = some (.iadd, 37) := by decide +kernel
theorem d40_37 : cod 40 37 = some (.iaload, 38) := by decide +kernel
theorem d40_38 : cod 40 38 = some (.iadd, 39) := by decide +kernel
theorem d40_39 : cod 40 39 = some (.istore 4, 41) := by decide +kernel
theorem d40_41 : cod 40 41 = some (.aload_n 0, 42) := by decide +kernel
theorem d40_42 : cod 40 42 = some (.getfield 15, 45) := by decide +kernel
theorem d40_45 : cod 40 45 = some (.iload_n 2, 46) := by decide +kernel
theorem d40_46 : cod 40 46 = some (.bipush 6, 48) := by decide +kernel
theorem d40_48 : cod 40 48 = some (.imul, 49) := by decide +kernel
theorem d40_49 : cod 40 49 = some (.iload_n 3, 50) := by decide +kernel
theorem d40_50 : cod 40 50 = some (.iadd, 51) := by decide +kernel
theorem d40_51 : cod 40 51 = some (.aload_n 0, 52) := by decide +kernel
theorem d40_52 : cod 40 52 = some (.getfield 15, 55) := by decide +kernel
theorem d40_55 : cod 40 55 = some (.iload_n 2, 56) := by decide +kernel
theorem d40_56 : cod 40 56 = some (.bipush 6, 58) := by decide +kernel
theorem d40_58 : cod 40 58 = some (.imul, 59) := by decide +kernel
theorem d40_59 : cod 40 59 = some (.iload_n 3, 60) := by decide +kernel
theorem d40_60 : cod 40 60 = some (.iadd, 61) := by decide +kernel
theorem d40_61 : cod 40 61 = some (.iaload, 62) := by decide +kernel
theorem d40_62 : cod 40 62 = some (.iload 4, 64) := by decide +kernel
theorem d40_64 : cod 40 64 = some (.invokestatic 40, 67) := by decide +kernel
theorem d40_67 : cod 40 67 = some (.iastore, 68) := by decide +kernel
theorem d40_68 : cod 40 68 = some (.iinc 3 1, 71) := by decide +kernel
theorem d40_71 : cod 40 71 = some (.goto (-61), 74) := by decide +kernel
theorem d40_74 : cod 40 74 = some (.iinc 2 1, 77) := by decide +kernel
theorem d40_77 : cod 40 77 = some (.goto (-75), 80) := by decide +kernel
theorem d40_80 : cod 40 80 = some (.return_, 81) := by decide +kernel
theorem d41_0 : cod 41 0 = some (.aload_n 0, 1) := by decide +kernel
theorem d41_1 : cod 41 1 = some (.getfield 15, 4) := by decide +kernel
theorem d41_4 : cod 41 4 = some (.iload_n 1, 5) := by decide +kernel
theorem d41_5 : cod 41 5 = some (.bipush 6, 7) := by decide +kernel
theorem d41_7 : cod 41 7 = some (.imul, 8) := by decide +kernel
theorem d41_8 : cod 41 8 = some (.iload_n 2, 9) := by decide +kernel
theorem d41_9 : cod 41 9 = some (.iadd, 10) := by decide +kernel
theorem d41_10 : cod 41 10 = some (.iaload, 11) := by decide +kernel
theorem d41_11 : cod 41 11 = some (.istore_n 3, 12) := by decide +kernel
theorem d41_12 : cod 41 12 = some (.iload_n 3, 13) := by decide +kernel
theorem d41_13 : cod 41 13 = some (.sipush 1000, 16) := by decide +kernel
theorem d41_16 : cod 41 16 = some (.if_icmp .ge 7, 19) := by decide +kernel
theorem d41_19 : cod 41 19 = some (.iload_n 3, 20) := by decide +kernel
theorem d41_20 : cod 41 20 = some (.goto 4, 23) := by decide +kernel
theorem d41_23 : cod 41 23 = some (.iconst (-1), 24) := by decide +kernel
theorem d41_24 : cod 41 24 = some (.ireturn, 25) := by decide +kernel
theorem d42_0 : cod 42 0 = some (.iload_n 1, 1) := by decide +kernel
theorem d42_1 : cod 42 1 = some (.iload_n 2, 2) := by decide +kernel
theorem d42_2 : cod 42 2 = some (.if_icmp .ne 5, 5) := by decide +kernel
theorem d42_5 : cod 42 5 = some (.iconst 0, 6) := by decide +kernel
theorem d42_6 : cod 42 6 = some (.ireturn, 7) := by decide +kernel
theorem d42_7 : cod 42 7 = some (.aload_n 0, 8) := by decide +kernel
theorem d42_8 : cod 42 8 = some (.getfield 15, 11) := by decide +kernel
theorem d42_11 : cod 42 11 = some (.iload_n 1, 12) := by decide +kernel
theorem d42_12 : cod 42 12 = some (.bipush 6, 14) := by decide +kernel
theorem d42_14 : cod 42 14 = some (.imul, 15) := by decide +kernel
theorem d42_15 : cod 42 15 = some (.iload_n 2, 16) := by decide +kernel
theorem d42_16 : cod 42 16 = some (.iadd, 17) := by decide +kernel
theorem d42_17 : cod 42 17 = some (.iaload, 18) := by decide +kernel
theorem d42_18 : cod 42 18 = some (.iconst 3, 19) := by decide +kernel
theorem d42_19 : cod 42 19 = some (.if_icmp .gt 7, 22) := by decide +kernel
theorem d42_22 : cod 42 22 = some (.iconst 1, 23) := by decide +kernel
theorem d42_23 : cod 42 23 = some (.goto 4, 26) := by decide +kernel
theorem d42_26 : cod 42 26 = some (.iconst 2, 27) := by decide +kernel
theorem d42_27 : cod 42 27 = some (.ireturn, 28) := by decide +kernel
theorem d43_0 : cod 43 0 = some (.iconst (-1), 1) := by decide +kernel
theorem d43_1 : cod 43 1 = some (.istore 4, 3) := by decide +kernel
theorem d43_3 : cod 43 3 = some (.iconst 0, 4) := by decide +kernel
theorem d43_4 : cod 43 4 = some (.istore 5, 6) := by decide +kernel
theorem d43_6 : cod 43 6 = some (.iload 5, 8) := by decide +kernel
theorem d43_8 : cod 43 8 = some (.aload_n 0, 9) := by decide +kernel
theorem d43_9 : cod 43 9 = some (.getfield 46, 12) := by decide +kernel
theorem d43_12 : cod 43 12 = some (.if_icmp .ge 75, 15) := by decide +kernel
theorem d43_15 : cod 43 15 = some (.aload_n 0, 16) := by decide +kernel
theorem d43_16 : cod 43 16 = some (.getfield 21, 19) := by decide +kernel
theorem d43_19 : cod 43 19 = some (.iload 5, 21) := by decide +kernel
theorem d43_21 : cod 43 21 = some (.iaload, 22) := by decide +kernel
theorem d43_22 : cod 43 22 = some (.iload_n 2, 23) := by decide +kernel
theorem d43_23 : cod 43 23 = some (.if_icmp .ne 29, 26) := by decide +kernel
theorem d43_26 : cod 43 26 = some (.aload_n 0, 27) := by decide +kernel
theorem d43_27 : cod 43 27 = some (.getfield 24, 30) := by decide +kernel
theorem d43_30 : cod 43 30 = some (.iload 5, 32) := by decide +kernel
theorem d43_32 : cod 43 32 = some (.iaload, 33) := by decide +kernel
theorem d43_33 : cod 43 33 = some (.iload_n 3, 34) := by decide +kernel
theorem d43_34 : cod 43 34 = some (.if_icmp .lt 18, 37) := by decide +kernel
theorem d43_37 : cod 43 37 = some (.aload_n 0, 38) := by decide +kernel
theorem d43_38 : cod 43 38 = some (.getfield 18, 41) := by decide +kernel
theorem d43_41 : cod 43 41 = some (.iload 5, 43) := by decide +kernel
theorem d43_43 : cod 43 43 = some (.iaload, 44) := by decide +kernel
theorem d43_44 : cod 43 44 = some (.iload_n 1, 45) := by decide +kernel
theorem d43_45 : cod 43 45 = some (.if_icmp .gt 7, 48) := by decide +kernel
theorem d43_48 : cod 43 48 = some (.iconst 1, 49) := by decide +kernel
theorem d43_49 : cod 43 49 = some (.goto 4, 52) := by decide +kernel
theorem d43_52 : cod 43 52 = some (.iconst 0, 53) := by decide +kernel
theorem d43_53 : cod 43 53 = some (.istore 6, 55) := by decide +kernel
theorem d43_55 : cod 43 55 = some (.iload 6, 57) := by decide +kernel
theorem d43_57 : cod 43 57 = some (.ifCond .eq 24, 60) := by decide +kernel
theorem d43_60 : cod 43 60 = some (.iload 4, 62) := by decide +kernel
theorem d43_62 : cod 43 62 = some (.iconst (-1), 63) := by decide +kernel
theorem d43_63 : cod 43 63 = some (.if_icmp .eq 14, 66) := by decide +kernel
theorem d43_66 : cod 43 66 = some (.aload_n 0, 67) := by decide +kernel
theorem d43_67 : cod 43 67 = some (.iload 5, 69) := by decide +kernel
theorem d43_69 : cod 43 69 = some (.iload 4, 71) := by decide +kernel
theorem d43_71 : cod 43 71 = some (.invokevirtual 50, 74) := by decide +kernel
theorem d43_74 : cod 43 74 = some (.ifCond .eq 7, 77) := by decide +kernel
theorem d43_77 : cod 43 77 = some (.iload 5, 79) := by decide +kernel
theorem d43_79 : cod 43 79 = some (.istore 4, 81) := by decide +kernel
theorem d43_81 : cod 43 81 = some (.iinc 5 1, 84) := by decide +kernel
theorem d43_84 : cod 43 84 = some (.goto (-78), 87) := by decide +kernel
theorem d43_87 : cod 43 87 = some (.iload 4, 89) := by decide +kernel
theorem d43_89 : cod 43 89 = some (.iconst (-1), 90) := by decide +kernel
theorem d43_90 : cod 43 90 = some (.if_icmp .ne 7, 93) := by decide +kernel
theorem d43_93 : cod 43 93 = some (.iconst (-1), 94) := by decide +kernel
theorem d43_94 : cod 43 94 = some (.goto 10, 97) := by decide +kernel
theorem d43_97 : cod 43 97 = some (.aload_n 0, 98) := by decide +kernel
theorem d43_98 : cod 43 98 = some (.getfield 27, 101) := by decide +kernel
theorem d43_101 : cod 43 101 = some (.iload 4, 103) := by decide +kernel
theorem d43_103 : cod 43 103 = some (.iaload, 104) := by decide +kernel
theorem d43_104 : cod 43 104 = some (.ireturn, 105) := by decide +kernel
theorem d44_0 : cod 44 0 = some (.aload_n 0, 1) := by decide +kernel
theorem d44_1 : cod 44 1 = some (.getfield 24, 4) := by decide +kernel
theorem d44_4 : cod 44 4 = some (.iload_n 1, 5) := by decide +kernel
theorem d44_5 : cod 44 5 = some (.iaload, 6) := by decide +kernel
theorem d44_6 : cod 44 6 = some (.aload_n 0, 7) := by decide +kernel
theorem d44_7 : cod 44 7 = some (.getfield 24, 10) := by decide +kernel
theorem d44_10 : cod 44 10 = some (.iload_n 2, 11) := by decide +kernel
theorem d44_11 : cod 44 11 = some (.iaload, 12) := by decide +kernel
theorem d44_12 : cod 44 12 = some (.if_icmp .eq 24, 15) := by decide +kernel
theorem d44_15 : cod 44 15 = some (.aload_n 0, 16) := by decide +kernel
theorem d44_16 : cod 44 16 = some (.getfield 24, 19) := by decide +kernel
theorem d44_19 : cod 44 19 = some (.iload_n 1, 20) := by decide +kernel
theorem d44_20 : cod 44 20 = some (.iaload, 21) := by decide +kernel
theorem d44_21 : cod 44 21 = some (.aload_n 0, 22) := by decide +kernel
theorem d44_22 : cod 44 22 = some (.getfield 24, 25) := by decide +kernel
theorem d44_25 : cod 44 25 = some (.iload_n 2, 26) := by decide +kernel
theorem d44_26 : cod 44 26 = some (.iaload, 27) := by decide +kernel
theorem d44_27 : cod 44 27 = some (.if_icmp .ge 7, 30) := by decide +kernel
theorem d44_30 : cod 44 30 = some (.iconst 1, 31) := by decide +kernel
theorem d44_31 : cod 44 31 = some (.goto 4, 34) := by decide +kernel
theorem d44_34 : cod 44 34 = some (.iconst 0, 35) := by decide +kernel
theorem d44_35 : cod 44 35 = some (.ireturn, 36) := by decide +kernel
theorem d44_36 : cod 44 36 = some (.aload_n 0, 37) := by decide +kernel
theorem d44_37 : cod 44 37 = some (.getfield 18, 40) := by decide +kernel
theorem d44_40 : cod 44 40 = some (.iload_n 1, 41) := by decide +kernel
theorem d44_41 : cod 44 41 = some (.iaload, 42) := by decide +kernel
theorem d44_42 : cod 44 42 = some (.aload_n 0, 43) := by decide +kernel
theorem d44_43 : cod 44 43 = some (.getfield 18, 46) := by decide +kernel
theorem d44_46 : cod 44 46 = some (.iload_n 2, 47) := by decide +kernel
theorem d44_47 : cod 44 47 = some (.iaload, 48) := by decide +kernel
theorem d44_48 : cod 44 48 = some (.if_icmp .lt 7, 51) := by decide +kernel
theorem d44_51 : cod 44 51 = some (.iconst 1, 52) := by decide +kernel
theorem d44_52 : cod 44 52 = some (.goto 4, 55) := by decide +kernel
theorem d44_55 : cod 44 55 = some (.iconst 0, 56) := by decide +kernel
theorem d44_56 : cod 44 56 = some (.ireturn, 57) := by decide +kernel
theorem d45_0 : cod 45 0 = some (.aload_n 0, 1) := by decide +kernel
theorem d45_1 : cod 45 1 = some (.invokespecial 3, 4) := by decide +kernel
theorem d45_4 : cod 45 4 = some (.aload_n 0, 5) := by decide +kernel
theorem d45_5 : cod 45 5 = some (.bipush 8, 7) := by decide +kernel
theorem d45_7 : cod 45 7 = some (.newarray .boolean, 9) := by decide +kernel
theorem d45_9 : cod 45 9 = some (.putfield 9, 12) := by decide +kernel
theorem d45_12 : cod 45 12 = some (.aload_n 0, 13) := by decide +kernel
theorem d45_13 : cod 45 13 = some (.bipush 8, 15) := by decide +kernel
theorem d45_15 : cod 45 15 = some (.newarray .int, 17) := by decide +kernel
theorem d45_17 : cod 45 17 = some (.putfield 15, 20) := by decide +kernel
theorem d45_20 : cod 45 20 = some (.aload_n 0, 21) := by decide +kernel
theorem d45_21 : cod 45 21 = some (.bipush 8, 23) := by decide +kernel
theorem d45_23 : cod 45 23 = some (.newarray .int, 25) := by decide +kernel
theorem d45_25 : cod 45 25 = some (.putfield 19, 28) := by decide +kernel
theorem d45_28 : cod 45 28 = some (.aload_n 0, 29) := by decide +kernel
theorem d45_29 : cod 45 29 = some (.new 22, 32) := by decide +kernel
theorem d45_32 : cod 45 32 = some (.dup, 33) := by decide +kernel
theorem d45_33 : cod 45 33 = some (.invokespecial 24, 36) := by decide +kernel
theorem d45_36 : cod 45 36 = some (.putfield 25, 39) := by decide +kernel
theorem d45_39 : cod 45 39 = some (.aload_n 0, 40) := by decide +kernel
theorem d45_40 : cod 45 40 = some (.sipush 256, 43) := by decide +kernel
theorem d45_43 : cod 45 43 = some (.newarray .int, 45) := by decide +kernel
theorem d45_45 : cod 45 45 = some (.putfield 29, 48) := by decide +kernel
theorem d45_48 : cod 45 48 = some (.aload_n 0, 49) := by decide +kernel
theorem d45_49 : cod 45 49 = some (.sipush 256, 52) := by decide +kernel
theorem d45_52 : cod 45 52 = some (.newarray .int, 54) := by decide +kernel
theorem d45_54 : cod 45 54 = some (.putfield 32, 57) := by decide +kernel
theorem d45_57 : cod 45 57 = some (.aload_n 0, 58) := by decide +kernel
theorem d45_58 : cod 45 58 = some (.sipush 256, 61) := by decide +kernel
theorem d45_61 : cod 45 61 = some (.newarray .long, 63) := by decide +kernel
theorem d45_63 : cod 45 63 = some (.putfield 35, 66) := by decide +kernel
theorem d45_66 : cod 45 66 = some (.return_, 67) := by decide +kernel
theorem d46_0 : cod 46 0 = some (.aload_n 0, 1) := by decide +kernel
theorem d46_1 : cod 46 1 = some (.iconst 0, 2) := by decide +kernel
theorem d46_2 : cod 46 2 = some (.putfield 39, 5) := by decide +kernel
theorem d46_5 : cod 46 5 = some (.aload_n 0, 6) := by decide +kernel
theorem d46_6 : cod 46 6 = some (.getfield 25, 9) := by decide +kernel
theorem d46_9 : cod 46 9 = some (.invokevirtual 43, 12) := by decide +kernel
theorem d46_12 : cod 46 12 = some (.aload_n 0, 13) := by decide +kernel
theorem d46_13 : cod 46 13 = some (.iconst 0, 14) := by decide +kernel
theorem d46_14 : cod 46 14 = some (.putfield 46, 17) := by decide +kernel
theorem d46_17 : cod 46 17 = some (.return_, 18) := by decide +kernel
theorem d47_0 : cod 47 0 = some (.iconst 0, 1) := by decide +kernel
theorem d47_1 : cod 47 1 = some (.istore_n 3, 2) := by decide +kernel
theorem d47_2 : cod 47 2 = some (.iload_n 3, 3) := by decide +kernel
theorem d47_3 : cod 47 3 = some (.aload_n 0, 4) := by decide +kernel
theorem d47_4 : cod 47 4 = some (.getfield 39, 7) := by decide +kernel
theorem d47_7 : cod 47 7 = some (.if_icmp .ge 31, 10) := by decide +kernel
theorem d47_10 : cod 47 10 = some (.aload_n 0, 11) := by decide +kernel
theorem d47_11 : cod 47 11 = some (.getfield 9, 14) := by decide +kernel
theorem d47_14 : cod 47 14 = some (.iload_n 3, 15) := by decide +kernel
theorem d47_15 : cod 47 15 = some (.baload, 16) := by decide +kernel
theorem d47_16 : cod 47 16 = some (.iload_n 1, 17) := by decide +kernel
theorem d47_17 : cod 47 17 = some (.if_icmp .ne 15, 20) := by decide +kernel
theorem d47_20 : cod 47 20 = some (.aload_n 0, 21) := by decide +kernel
theorem d47_21 : cod 47 21 = some (.getfield 15, 24) := by decide +kernel
theorem d47_24 : cod 47 24 = some (.iload_n 3, 25) := by decide +kernel
theorem d47_25 : cod 47 25 = some (.iaload, 26) := by decide +kernel
theorem d47_26 : cod 47 26 = some (.iload_n 2, 27) := by decide +kernel
theorem d47_27 : cod 47 27 = some (.if_icmp .ne 5, 30) := by decide +kernel
theorem d47_30 : cod 47 30 = some (.iconst 1, 31) := by decide +kernel
theorem d47_31 : cod 47 31 = some (.ireturn, 32) := by decide +kernel
theorem d47_32 : cod 47 32 = some (.iinc 3 1, 35) := by decide +kernel
theorem d47_35 : cod 47 35 = some (.goto (-33), 38) := by decide +kernel
theorem d47_38 : cod 47 38 = some (.iconst 0, 39) := by decide +kernel
theorem d47_39 : cod 47 39 = some (.ireturn, 40) := by decide +kernel
theorem d48_0 : cod 48 0 = some (.aload_n 0, 1) := by decide +kernel
theorem d48_1 : cod 48 1 = some (.getfield 9, 4) := by decide +kernel
theorem d48_4 : cod 48 4 = some (.aload_n 0, 5) := by decide +kernel
theorem d48_5 : cod 48 5 = some (.getfield 39, 8) := by decide +kernel
theorem d48_8 : cod 48 8 = some (.iload_n 1, 9) := by decide +kernel
theorem d48_9 : cod 48 9 = some (.bastore, 10) := by decide +kernel
theorem d48_10 : cod 48 10 = some (.aload_n 0, 11) := by decide +kernel
theorem d48_11 : cod 48 11 = some (.getfield 15, 14) := by decide +kernel
theorem d48_14 : cod 48 14 = some (.aload_n 0, 15) := by decide +kernel
theorem d48_15 : cod 48 15 = some (.getfield 39, 18) := by decide +kernel
theorem d48_18 : cod 48 18 = some (.iload_n 2, 19) := by decide +kernel
theorem d48_19 : cod 48 19 = some (.iastore, 20) := by decide +kernel
theorem d48_20 : cod 48 20 = some (.aload_n 0, 21) := by decide +kernel
theorem d48_21 : cod 48 21 = some (.getfield 19, 24) := by decide +kernel
theorem d48_24 : cod 48 24 = some (.aload_n 0, 25) := by decide +kernel
theorem d48_25 : cod 48 25 = some (.getfield 39, 28) := by decide +kernel
theorem d48_28 : cod 48 28 = some (.iload_n 3, 29) := by decide +kernel
theorem d48_29 : cod 48 29 = some (.iastore, 30) := by decide +kernel
theorem d48_30 : cod 48 30 = some (.aload_n 0, 31) := by decide +kernel
theorem d48_31 : cod 48 31 = some (.dup, 32) := by decide +kernel
theorem d48_32 : cod 48 32 = some (.getfield 39, 35) := by decide +kernel
theorem d48_35 : cod 48 35 = some (.iconst 1, 36) := by decide +kernel
theorem d48_36 : cod 48 36 = some (.iadd, 37) := by decide +kernel
theorem d48_37 : cod 48 37 = some (.putfield 39, 40) := by decide +kernel
theorem d48_40 : cod 48 40 = some (.aload_n 0, 41) := by decide +kernel
theorem d48_41 : cod 48 41 = some (.iconst 0, 42) := by decide +kernel
theorem d48_42 : cod 48 42 = some (.putfield 46, 45) := by decide +kernel
theorem d48_45 : cod 48 45 = some (.aload_n 0, 46) := by decide +kernel
theorem d48_46 : cod 48 46 = some (.getfield 39, 49) := by decide +kernel
theorem d48_49 : cod 48 49 = some (.iconst 1, 50) := by decide +kernel
theorem d48_50 : cod 48 50 = some (.isub, 51) := by decide +kernel
theorem d48_51 : cod 48 51 = some (.ireturn, 52) := by decide +kernel
theorem d49_0 : cod 49 0 = some (.iconst 1, 1) := by decide +kernel
theorem d49_1 : cod 49 1 = some (.aload_n 0, 2) := by decide +kernel
theorem d49_2 : cod 49 2 = some (.getfield 39, 5) := by decide +kernel
theorem d49_5 : cod 49 5 = some (.ishl, 6) := by decide +kernel
theorem d49_6 : cod 49 6 = some (.iconst 1, 7) := by decide +kernel
theorem d49_7 : cod 49 7 = some (.isub, 8) := by decide +kernel
theorem d49_8 : cod 49 8 = some (.ireturn, 9) := by decide +kernel
theorem d50_0 : cod 50 0 = some (.aload_n 0, 1) := by decide +kernel
theorem d50_1 : cod 50 1 = some (.getfield 25, 4) := by decide +kernel
theorem d50_4 : cod 50 4 = some (.new 50, 7) := by decide +kernel
theorem d50_7 : cod 50 7 = some (.dup, 8) := by decide +kernel
theorem d50_8 : cod 50 8 = some (.iload_n 1, 9) := by decide +kernel
theorem d50_9 : cod 50 9 = some (.iload_n 2, 10) := by decide +kernel
theorem d50_10 : cod 50 10 = some (.iload_n 3, 11) := by decide +kernel
theorem d50_11 : cod 50 11 = some (.invokespecial 52, 14) := by decide +kernel
theorem d50_14 : cod 50 14 = some (.invokevirtual 55, 17) := by decide +kernel
theorem d50_17 : cod 50 17 = some (.pop, 18) := by decide +kernel
theorem d50_18 : cod 50 18 = some (.aload_n 0, 19) := by decide +kernel
theorem d50_19 : cod 50 19 = some (.iconst 0, 20) := by decide +kernel
theorem d50_20 : cod 50 20 = some (.putfield 46, 23) := by decide +kernel
theorem d50_23 : cod 50 23 = some (.aload_n 0, 24) := by decide +kernel
theorem d50_24 : cod 50 24 = some (.getfield 25, 27) := by decide +kernel
theorem d50_27 : cod 50 27 = some (.invokevirtual 59, 30) := by decide +kernel
theorem d50_30 : cod 50 30 = some (.iconst 1, 31) := by decide +kernel
theorem d50_31 : cod 50 31 = some (.isub, 32) := by decide +kernel
theorem d50_32 : cod 50 32 = some (.ireturn, 33) := by decide +kernel
theorem d51_0 : cod 51 0 = some (.aload_n 0, 1) := by decide +kernel
theorem d51_1 : cod 51 1 = some (.getfield 46, 4) := by decide +kernel
theorem d51_4 : cod 51 4 = some (.ifCond .eq 12, 7) := by decide +kernel
theorem d51_7 : cod 51 7 = some (.aload_n 0, 8) := by decide +kernel
theorem d51_8 : cod 51 8 = some (.getfield 63, 11) := by decide +kernel
theorem d51_11 : cod 51 11 = some (.iload_n 1, 12) := by decide +kernel
theorem d51_12 : cod 51 12 = some (.if_icmp .ne 4, 15) := by decide +kernel
theorem d51_15 : cod 51 15 = some (.return_, 16) := by decide +kernel
theorem d51_16 : cod 51 16 = some (.aload_n 0, 17) := by decide +kernel
theorem d51_17 : cod 51 17 = some (.iload_n 1, 18) := by decide +kernel
theorem d51_18 : cod 51 18 = some (.putfield 63, 21) := by decide +kernel
theorem d51_21 : cod 51 21 = some (.aload_n 0, 22) := by decide +kernel
theorem d51_22 : cod 51 22 = some (.iconst 1, 23) := by decide +kernel
theorem d51_23 : cod 51 23 = some (.putfield 46, 26) := by decide +kernel
theorem d51_26 : cod 51 26 = some (.aload_n 0, 27) := by decide +kernel
theorem d51_27 : cod 51 27 = some (.getfield 29, 30) := by decide +kernel
theorem d51_30 : cod 51 30 = some (.iconst 0, 31) := by decide +kernel
theorem d51_31 : cod 51 31 = some (.invokestatic 66, 34) := by decide +kernel
theorem d51_34 : cod 51 34 = some (.aload_n 0, 35) := by decide +kernel
theorem d51_35 : cod 51 35 = some (.getfield 32, 38) := by decide +kernel
theorem d51_38 : cod 51 38 = some (.iconst 0, 39) := by decide +kernel
theorem d51_39 : cod 51 39 = some (.invokestatic 66, 42) := by decide +kernel
theorem d51_42 : cod 51 42 = some (.aload_n 0, 43) := by decide +kernel
theorem d51_43 : cod 51 43 = some (.getfield 35, 46) := by decide +kernel
theorem d51_46 : cod 51 46 = some (.lconst 0, 47) := by decide +kernel
theorem d51_47 : cod 51 47 = some (.invokestatic 72, 50) := by decide +kernel
theorem d51_50 : cod 51 50 = some (.aload_n 0, 51) := by decide +kernel
theorem d51_51 : cod 51 51 = some (.lconst 0, 52) := by decide +kernel
theorem d51_52 : cod 51 52 = some (.putfield 75, 55) := by decide +kernel
theorem d51_55 : cod 51 55 = some (.aload_n 0, 56) := by decide +kernel
theorem d51_56 : cod 51 56 = some (.getfield 25, 59) := by decide +kernel
theorem d51_59 : cod 51 59 = some (.invokevirtual 59, 62) := by decide +kernel
theorem d51_62 : cod 51 62 = some (.iconst 1, 63) := by decide +kernel
theorem d51_63 : cod 51 63 = some (.isub, 64) := by decide +kernel
theorem d51_64 : cod 51 64 = some (.istore_n 2, 65) := by decide +kernel
theorem d51_65 : cod 51 65 = some (.iload_n 2, 66) := by decide +kernel
theorem d51_66 : cod 51 66 = some (.ifCond .lt 57, 69) := by decide +kernel
theorem d51_69 : cod 51 69 = some (.aload_n 0, 70) := by decide +kernel
theorem d51_70 : cod 51 70 = some (.aload_n 0, 71) := by decide +kernel
theorem d51_71 : cod 51 71 = some (.getfield 25, 74) := by decide +kernel
theorem d51_74 : cod 51 74 = some (.iload_n 2, 75) := by decide +kernel
theorem d51_75 : cod 51 75 = some (.invokevirtual 79, 78) := by decide +kernel
theorem d51_78 : cod 51 78 = some (.checkcast 50, 81) := by decide +kernel
theorem d51_81 : cod 51 81 = some (.invokevirtual 83, 84) := by decide +kernel
theorem d51_84 : cod 51 84 = some (.ifCond .eq 33, 87) := by decide +kernel
theorem d51_87 : cod 51 87 = some (.aload_n 0, 88) := by decide +kernel
theorem d51_88 : cod 51 88 = some (.dup, 89) := by decide +kernel
theorem d51_89 : cod 51 89 = some (.getfield 75, 92) := by decide +kernel
theorem d51_92 : cod 51 92 = some (.lconst 1, 93) := by decide +kernel
theorem d51_93 : cod 51 93 = some (.iload_n 2, 94) := by decide +kernel
theorem d51_94 : cod 51 94 = some (.lshl, 95) := by decide +kernel
theorem d51_95 : cod 51 95 = some (.lor, 96) := by decide +kernel
theorem d51_96 : cod 51 96 = some (.putfield 75, 99) := by decide +kernel
theorem d51_99 : cod 51 99 = some (.aload_n 0, 100) := by decide +kernel
theorem d51_100 : cod 51 100 = some (.aload_n 0, 101) := by decide +kernel
theorem d51_101 : cod 51 101 = some (.getfield 25, 104) := by decide +kernel
theorem d51_104 : cod 51 104 = some (.iload_n 2, 105) := by decide +kernel
theorem d51_105 : cod 51 105 = some (.invokevirtual 79, 108) := by decide +kernel
theorem d51_108 : cod 51 108 = some (.checkcast 50, 111) := by decide +kernel
theorem d51_111 : cod 51 111 = some (.lconst 1, 112) := by decide +kernel
theorem d51_112 : cod 51 112 = some (.iload_n 2, 113) := by decide +kernel
theorem d51_113 : cod 51 113 = some (.lshl, 114) := by decide +kernel
theorem d51_114 : cod 51 114 = some (.invokevirtual 87, 117) := by decide +kernel
theorem d51_117 : cod 51 117 = some (.iinc 2 (-1), 120) := by decide +kernel
theorem d51_120 : cod 51 120 = some (.goto (-55), 123) := by decide +kernel
theorem d51_123 : cod 51 123 = some (.return_, 124) := by decide +kernel
theorem d52_0 : cod 52 0 = some (.iconst 0, 1) := by decide +kernel
theorem d52_1 : cod 52 1 = some (.istore_n 2, 2) := by decide +kernel
theorem d52_2 : cod 52 2 = some (.iconst 0, 3) := by decide +kernel
theorem d52_3 : cod 52 3 = some (.istore_n 3, 4) := by decide +kernel
theorem d52_4 : cod 52 4 = some (.iload_n 3, 5) := by decide +kernel
theorem d52_5 : cod 52 5 = some (.aload_n 0, 6) := by decide +kernel
theorem d52_6 : cod 52 6 = some (.getfield 39, 9) := by decide +kernel
theorem d52_9 : cod 52 9 = some (.if_icmp .ge 29, 12) := by decide +kernel
theorem d52_12 : cod 52 12 = some (.iload_n 3, 13) := by decide +kernel
theorem d52_13 : cod 52 13 = some (.aload_n 1, 14) := by decide +kernel
theorem d52_14 : cod 52 14 = some (.getfield 94, 17) := by decide +kernel
theorem d52_17 : cod 52 17 = some (.invokestatic 98, 20) := by decide +kernel
theorem d52_20 : cod 52 20 = some (.ifCond .eq 12, 23) := by decide +kernel
theorem d52_23 : cod 52 23 = some (.iload_n 2, 24) := by decide +kernel
theorem d52_24 : cod 52 24 = some (.aload_n 0, 25) := by decide +kernel
theorem d52_25 : cod 52 25 = some (.getfield 19, 28) := by decide +kernel
theorem d52_28 : cod 52 28 = some (.iload_n 3, 29) := by decide +kernel
theorem d52_29 : cod 52 29 = some (.iaload, 30) := by decide +kernel
theorem d52_30 : cod 52 30 = some (.iadd, 31) := by decide +kernel
theorem d52_31 : cod 52 31 = some (.istore_n 2, 32) := by decide +kernel
theorem d52_32 : cod 52 32 = some (.iinc 3 1, 35) := by decide +kernel
theorem d52_35 : cod 52 35 = some (.goto (-31), 38) := by decide +kernel
theorem d52_38 : cod 52 38 = some (.aload_n 1, 39) := by decide +kernel
theorem d52_39 : cod 52 39 = some (.getfield 95, 42) := by decide +kernel
theorem d52_42 : cod 52 42 = some (.iload_n 2, 43) := by decide +kernel
theorem d52_43 : cod 52 43 = some (.if_icmp .lt 19, 46) := by decide +kernel
theorem d52_46 : cod 52 46 = some (.aload_n 1, 47) := by decide +kernel
theorem d52_47 : cod 52 47 = some (.getfield 94, 50) := by decide +kernel
theorem d52_50 : cod 52 50 = some (.aload_n 0, 51) := by decide +kernel
theorem d52_51 : cod 52 51 = some (.getfield 63, 54) := by decide +kernel
theorem d52_54 : cod 52 54 = some (.iand, 55) := by decide +kernel
theorem d52_55 : cod 52 55 = some (.ifCond .ne 7, 58) := by decide +kernel
theorem d52_58 : cod 52 58 = some (.iconst 1, 59) := by decide +kernel
theorem d52_59 : cod 52 59 = some (.goto 4, 62) := by decide +kernel
theorem d52_62 : cod 52 62 = some (.iconst 0, 63) := by decide +kernel
theorem d52_63 : cod 52 63 = some (.ireturn, 64) := by decide +kernel
theorem d53_0 : cod 53 0 = some (.aload_n 0, 1) := by decide +kernel
theorem d53_1 : cod 53 1 = some (.invokevirtual 91, 4) := by decide +kernel
theorem d53_4 : cod 53 4 = some (.istore 4, 6) := by decide +kernel
theorem d53_6 : cod 53 6 = some (.iload 4, 8) := by decide +kernel
theorem d53_8 : cod 53 8 = some (.ifCond .lt 127, 11) := by decide +kernel
theorem d53_11 : cod 53 11 = some (.iload 4, 13) := by decide +kernel
theorem d53_13 : cod 53 13 = some (.aload_n 1, 14) := by decide +kernel
theorem d53_14 : cod 53 14 = some (.getfield 94, 17) := by decide +kernel
theorem d53_17 : cod 53 17 = some (.iand, 18) := by decide +kernel
theorem d53_18 : cod 53 18 = some (.aload_n 1, 19) := by decide +kernel
theorem d53_19 : cod 53 19 = some (.getfield 94, 22) := by decide +kernel
theorem d53_22 : cod 53 22 = some (.if_icmp .ne 107, 25) := by decide +kernel
theorem d53_25 : cod 53 25 = some (.iload 4, 27) := by decide +kernel
theorem d53_27 : cod 53 27 = some (.aload_n 1, 28) := by decide +kernel
theorem d53_28 : cod 53 28 = some (.getfield 94, 31) := by decide +kernel
theorem d53_31 : cod 53 31 = some (.ixor, 32) := by decide +kernel
theorem d53_32 : cod 53 32 = some (.istore 5, 34) := by decide +kernel
theorem d53_34 : cod 53 34 = some (.aload_n 0, 35) := by decide +kernel
theorem d53_35 : cod 53 35 = some (.getfield 29, 38) := by decide +kernel
theorem d53_38 : cod 53 38 = some (.iload 5, 40) := by decide +kernel
theorem d53_40 : cod 53 40 = some (.iaload, 41) := by decide +kernel
theorem d53_41 : cod 53 41 = some (.aload_n 1, 42) := by decide +kernel
theorem d53_42 : cod 53 42 = some (.getfield 95, 45) := by decide +kernel
theorem d53_45 : cod 53 45 = some (.iadd, 46) := by decide +kernel
theorem d53_46 : cod 53 46 = some (.istore 6, 48) := by decide +kernel
theorem d53_48 : cod 53 48 = some (.aload_n 0, 49) := by decide +kernel
theorem d53_49 : cod 53 49 = some (.getfield 32, 52) := by decide +kernel
theorem d53_52 : cod 53 52 = some (.iload 5, 54) := by decide +kernel
theorem d53_54 : cod 53 54 = some (.iaload, 55) := by decide +kernel
theorem d53_55 : cod 53 55 = some (.iconst 1, 56) := by decide +kernel
theorem d53_56 : cod 53 56 = some (.iadd, 57) := by decide +kernel
theorem d53_57 : cod 53 57 = some (.istore 7, 59) := by decide +kernel
theorem d53_59 : cod 53 59 = some (.iload 6, 61) := by decide +kernel
theorem d53_61 : cod 53 61 = some (.aload_n 0, 62) := by decide +kernel
theorem d53_62 : cod 53 62 = some (.getfield 29, 65) := by decide +kernel
theorem d53_65 : cod 53 65 = some (.iload 4, 67) := by decide +kernel
theorem d53_67 : cod 53 67 = some (.iaload, 68) := by decide +kernel
theorem d53_68 : cod 53 68 = some (.if_icmp .gt 27, 71) := by decide +kernel
theorem d53_71 : cod 53 71 = some (.iload 6, 73) := by decide +kernel
theorem d53_73 : cod 53 73 = some (.aload_n 0, 74) := by decide +kernel
theorem d53_74 : cod 53 74 = some (.getfield 29, 77) := by decide +kernel
theorem d53_77 : cod 53 77 = some (.iload 4, 79) := by decide +kernel
theorem d53_79 : cod 53 79 = some (.iaload, 80) := by decide +kernel
theorem d53_80 : cod 53 80 = some (.if_icmp .ne 49, 83) := by decide +kernel
theorem d53_83 : cod 53 83 = some (.iload 7, 85) := by decide +kernel
theorem d53_85 : cod 53 85 = some (.aload_n 0, 86) := by decide +kernel
theorem d53_86 : cod 53 86 = some (.getfield 32, 89) := by decide +kernel
theorem d53_89 : cod 53 89 = some (.iload 4, 91) := by decide +kernel
theorem d53_91 : cod 53 91 = some (.iaload, 92) := by decide +kernel
theorem d53_92 : cod 53 92 = some (.if_icmp .gt 37, 95) := by decide +kernel
theorem d53_95 : cod 53 95 = some (.aload_n 0, 96) := by decide +kernel
theorem d53_96 : cod 53 96 = some (.getfield 29, 99) := by decide +kernel
theorem d53_99 : cod 53 99 = some (.iload 4, 101) := by decide +kernel
theorem d53_101 : cod 53 101 = some (.iload 6, 103) := by decide +kernel
theorem d53_103 : cod 53 103 = some (.iastore, 104) := by decide +kernel
theorem d53_104 : cod 53 104 = some (.aload_n 0, 105) := by decide +kernel
theorem d53_105 : cod 53 105 = some (.getfield 32, 108) := by decide +kernel
theorem d53_108 : cod 53 108 = some (.iload 4, 110) := by decide +kernel
theorem d53_110 : cod 53 110 = some (.iload 7, 112) := by decide +kernel
theorem d53_112 : cod 53 112 = some (.iastore, 113) := by decide +kernel
theorem d53_113 : cod 53 113 = some (.aload_n 0, 114) := by decide +kernel
theorem d53_114 : cod 53 114 = some (.getfield 35, 117) := by decide +kernel
theorem d53_117 : cod 53 117 = some (.iload 4, 119) := by decide +kernel
theorem d53_119 : cod 53 119 = some (.aload_n 0, 120) := by decide +kernel
theorem d53_120 : cod 53 120 = some (.getfield 35, 123) := by decide +kernel
theorem d53_123 : cod 53 123 = some (.iload 5, 125) := by decide +kernel
theorem d53_125 : cod 53 125 = some (.laload, 126) := by decide +kernel
theorem d53_126 : cod 53 126 = some (.lload_n 2, 127) := by decide +kernel
theorem d53_127 : cod 53 127 = some (.lor, 128) := by decide +kernel
theorem d53_128 : cod 53 128 = some (.lastore, 129) := by decide +kernel
theorem d53_129 : cod 53 129 = some (.iinc 4 (-1), 132) := by decide +kernel
theorem d53_132 : cod 53 132 = some (.goto (-126), 135) := by decide +kernel
theorem d53_135 : cod 53 135 = some (.return_, 136) := by decide +kernel
theorem d54_0 : cod 54 0 = some (.aload_n 0, 1) := by decide +kernel
theorem d54_1 : cod 54 1 = some (.getfield 29, 4) := by decide +kernel
theorem d54_4 : cod 54 4 = some (.aload_n 0, 5) := by decide +kernel
theorem d54_5 : cod 54 5 = some (.invokevirtual 91, 8) := by decide +kernel
theorem d54_8 : cod 54 8 = some (.iaload, 9) := by decide +kernel
theorem d54_9 : cod 54 9 = some (.ireturn, 10) := by decide +kernel
theorem d55_0 : cod 55 0 = some (.aload_n 0, 1) := by decide +kernel
theorem d55_1 : cod 55 1 = some (.getfield 32, 4) := by decide +kernel
theorem d55_4 : cod 55 4 = some (.aload_n 0, 5) := by decide +kernel
theorem d55_5 : cod 55 5 = some (.invokevirtual 91, 8) := by decide +kernel
theorem d55_8 : cod 55 8 = some (.iaload, 9) := by decide +kernel
theorem d55_9 : cod 55 9 = some (.ireturn, 10) := by decide +kernel
theorem d56_0 : cod 56 0 = some (.iconst 0, 1) := by decide +kernel
theorem d56_1 : cod 56 1 = some (.istore_n 1, 2) := by decide +kernel
theorem d56_2 : cod 56 2 = some (.iconst 0, 3) := by decide +kernel
theorem d56_3 : cod 56 3 = some (.istore_n 2, 4) := by decide +kernel
theorem d56_4 : cod 56 4 = some (.iload_n 2, 5) := by decide +kernel
theorem d56_5 : cod 56 5 = some (.aload_n 0, 6) := by decide +kernel
theorem d56_6 : cod 56 6 = some (.getfield 25, 9) := by decide +kernel
theorem d56_9 : cod 56 9 = some (.invokevirtual 59, 12) := by decide +kernel
theorem d56_12 : cod 56 12 = some (.if_icmp .ge 34, 15) := by decide +kernel
theorem d56_15 : cod 56 15 = some (.aload_n 0, 16) := by decide +kernel
theorem d56_16 : cod 56 16 = some (.iload_n 2, 17) := by decide +kernel
theorem d56_17 : cod 56 17 = some (.invokevirtual 102, 20) := by decide +kernel
theorem d56_20 : cod 56 20 = some (.ifCond .eq 20, 23) := by decide +kernel
theorem d56_23 : cod 56 23 = some (.iload_n 1, 24) := by decide +kernel
theorem d56_24 : cod 56 24 = some (.aload_n 0, 25) := by decide +kernel
theorem d56_25 : cod 56 25 = some (.getfield 25, 28) := by decide +kernel
theorem d56_28 : cod 56 28 = some (.iload_n 2, 29) := by decide +kernel
theorem d56_29 : cod 56 29 = some (.invokevirtual 79, 32) := by decide +kernel
theorem d56_32 : cod 56 32 = some (.checkcast 50, 35) := by decide +kernel
theorem d56_35 : cod 56 35 = some (.getfield 94, 38) := by decide +kernel
theorem d56_38 : cod 56 38 = some (.ior, 39) := by decide +kernel
theorem d56_39 : cod 56 39 = some (.istore_n 1, 40) := by decide +kernel
theorem d56_40 : cod 56 40 = some (.iinc 2 1, 43) := by decide +kernel
theorem d56_43 : cod 56 43 = some (.goto (-39), 46) := by decide +kernel
theorem d56_46 : cod 56 46 = some (.iload_n 1, 47) := by decide +kernel
theorem d56_47 : cod 56 47 = some (.ireturn, 48) := by decide +kernel
theorem d57_0 : cod 57 0 = some (.aload_n 0, 1) := by decide +kernel
theorem d57_1 : cod 57 1 = some (.getfield 35, 4) := by decide +kernel
theorem d57_4 : cod 57 4 = some (.aload_n 0, 5) := by decide +kernel
theorem d57_5 : cod 57 5 = some (.invokevirtual 91, 8) := by decide +kernel
theorem d57_8 : cod 57 8 = some (.laload, 9) := by decide +kernel
theorem d57_9 : cod 57 9 = some (.iload_n 1, 10) := by decide +kernel
theorem d57_10 : cod 57 10 = some (.lshr, 11) := by decide +kernel
theorem d57_11 : cod 57 11 = some (.lconst 1, 12) := by decide +kernel
theorem d57_12 : cod 57 12 = some (.land, 13) := by decide +kernel
theorem d57_13 : cod 57 13 = some (.lconst 0, 14) := by decide +kernel
theorem d57_14 : cod 57 14 = some (.lcmp, 15) := by decide +kernel
theorem d57_15 : cod 57 15 = some (.ifCond .eq 7, 18) := by decide +kernel
theorem d57_18 : cod 57 18 = some (.iconst 1, 19) := by decide +kernel
theorem d57_19 : cod 57 19 = some (.goto 4, 22) := by decide +kernel
theorem d57_22 : cod 57 22 = some (.iconst 0, 23) := by decide +kernel
theorem d57_23 : cod 57 23 = some (.ireturn, 24) := by decide +kernel
theorem d58_0 : cod 58 0 = some (.iconst 0, 1) := by decide +kernel
theorem d58_1 : cod 58 1 = some (.istore_n 1, 2) := by decide +kernel
theorem d58_2 : cod 58 2 = some (.iload_n 1, 3) := by decide +kernel
theorem d58_3 : cod 58 3 = some (.aload_n 0, 4) := by decide +kernel
theorem d58_4 : cod 58 4 = some (.getfield 25, 7) := by decide +kernel
theorem d58_7 : cod 58 7 = some (.invokevirtual 59, 10) := by decide +kernel
theorem d58_10 : cod 58 10 = some (.if_icmp .ge 19, 13) := by decide +kernel
theorem d58_13 : cod 58 13 = some (.aload_n 0, 14) := by decide +kernel
theorem d58_14 : cod 58 14 = some (.iload_n 1, 15) := by decide +kernel
theorem d58_15 : cod 58 15 = some (.invokevirtual 102, 18) := by decide +kernel
theorem d58_18 : cod 58 18 = some (.ifCond .eq 5, 21) := by decide +kernel
theorem d58_21 : cod 58 21 = some (.iload_n 1, 22) := by decide +kernel
theorem d58_22 : cod 58 22 = some (.ireturn, 23) := by decide +kernel
theorem d58_23 : cod 58 23 = some (.iinc 1 1, 26) := by decide +kernel
theorem d58_26 : cod 58 26 = some (.goto (-24), 29) := by decide +kernel
theorem d58_29 : cod 58 29 = some (.iconst (-1), 30) := by decide +kernel
theorem d58_30 : cod 58 30 = some (.ireturn, 31) := by decide +kernel
theorem d59_0 : cod 59 0 = some (.iconst 0, 1) := by decide +kernel
theorem d59_1 : cod 59 1 = some (.istore_n 1, 2) := by decide +kernel
theorem d59_2 : cod 59 2 = some (.iconst 0, 3) := by decide +kernel
theorem d59_3 : cod 59 3 = some (.istore_n 2, 4) := by decide +kernel
theorem d59_4 : cod 59 4 = some (.iload_n 2, 5) := by decide +kernel
theorem d59_5 : cod 59 5 = some (.aload_n 0, 6) := by decide +kernel
theorem d59_6 : cod 59 6 = some (.getfield 39, 9) := by decide +kernel
theorem d59_9 : cod 59 9 = some (.if_icmp .ge 28, 12) := by decide +kernel
theorem d59_12 : cod 59 12 = some (.aload_n 0, 13) := by decide +kernel
theorem d59_13 : cod 59 13 = some (.iload_n 2, 14) := by decide +kernel
theorem d59_14 : cod 59 14 = some (.invokevirtual 112, 17) := by decide +kernel
theorem d59_17 : cod 59 17 = some (.istore_n 3, 18) := by decide +kernel
theorem d59_18 : cod 59 18 = some (.iload_n 1, 19) := by decide +kernel
theorem d59_19 : cod 59 19 = some (.iload_n 3, 20) := by decide +kernel
theorem d59_20 : cod 59 20 = some (.iconst (-1), 21) := by decide +kernel
theorem d59_21 : cod 59 21 = some (.if_icmp .ne 7, 24) := by decide +kernel
theorem d59_24 : cod 59 24 = some (.iconst 0, 25) := by decide +kernel
theorem d59_25 : cod 59 25 = some (.goto 4, 28) := by decide +kernel
theorem d59_28 : cod 59 28 = some (.iload_n 3, 29) := by decide +kernel
theorem d59_29 : cod 59 29 = some (.iadd, 30) := by decide +kernel
theorem d59_30 : cod 59 30 = some (.istore_n 1, 31) := by decide +kernel
theorem d59_31 : cod 59 31 = some (.iinc 2 1, 34) := by decide +kernel
theorem d59_34 : cod 59 34 = some (.goto (-30), 37) := by decide +kernel
theorem d59_37 : cod 59 37 = some (.aload_n 0, 38) := by decide +kernel
theorem d59_38 : cod 59 38 = some (.invokevirtual 116, 41) := by decide +kernel
theorem d59_41 : cod 59 41 = some (.iload_n 1, 42) := by decide +kernel
theorem d59_42 : cod 59 42 = some (.isub, 43) := by decide +kernel
theorem d59_43 : cod 59 43 = some (.ireturn, 44) := by decide +kernel
theorem d60_0 : cod 60 0 = some (.aload_n 0, 1) := by decide +kernel
theorem d60_1 : cod 60 1 = some (.iload_n 1, 2) := by decide +kernel
theorem d60_2 : cod 60 2 = some (.iconst (-1), 3) := by decide +kernel
theorem d60_3 : cod 60 3 = some (.invokevirtual 125, 6) := by decide +kernel
theorem d60_6 : cod 60 6 = some (.istore_n 2, 7) := by decide +kernel
theorem d60_7 : cod 60 7 = some (.iload_n 2, 8) := by decide +kernel
theorem d60_8 : cod 60 8 = some (.iconst (-1), 9) := by decide +kernel
theorem d60_9 : cod 60 9 = some (.if_icmp .ne 5, 12) := by decide +kernel
theorem d60_12 : cod 60 12 = some (.iconst (-1), 13) := by decide +kernel
theorem d60_13 : cod 60 13 = some (.ireturn, 14) := by decide +kernel
theorem d60_14 : cod 60 14 = some (.aload_n 0, 15) := by decide +kernel
theorem d60_15 : cod 60 15 = some (.iload_n 1, 16) := by decide +kernel
theorem d60_16 : cod 60 16 = some (.aload_n 0, 17) := by decide +kernel
theorem d60_17 : cod 60 17 = some (.getfield 25, 20) := by decide +kernel
theorem d60_20 : cod 60 20 = some (.iload_n 2, 21) := by decide +kernel
theorem d60_21 : cod 60 21 = some (.invokevirtual 79, 24) := by decide +kernel
theorem d60_24 : cod 60 24 = some (.checkcast 50, 27) := by decide +kernel
theorem d60_27 : cod 60 27 = some (.getfield 119, 30) := by decide +kernel
theorem d60_30 : cod 60 30 = some (.invokevirtual 125, 33) := by decide +kernel
theorem d60_33 : cod 60 33 = some (.istore_n 3, 34) := by decide +kernel
theorem d60_34 : cod 60 34 = some (.iload_n 3, 35) := by decide +kernel
theorem d60_35 : cod 60 35 = some (.iconst (-1), 36) := by decide +kernel
theorem d60_36 : cod 60 36 = some (.if_icmp .ne 14, 39) := by decide +kernel
theorem d60_39 : cod 60 39 = some (.aload_n 0, 40) := by decide +kernel
theorem d60_40 : cod 60 40 = some (.getfield 19, 43) := by decide +kernel
theorem d60_43 : cod 60 43 = some (.iload_n 1, 44) := by decide +kernel
theorem d60_44 : cod 60 44 = some (.iaload, 45) := by decide +kernel
theorem d60_45 : cod 60 45 = some (.iconst 1, 46) := by decide +kernel
theorem d60_46 : cod 60 46 = some (.invokestatic 129, 49) := by decide +kernel
theorem d60_49 : cod 60 49 = some (.ireturn, 50) := by decide +kernel
theorem d60_50 : cod 60 50 = some (.aload_n 0, 51) := by decide +kernel
theorem d60_51 : cod 60 51 = some (.getfield 25, 54) := by decide +kernel
theorem d60_54 : cod 60 54 = some (.iload_n 3, 55) := by decide +kernel
theorem d60_55 : cod 60 55 = some (.invokevirtual 79, 58) := by decide +kernel
theorem d60_58 : cod 60 58 = some (.checkcast 50, 61) := by decide +kernel
theorem d60_61 : cod 60 61 = some (.getfield 95, 64) := by decide +kernel
theorem d60_64 : cod 60 64 = some (.istore 4, 66) := by decide +kernel
theorem d60_66 : cod 60 66 = some (.iload 4, 68) := by decide +kernel
theorem d60_68 : cod 60 68 = some (.iload 4, 70) := by decide +kernel
theorem d60_70 : cod 60 70 = some (.invokestatic 134, 73) := by decide +kernel
theorem d60_73 : cod 60 73 = some (.iadd, 74) := by decide +kernel
theorem d60_74 : cod 60 74 = some (.aload_n 0, 75) := by decide +kernel
theorem d60_75 : cod 60 75 = some (.getfield 25, 78) := by decide +kernel
theorem d60_78 : cod 60 78 = some (.iload_n 2, 79) := by decide +kernel
theorem d60_79 : cod 60 79 = some (.invokevirtual 79, 82) := by decide +kernel
theorem d60_82 : cod 60 82 = some (.checkcast 50, 85) := by decide +kernel
theorem d60_85 : cod 60 85 = some (.getfield 95, 88) := by decide +kernel
theorem d60_88 : cod 60 88 = some (.invokestatic 137, 91) := by decide +kernel
theorem d60_91 : cod 60 91 = some (.ireturn, 92) := by decide +kernel
theorem d61_0 : cod 61 0 = some (.iconst (-1), 1) := by decide +kernel
theorem d61_1 : cod 61 1 = some (.istore_n 3, 2) := by decide +kernel
theorem d61_2 : cod 61 2 = some (.iconst 0, 3) := by decide +kernel
theorem d61_3 : cod 61 3 = some (.istore 4, 5) := by decide +kernel
theorem d61_5 : cod 61 5 = some (.iload 4, 7) := by decide +kernel
theorem d61_7 : cod 61 7 = some (.aload_n 0, 8) := by decide +kernel
theorem d61_8 : cod 61 8 = some (.getfield 25, 11) := by decide +kernel
theorem d61_11 : cod 61 11 = some (.invokevirtual 59, 14) := by decide +kernel
theorem d61_14 : cod 61 14 = some (.if_icmp .ge 94, 17) := by decide +kernel
theorem d61_17 : cod 61 17 = some (.aload_n 0, 18) := by decide +kernel
theorem d61_18 : cod 61 18 = some (.getfield 25, 21) := by decide +kernel
theorem d61_21 : cod 61 21 = some (.iload 4, 23) := by decide +kernel
theorem d61_23 : cod 61 23 = some (.invokevirtual 79, 26) := by decide +kernel
theorem d61_26 : cod 61 26 = some (.checkcast 50, 29) := by decide +kernel
theorem d61_29 : cod 61 29 = some (.astore 5, 31) := by decide +kernel
theorem d61_31 : cod 61 31 = some (.aload 5, 33) := by decide +kernel
theorem d61_33 : cod 61 33 = some (.getfield 94, 36) := by decide +kernel
theorem d61_36 : cod 61 36 = some (.iconst 1, 37) := by decide +kernel
theorem d61_37 : cod 61 37 = some (.iload_n 1, 38) := by decide +kernel
theorem d61_38 : cod 61 38 = some (.ishl, 39) := by decide +kernel
theorem d61_39 : cod 61 39 = some (.if_icmp .ne 25, 42) := by decide +kernel
theorem d61_42 : cod 61 42 = some (.aload 5, 44) := by decide +kernel
theorem d61_44 : cod 61 44 = some (.getfield 119, 47) := by decide +kernel
theorem d61_47 : cod 61 47 = some (.iload_n 2, 48) := by decide +kernel
theorem d61_48 : cod 61 48 = some (.if_icmp .eq 16, 51) := by decide +kernel
theorem d61_51 : cod 61 51 = some (.aload_n 0, 52) := by decide +kernel
theorem d61_52 : cod 61 52 = some (.iload 4, 54) := by decide +kernel
theorem d61_54 : cod 61 54 = some (.invokevirtual 122, 57) := by decide +kernel
theorem d61_57 : cod 61 57 = some (.ifCond .eq 7, 60) := by decide +kernel
theorem d61_60 : cod 61 60 = some (.iconst 1, 61) := by decide +kernel
theorem d61_61 : cod 61 61 = some (.goto 4, 64) := by decide +kernel
theorem d61_64 : cod 61 64 = some (.iconst 0, 65) := by decide +kernel
theorem d61_65 : cod 61 65 = some (.istore 6, 67) := by decide +kernel
theorem d61_67 : cod 61 67 = some (.iload 6, 69) := by decide +kernel
theorem d61_69 : cod 61 69 = some (.ifCond .eq 33, 72) := by decide +kernel
theorem d61_72 : cod 61 72 = some (.iload_n 3, 73) := by decide +kernel
theorem d61_73 : cod 61 73 = some (.iconst (-1), 74) := by decide +kernel
theorem d61_74 : cod 61 74 = some (.if_icmp .eq 25, 77) := by decide +kernel
theorem d61_77 : cod 61 77 = some (.aload 5, 79) := by decide +kernel
theorem d61_79 : cod 61 79 = some (.getfield 95, 82) := by decide +kernel
theorem d61_82 : cod 61 82 = some (.aload_n 0, 83) := by decide +kernel
theorem d61_83 : cod 61 83 = some (.getfield 25, 86) := by decide +kernel
theorem d61_86 : cod 61 86 = some (.iload_n 3, 87) := by decide +kernel
theorem d61_87 : cod 61 87 = some (.invokevirtual 79, 90) := by decide +kernel
theorem d61_90 : cod 61 90 = some (.checkcast 50, 93) := by decide +kernel
theorem d61_93 : cod 61 93 = some (.getfield 95, 96) := by decide +kernel
theorem d61_96 : cod 61 96 = some (.if_icmp .le 6, 99) := by decide +kernel
theorem d61_99 : cod 61 99 = some (.iload 4, 101) := by decide +kernel
theorem d61_101 : cod 61 101 = some (.istore_n 3, 102) := by decide +kernel
theorem d61_102 : cod 61 102 = some (.iinc 4 1, 105) := by decide +kernel
theorem d61_105 : cod 61 105 = some (.goto (-100), 108) := by decide +kernel
theorem d61_108 : cod 61 108 = some (.iload_n 3, 109) := by decide +kernel
theorem d61_109 : cod 61 109 = some (.ireturn, 110) := by decide +kernel
theorem d62_0 : cod 62 0 = some (.aload_n 0, 1) := by decide +kernel
theorem d62_1 : cod 62 1 = some (.getfield 75, 4) := by decide +kernel
theorem d62_4 : cod 62 4 = some (.iload_n 1, 5) := by decide +kernel
theorem d62_5 : cod 62 5 = some (.lshr, 6) := by decide +kernel
theorem d62_6 : cod 62 6 = some (.lconst 1, 7) := by decide +kernel
theorem d62_7 : cod 62 7 = some (.land, 8) := by decide +kernel
theorem d62_8 : cod 62 8 = some (.lconst 0, 9) := by decide +kernel
theorem d62_9 : cod 62 9 = some (.lcmp, 10) := by decide +kernel
theorem d62_10 : cod 62 10 = some (.ifCond .eq 7, 13) := by decide +kernel
theorem d62_13 : cod 62 13 = some (.iconst 1, 14) := by decide +kernel
theorem d62_14 : cod 62 14 = some (.goto 4, 17) := by decide +kernel
theorem d62_17 : cod 62 17 = some (.iconst 0, 18) := by decide +kernel
theorem d62_18 : cod 62 18 = some (.ireturn, 19) := by decide +kernel
theorem d63_0 : cod 63 0 = some (.iload_n 0, 1) := by decide +kernel
theorem d63_1 : cod 63 1 = some (.bipush 20, 3) := by decide +kernel
theorem d63_3 : cod 63 3 = some (.if_icmp .ge 5, 6) := by decide +kernel
theorem d63_6 : cod 63 6 = some (.iconst 1, 7) := by decide +kernel
theorem d63_7 : cod 63 7 = some (.ireturn, 8) := by decide +kernel
theorem d63_8 : cod 63 8 = some (.iload_n 0, 9) := by decide +kernel
theorem d63_9 : cod 63 9 = some (.bipush 100, 11) := by decide +kernel
theorem d63_11 : cod 63 11 = some (.if_icmp .ge 5, 14) := by decide +kernel
theorem d63_14 : cod 63 14 = some (.iconst 5, 15) := by decide +kernel
theorem d63_15 : cod 63 15 = some (.ireturn, 16) := by decide +kernel
theorem d63_16 : cod 63 16 = some (.iload_n 0, 17) := by decide +kernel
theorem d63_17 : cod 63 17 = some (.sipush 500, 20) := by decide +kernel
theorem d63_20 : cod 63 20 = some (.if_icmp .ge 8, 23) := by decide +kernel
theorem d63_23 : cod 63 23 = some (.bipush 10, 25) := by decide +kernel
theorem d63_25 : cod 63 25 = some (.goto 5, 28) := by decide +kernel
theorem d63_28 : cod 63 28 = some (.bipush 50, 30) := by decide +kernel
theorem d63_30 : cod 63 30 = some (.ireturn, 31) := by decide +kernel
theorem d64_0 : cod 64 0 = some (.aload_n 0, 1) := by decide +kernel
theorem d64_1 : cod 64 1 = some (.getfield 75, 4) := by decide +kernel
theorem d64_4 : cod 64 4 = some (.invokestatic 106, 7) := by decide +kernel
theorem d64_7 : cod 64 7 = some (.ireturn, 8) := by decide +kernel
theorem d65_0 : cod 65 0 = some (.aload_n 0, 1) := by decide +kernel
theorem d65_1 : cod 65 1 = some (.iload_n 1, 2) := by decide +kernel
theorem d65_2 : cod 65 2 = some (.iconst (-1), 3) := by decide +kernel
theorem d65_3 : cod 65 3 = some (.invokevirtual 125, 6) := by decide +kernel
theorem d65_6 : cod 65 6 = some (.istore_n 2, 7) := by decide +kernel
theorem d65_7 : cod 65 7 = some (.iload_n 2, 8) := by decide +kernel
theorem d65_8 : cod 65 8 = some (.iconst (-1), 9) := by decide +kernel
theorem d65_9 : cod 65 9 = some (.if_icmp .ne 7, 12) := by decide +kernel
theorem d65_12 : cod 65 12 = some (.iconst (-1), 13) := by decide +kernel
theorem d65_13 : cod 65 13 = some (.goto 17, 16) := by decide +kernel
theorem d65_16 : cod 65 16 = some (.aload_n 0, 17) := by decide +kernel
theorem d65_17 : cod 65 17 = some (.getfield 25, 20) := by decide +kernel
theorem d65_20 : cod 65 20 = some (.iload_n 2, 21) := by decide +kernel
theorem d65_21 : cod 65 21 = some (.invokevirtual 79, 24) := by decide +kernel
theorem d65_24 : cod 65 24 = some (.checkcast 50, 27) := by decide +kernel
theorem d65_27 : cod 65 27 = some (.getfield 119, 30) := by decide +kernel
theorem d65_30 : cod 65 30 = some (.ireturn, 31) := by decide +kernel
theorem d66_0 : cod 66 0 = some (.iconst 0, 1) := by decide +kernel
theorem d66_1 : cod 66 1 = some (.istore_n 1, 2) := by decide +kernel
theorem d66_2 : cod 66 2 = some (.iconst 0, 3) := by decide +kernel
theorem d66_3 : cod 66 3 = some (.istore_n 2, 4) := by decide +kernel
theorem d66_4 : cod 66 4 = some (.iload_n 2, 5) := by decide +kernel
theorem d66_5 : cod 66 5 = some (.aload_n 0, 6) := by decide +kernel
theorem d66_6 : cod 66 6 = some (.getfield 25, 9) := by decide +kernel
theorem d66_9 : cod 66 9 = some (.invokevirtual 59, 12) := by decide +kernel
theorem d66_12 : cod 66 12 = some (.if_icmp .ge 55, 15) := by decide +kernel
theorem d66_15 : cod 66 15 = some (.aload_n 0, 16) := by decide +kernel
theorem d66_16 : cod 66 16 = some (.iload_n 2, 17) := by decide +kernel
theorem d66_17 : cod 66 17 = some (.invokevirtual 102, 20) := by decide +kernel
theorem d66_20 : cod 66 20 = some (.ifCond .eq 41, 23) := by decide +kernel
theorem d66_23 : cod 66 23 = some (.iload_n 1, 24) := by decide +kernel
theorem d66_24 : cod 66 24 = some (.aload_n 0, 25) := by decide +kernel
theorem d66_25 : cod 66 25 = some (.getfield 25, 28) := by decide +kernel
theorem d66_28 : cod 66 28 = some (.iload_n 2, 29) := by decide +kernel
theorem d66_29 : cod 66 29 = some (.invokevirtual 79, 32) := by decide +kernel
theorem d66_32 : cod 66 32 = some (.checkcast 50, 35) := by decide +kernel
theorem d66_35 : cod 66 35 = some (.getfield 94, 38) := by decide +kernel
theorem d66_38 : cod 66 38 = some (.iand, 39) := by decide +kernel
theorem d66_39 : cod 66 39 = some (.ifCond .eq 5, 42) := by decide +kernel
theorem d66_42 : cod 66 42 = some (.iconst 0, 43) := by decide +kernel
theorem d66_43 : cod 66 43 = some (.ireturn, 44) := by decide +kernel
theorem d66_44 : cod 66 44 = some (.iload_n 1, 45) := by decide +kernel
theorem d66_45 : cod 66 45 = some (.aload_n 0, 46) := by decide +kernel
theorem d66_46 : cod 66 46 = some (.getfield 25, 49) := by decide +kernel
theorem d66_49 : cod 66 49 = some (.iload_n 2, 50) := by decide +kernel
theorem d66_50 : cod 66 50 = some (.invokevirtual 79, 53) := by decide +kernel
theorem d66_53 : cod 66 53 = some (.checkcast 50, 56) := by decide +kernel
theorem d66_56 : cod 66 56 = some (.getfield 94, 59) := by decide +kernel
theorem d66_59 : cod 66 59 = some (.ior, 60) := by decide +kernel
theorem d66_60 : cod 66 60 = some (.istore_n 1, 61) := by decide +kernel
theorem d66_61 : cod 66 61 = some (.iinc 2 1, 64) := by decide +kernel
theorem d66_64 : cod 66 64 = some (.goto (-60), 67) := by decide +kernel
theorem d66_67 : cod 66 67 = some (.iconst 1, 68) := by decide +kernel
theorem d66_68 : cod 66 68 = some (.ireturn, 69) := by decide +kernel
theorem d67_0 : cod 67 0 = some (.aload_n 0, 1) := by decide +kernel
theorem d67_1 : cod 67 1 = some (.invokespecial 3, 4) := by decide +kernel
theorem d67_4 : cod 67 4 = some (.aload_n 0, 5) := by decide +kernel
theorem d67_5 : cod 67 5 = some (.iconst 3, 6) := by decide +kernel
theorem d67_6 : cod 67 6 = some (.anewarray 9, 9) := by decide +kernel
theorem d67_9 : cod 67 9 = some (.putfield 11, 12) := by decide +kernel
theorem d67_12 : cod 67 12 = some (.aload_n 0, 13) := by decide +kernel
theorem d67_13 : cod 67 13 = some (.bipush 8, 15) := by decide +kernel
theorem d67_15 : cod 67 15 = some (.putfield 17, 18) := by decide +kernel
theorem d67_18 : cod 67 18 = some (.aload_n 0, 19) := by decide +kernel
theorem d67_19 : cod 67 19 = some (.sipush 255, 22) := by decide +kernel
theorem d67_22 : cod 67 22 = some (.putfield 21, 25) := by decide +kernel
theorem d67_25 : cod 67 25 = some (.aload_n 0, 26) := by decide +kernel
theorem d67_26 : cod 67 26 = some (.iconst 3, 27) := by decide +kernel
theorem d67_27 : cod 67 27 = some (.newarray .int, 29) := by decide +kernel
theorem d67_29 : cod 67 29 = some (.putfield 24, 32) := by decide +kernel
theorem d67_32 : cod 67 32 = some (.aload_n 0, 33) := by decide +kernel
theorem d67_33 : cod 67 33 = some (.iconst 3, 34) := by decide +kernel
theorem d67_34 : cod 67 34 = some (.newarray .int, 36) := by decide +kernel
theorem d67_36 : cod 67 36 = some (.putfield 28, 39) := by decide +kernel
theorem d67_39 : cod 67 39 = some (.aload_n 0, 40) := by decide +kernel
theorem d67_40 : cod 67 40 = some (.iconst 3, 41) := by decide +kernel
theorem d67_41 : cod 67 41 = some (.newarray .int, 43) := by decide +kernel
theorem d67_43 : cod 67 43 = some (.putfield 31, 46) := by decide +kernel
theorem d67_46 : cod 67 46 = some (.return_, 47) := by decide +kernel
theorem d68_0 : cod 68 0 = some (.aload_n 0, 1) := by decide +kernel
theorem d68_1 : cod 68 1 = some (.iconst 0, 2) := by decide +kernel
theorem d68_2 : cod 68 2 = some (.putfield 34, 5) := by decide +kernel
theorem d68_5 : cod 68 5 = some (.aload_n 0, 6) := by decide +kernel
theorem d68_6 : cod 68 6 = some (.invokevirtual 37, 9) := by decide +kernel
theorem d68_9 : cod 68 9 = some (.return_, 10) := by decide +kernel
theorem d69_0 : cod 69 0 = some (.aload_n 0, 1) := by decide +kernel
theorem d69_1 : cod 69 1 = some (.getfield 24, 4) := by decide +kernel
theorem d69_4 : cod 69 4 = some (.iconst 0, 5) := by decide +kernel
theorem d69_5 : cod 69 5 = some (.invokestatic 43, 8) := by decide +kernel
theorem d69_8 : cod 69 8 = some (.aload_n 0, 9) := by decide +kernel
theorem d69_9 : cod 69 9 = some (.getfield 34, 12) := by decide +kernel
theorem d69_12 : cod 69 12 = some (.ifCond .ne 22, 15) := by decide +kernel
theorem d69_15 : cod 69 15 = some (.aload_n 0, 16) := by decide +kernel
theorem d69_16 : cod 69 16 = some (.bipush 8, 18) := by decide +kernel
theorem d69_18 : cod 69 18 = some (.putfield 17, 21) := by decide +kernel
theorem d69_21 : cod 69 21 = some (.aload_n 0, 22) := by decide +kernel
theorem d69_22 : cod 69 22 = some (.sipush 255, 25) := by decide +kernel
theorem d69_25 : cod 69 25 = some (.putfield 21, 28) := by decide +kernel
theorem d69_28 : cod 69 28 = some (.aload_n 0, 29) := by decide +kernel
theorem d69_29 : cod 69 29 = some (.iconst 0, 30) := by decide +kernel
theorem d69_30 : cod 69 30 = some (.putfield 49, 33) := by decide +kernel
theorem d69_33 : cod 69 33 = some (.return_, 34) := by decide +kernel
theorem d69_34 : cod 69 34 = some (.aload_n 0, 35) := by decide +kernel
theorem d69_35 : cod 69 35 = some (.iconst 0, 36) := by decide +kernel
theorem d69_36 : cod 69 36 = some (.putfield 17, 39) := by decide +kernel
theorem d69_39 : cod 69 39 = some (.aload_n 0, 40) := by decide +kernel
theorem d69_40 : cod 69 40 = some (.iconst 0, 41) := by decide +kernel
theorem d69_41 : cod 69 41 = some (.putfield 21, 44) := by decide +kernel
theorem d69_44 : cod 69 44 = some (.aload_n 0, 45) := by decide +kernel
theorem d69_45 : cod 69 45 = some (.iconst (-1), 46) := by decide +kernel
theorem d69_46 : cod 69 46 = some (.putfield 49, 49) := by decide +kernel
theorem d69_49 : cod 69 49 = some (.iconst 0, 50) := by decide +kernel
theorem d69_50 : cod 69 50 = some (.istore_n 1, 51) := by decide +kernel
theorem d69_51 : cod 69 51 = some (.iload_n 1, 52) := by decide +kernel
theorem d69_52 : cod 69 52 = some (.bipush 8, 54) := by decide +kernel
theorem d69_54 : cod 69 54 = some (.if_icmp .ge 31, 57) := by decide +kernel
theorem d69_57 : cod 69 57 = some (.aload_n 0, 58) := by decide +kernel
theorem d69_58 : cod 69 58 = some (.iconst 0, 59) := by decide +kernel
theorem d69_59 : cod 69 59 = some (.iload_n 1, 60) := by decide +kernel
theorem d69_60 : cod 69 60 = some (.iconst 0, 61) := by decide +kernel
theorem d69_61 : cod 69 61 = some (.invokevirtual 52, 64) := by decide +kernel
theorem d69_64 : cod 69 64 = some (.ifCond .eq 15, 67) := by decide +kernel
theorem d69_67 : cod 69 67 = some (.aload_n 0, 68) := by decide +kernel
theorem d69_68 : cod 69 68 = some (.dup, 69) := by decide +kernel
theorem d69_69 : cod 69 69 = some (.getfield 21, 72) := by decide +kernel
theorem d69_72 : cod 69 72 = some (.iconst 1, 73) := by decide +kernel
theorem d69_73 : cod 69 73 = some (.iload_n 1, 74) := by decide +kernel
theorem d69_74 : cod 69 74 = some (.ishl, 75) := by decide +kernel
theorem d69_75 : cod 69 75 = some (.ior, 76) := by decide +kernel
theorem d69_76 : cod 69 76 = some (.putfield 21, 79) := by decide +kernel
theorem d69_79 : cod 69 79 = some (.iinc 1 1, 82) := by decide +kernel
theorem d69_82 : cod 69 82 = some (.goto (-31), 85) := by decide +kernel
theorem d69_85 : cod 69 85 = some (.aload_n 0, 86) := by decide +kernel
theorem d69_86 : cod 69 86 = some (.getfield 17, 89) := by decide +kernel
theorem d69_89 : cod 69 89 = some (.ifCond .ne 8, 92) := by decide +kernel
theorem d69_92 : cod 69 92 = some (.aload_n 0, 93) := by decide +kernel
theorem d69_93 : cod 69 93 = some (.iconst 0, 94) := by decide +kernel
theorem d69_94 : cod 69 94 = some (.putfield 49, 97) := by decide +kernel
theorem d69_97 : cod 69 97 = some (.return_, 98) := by decide +kernel
theorem d70_0 : cod 70 0 = some (.iload_n 1, 1) := by decide +kernel
theorem d70_1 : cod 70 1 = some (.aload_n 0, 2) := by decide +kernel
theorem d70_2 : cod 70 2 = some (.getfield 34, 5) := by decide +kernel
theorem d70_5 : cod 70 5 = some (.if_icmp .lt 5, 8) := by decide +kernel
theorem d70_8 : cod 70 8 = some (.iconst 0, 9) := by decide +kernel
theorem d70_9 : cod 70 9 = some (.ireturn, 10) := by decide +kernel
theorem d70_10 : cod 70 10 = some (.aload_n 0, 11) := by decide +kernel
theorem d70_11 : cod 70 11 = some (.getfield 11, 14) := by decide +kernel
theorem d70_14 : cod 70 14 = some (.iload_n 1, 15) := by decide +kernel
theorem d70_15 : cod 70 15 = some (.aaload, 16) := by decide +kernel
theorem d70_16 : cod 70 16 = some (.astore 4, 18) := by decide +kernel
theorem d70_18 : cod 70 18 = some (.aload 4, 20) := by decide +kernel
theorem d70_20 : cod 70 20 = some (.getfield 56, 23) := by decide +kernel
theorem d70_23 : cod 70 23 = some (.iload_n 2, 24) := by decide +kernel
theorem d70_24 : cod 70 24 = some (.iaload, 25) := by decide +kernel
theorem d70_25 : cod 70 25 = some (.aload 4, 27) := by decide +kernel
theorem d70_27 : cod 70 27 = some (.iload_n 3, 28) := by decide +kernel
theorem d70_28 : cod 70 28 = some (.invokevirtual 59, 31) := by decide +kernel
theorem d70_31 : cod 70 31 = some (.iconst (-1), 32) := by decide +kernel
theorem d70_32 : cod 70 32 = some (.ixor, 33) := by decide +kernel
theorem d70_33 : cod 70 33 = some (.iand, 34) := by decide +kernel
theorem d70_34 : cod 70 34 = some (.istore 5, 36) := by decide +kernel
theorem d70_36 : cod 70 36 = some (.iload_n 1, 37) := by decide +kernel
theorem d70_37 : cod 70 37 = some (.aload_n 0, 38) := by decide +kernel
theorem d70_38 : cod 70 38 = some (.getfield 34, 41) := by decide +kernel
theorem d70_41 : cod 70 41 = some (.iconst 1, 42) := by decide +kernel
theorem d70_42 : cod 70 42 = some (.isub, 43) := by decide +kernel
theorem d70_43 : cod 70 43 = some (.if_icmp .ne 11, 46) := by decide +kernel
theorem d70_46 : cod 70 46 = some (.aload_n 0, 47) := by decide +kernel
theorem d70_47 : cod 70 47 = some (.iload 5, 49) := by decide +kernel
theorem d70_49 : cod 70 49 = some (.iload_n 3, 50) := by decide +kernel
theorem d70_50 : cod 70 50 = some (.invokevirtual 63, 53) := by decide +kernel
theorem d70_53 : cod 70 53 = some (.ireturn, 54) := by decide +kernel
theorem d70_54 : cod 70 54 = some (.iconst 0, 55) := by decide +kernel
theorem d70_55 : cod 70 55 = some (.istore 6, 57) := by decide +kernel
theorem d70_57 : cod 70 57 = some (.iconst 0, 58) := by decide +kernel
theorem d70_58 : cod 70 58 = some (.istore 7, 60) := by decide +kernel
theorem d70_60 : cod 70 60 = some (.iload 7, 62) := by decide +kernel
theorem d70_62 : cod 70 62 = some (.bipush 24, 64) := by decide +kernel
theorem d70_64 : cod 70 64 = some (.if_icmp .ge 63, 67) := by decide +kernel
theorem d70_67 : cod 70 67 = some (.iload 7, 69) := by decide +kernel
theorem d70_69 : cod 70 69 = some (.iload 5, 71) := by decide +kernel
theorem d70_71 : cod 70 71 = some (.invokestatic 67, 74) := by decide +kernel
theorem d70_74 : cod 70 74 = some (.ifCond .eq 47, 77) := by decide +kernel
theorem d70_77 : cod 70 77 = some (.aload_n 0, 78) := by decide +kernel
theorem d70_78 : cod 70 78 = some (.getfield 31, 81) := by decide +kernel
theorem d70_81 : cod 70 81 = some (.iload_n 1, 82) := by decide +kernel
theorem d70_82 : cod 70 82 = some (.iload 7, 84) := by decide +kernel
theorem d70_84 : cod 70 84 = some (.iastore, 85) := by decide +kernel
theorem d70_85 : cod 70 85 = some (.aload_n 0, 86) := by decide +kernel
theorem d70_86 : cod 70 86 = some (.iload_n 1, 87) := by decide +kernel
theorem d70_87 : cod 70 87 = some (.iconst 1, 88) := by decide +kernel
theorem d70_88 : cod 70 88 = some (.iadd, 89) := by decide +kernel
theorem d70_89 : cod 70 89 = some (.iload_n 2, 90) := by decide +kernel
theorem d70_90 : cod 70 90 = some (.iload_n 3, 91) := by decide +kernel
theorem d70_91 : cod 70 91 = some (.aload 4, 93) := by decide +kernel
theorem d70_93 : cod 70 93 = some (.iload 7, 95) := by decide +kernel
theorem d70_95 : cod 70 95 = some (.invokevirtual 70, 98) := by decide +kernel
theorem d70_98 : cod 70 98 = some (.ior, 99) := by decide +kernel
theorem d70_99 : cod 70 99 = some (.invokevirtual 52, 102) := by decide +kernel
theorem d70_102 : cod 70 102 = some (.ifCond .eq 19, 105) := by decide +kernel
theorem d70_105 : cod 70 105 = some (.aload_n 0, 106) := by decide +kernel
theorem d70_106 : cod 70 106 = some (.getfield 24, 109) := by decide +kernel
theorem d70_109 : cod 70 109 = some (.iload_n 1, 110) := by decide +kernel
theorem d70_110 : cod 70 110 = some (.dup2, 111) := by decide +kernel
theorem d70_111 : cod 70 111 = some (.iaload, 112) := by decide +kernel
theorem d70_112 : cod 70 112 = some (.iconst 1, 113) := by decide +kernel
theorem d70_113 : cod 70 113 = some (.iload 7, 115) := by decide +kernel
theorem d70_115 : cod 70 115 = some (.ishl, 116) := by decide +kernel
theorem d70_116 : cod 70 116 = some (.ior, 117) := by decide +kernel
theorem d70_117 : cod 70 117 = some (.iastore, 118) := by decide +kernel
theorem d70_118 : cod 70 118 = some (.iconst 1, 119) := by decide +kernel
theorem d70_119 : cod 70 119 = some (.istore 6, 121) := by decide +kernel
theorem d70_121 : cod 70 121 = some (.iinc 7 1, 124) := by decide +kernel
theorem d70_124 : cod 70 124 = some (.goto (-64), 127) := by decide +kernel
theorem d70_127 : cod 70 127 = some (.iload 6, 129) := by decide +kernel
theorem d70_129 : cod 70 129 = some (.ireturn, 130) := by decide +kernel
theorem d71_0 : cod 71 0 = some (.iload_n 1, 1) := by decide +kernel
theorem d71_1 : cod 71 1 = some (.ifCond .ne 5, 4) := by decide +kernel
theorem d71_4 : cod 71 4 = some (.iconst 0, 5) := by decide +kernel
theorem d71_5 : cod 71 5 = some (.ireturn, 6) := by decide +kernel
theorem d71_6 : cod 71 6 = some (.aload_n 0, 7) := by decide +kernel
theorem d71_7 : cod 71 7 = some (.getfield 34, 10) := by decide +kernel
theorem d71_10 : cod 71 10 = some (.iconst 1, 11) := by decide +kernel
theorem d71_11 : cod 71 11 = some (.isub, 12) := by decide +kernel
theorem d71_12 : cod 71 12 = some (.istore_n 3, 13) := by decide +kernel
theorem d71_13 : cod 71 13 = some (.aload_n 0, 14) := by decide +kernel
theorem d71_14 : cod 71 14 = some (.getfield 17, 17) := by decide +kernel
theorem d71_17 : cod 71 17 = some (.ifCond .ne 30, 20) := by decide +kernel
theorem d71_20 : cod 71 20 = some (.aload_n 0, 21) := by decide +kernel
theorem d71_21 : cod 71 21 = some (.getfield 31, 24) := by decide +kernel
theorem d71_24 : cod 71 24 = some (.iload_n 3, 25) := by decide +kernel
theorem d71_25 : cod 71 25 = some (.iload_n 1, 26) := by decide +kernel
theorem d71_26 : cod 71 26 = some (.invokestatic 73, 29) := by decide +kernel
theorem d71_29 : cod 71 29 = some (.iastore, 30) := by decide +kernel
theorem d71_30 : cod 71 30 = some (.aload_n 0, 31) := by decide +kernel
theorem d71_31 : cod 71 31 = some (.getfield 31, 34) := by decide +kernel
theorem d71_34 : cod 71 34 = some (.iconst 0, 35) := by decide +kernel
theorem d71_35 : cod 71 35 = some (.aload_n 0, 36) := by decide +kernel
theorem d71_36 : cod 71 36 = some (.getfield 28, 39) := by decide +kernel
theorem d71_39 : cod 71 39 = some (.iconst 0, 40) := by decide +kernel
theorem d71_40 : cod 71 40 = some (.aload_n 0, 41) := by decide +kernel
theorem d71_41 : cod 71 41 = some (.getfield 34, 44) := by decide +kernel
theorem d71_44 : cod 71 44 = some (.invokestatic 76, 47) := by decide +kernel
theorem d71_47 : cod 71 47 = some (.aload_n 0, 48) := by decide +kernel
theorem d71_48 : cod 71 48 = some (.dup, 49) := by decide +kernel
theorem d71_49 : cod 71 49 = some (.getfield 17, 52) := by decide +kernel
theorem d71_52 : cod 71 52 = some (.iload_n 1, 53) := by decide +kernel
theorem d71_53 : cod 71 53 = some (.invokestatic 82, 56) := by decide +kernel
theorem d71_56 : cod 71 56 = some (.iadd, 57) := by decide +kernel
theorem d71_57 : cod 71 57 = some (.putfield 17, 60) := by decide +kernel
theorem d71_60 : cod 71 60 = some (.aload_n 0, 61) := by decide +kernel
theorem d71_61 : cod 71 61 = some (.getfield 24, 64) := by decide +kernel
theorem d71_64 : cod 71 64 = some (.iload_n 3, 65) := by decide +kernel
theorem d71_65 : cod 71 65 = some (.dup2, 66) := by decide +kernel
theorem d71_66 : cod 71 66 = some (.iaload, 67) := by decide +kernel
theorem d71_67 : cod 71 67 = some (.iload_n 1, 68) := by decide +kernel
theorem d71_68 : cod 71 68 = some (.ior, 69) := by decide +kernel
theorem d71_69 : cod 71 69 = some (.iastore, 70) := by decide +kernel
theorem d71_70 : cod 71 70 = some (.aload_n 0, 71) := by decide +kernel
theorem d71_71 : cod 71 71 = some (.dup, 72) := by decide +kernel
theorem d71_72 : cod 71 72 = some (.getfield 49, 75) := by decide +kernel
theorem d71_75 : cod 71 75 = some (.iload_n 2, 76) := by decide +kernel
theorem d71_76 : cod 71 76 = some (.aload_n 0, 77) := by decide +kernel
theorem d71_77 : cod 71 77 = some (.getfield 11, 80) := by decide +kernel
theorem d71_80 : cod 71 80 = some (.iload_n 3, 81) := by decide +kernel
theorem d71_81 : cod 71 81 = some (.aaload, 82) := by decide +kernel
theorem d71_82 : cod 71 82 = some (.iload_n 1, 83) := by decide +kernel
theorem d71_83 : cod 71 83 = some (.invokevirtual 87, 86) := by decide +kernel
theorem d71_86 : cod 71 86 = some (.ior, 87) := by decide +kernel
theorem d71_87 : cod 71 87 = some (.iand, 88) := by decide +kernel
theorem d71_88 : cod 71 88 = some (.putfield 49, 91) := by decide +kernel
theorem d71_91 : cod 71 91 = some (.iconst 1, 92) := by decide +kernel
theorem d71_92 : cod 71 92 = some (.ireturn, 93) := by decide +kernel
theorem d72_0 : cod 72 0 = some (.aload_n 1, 1) := by decide +kernel
theorem d72_1 : cod 72 1 = some (.aload_n 0, 2) := by decide +kernel
theorem d72_2 : cod 72 2 = some (.getfield 34, 5) := by decide +kernel
theorem d72_5 : cod 72 5 = some (.putfield 40, 8) := by decide +kernel
theorem d72_8 : cod 72 8 = some (.aload_n 0, 9) := by decide +kernel
theorem d72_9 : cod 72 9 = some (.getfield 11, 12) := by decide +kernel
theorem d72_12 : cod 72 12 = some (.aload_n 0, 13) := by decide +kernel
theorem d72_13 : cod 72 13 = some (.getfield 34, 16) := by decide +kernel
theorem d72_16 : cod 72 16 = some (.aload_n 1, 17) := by decide +kernel
theorem d72_17 : cod 72 17 = some (.aastore, 18) := by decide +kernel
theorem d72_18 : cod 72 18 = some (.aload_n 0, 19) := by decide +kernel
theorem d72_19 : cod 72 19 = some (.dup, 20) := by decide +kernel
theorem d72_20 : cod 72 20 = some (.getfield 34, 23) := by decide +kernel
theorem d72_23 : cod 72 23 = some (.iconst 1, 24) := by decide +kernel
theorem d72_24 : cod 72 24 = some (.iadd, 25) := by decide +kernel
theorem d72_25 : cod 72 25 = some (.putfield 34, 28) := by decide +kernel
theorem d72_28 : cod 72 28 = some (.return_, 29) := by decide +kernel
theorem d73_0 : cod 73 0 = some (.iconst 0, 1) := by decide +kernel
theorem d73_1 : cod 73 1 = some (.istore_n 1, 2) := by decide +kernel
theorem d73_2 : cod 73 2 = some (.iconst 0, 3) := by decide +kernel
theorem d73_3 : cod 73 3 = some (.istore_n 2, 4) := by decide +kernel
theorem d73_4 : cod 73 4 = some (.iload_n 2, 5) := by decide +kernel
theorem d73_5 : cod 73 5 = some (.aload_n 0, 6) := by decide +kernel
theorem d73_6 : cod 73 6 = some (.getfield 34, 9) := by decide +kernel
theorem d73_9 : cod 73 9 = some (.if_icmp .ge 25, 12) := by decide +kernel
theorem d73_12 : cod 73 12 = some (.aload_n 0, 13) := by decide +kernel
theorem d73_13 : cod 73 13 = some (.getfield 24, 16) := by decide +kernel
theorem d73_16 : cod 73 16 = some (.iload_n 2, 17) := by decide +kernel
theorem d73_17 : cod 73 17 = some (.iaload, 18) := by decide +kernel
theorem d73_18 : cod 73 18 = some (.invokestatic 82, 21) := by decide +kernel
theorem d73_21 : cod 73 21 = some (.iconst 1, 22) := by decide +kernel
theorem d73_22 : cod 73 22 = some (.if_icmp .ne 6, 25) := by decide +kernel
theorem d73_25 : cod 73 25 = some (.iinc 1 1, 28) := by decide +kernel
theorem d73_28 : cod 73 28 = some (.iinc 2 1, 31) := by decide +kernel
theorem d73_31 : cod 73 31 = some (.goto (-27), 34) := by decide +kernel
theorem d73_34 : cod 73 34 = some (.iload_n 1, 35) := by decide +kernel
theorem d73_35 : cod 73 35 = some (.ireturn, 36) := by decide +kernel
theorem d74_0 : cod 74 0 = some (.aload_n 0, 1) := by decide +kernel
theorem d74_1 : cod 74 1 = some (.getfield 24, 4) := by decide +kernel
theorem d74_4 : cod 74 4 = some (.aload_n 1, 5) := by decide +kernel
theorem d74_5 : cod 74 5 = some (.getfield 40, 8) := by decide +kernel
theorem d74_8 : cod 74 8 = some (.iaload, 9) := by decide +kernel
theorem d74_9 : cod 74 9 = some (.ireturn, 10) := by decide +kernel
theorem d75_0 : cod 75 0 = some (.aload_n 0, 1) := by decide +kernel
theorem d75_1 : cod 75 1 = some (.invokespecial 3, 4) := by decide +kernel
theorem d75_4 : cod 75 4 = some (.aload_n 0, 5) := by decide +kernel
theorem d75_5 : cod 75 5 = some (.bipush 8, 7) := by decide +kernel
theorem d75_7 : cod 75 7 = some (.newarray .boolean, 9) := by decide +kernel
theorem d75_9 : cod 75 9 = some (.putfield 9, 12) := by decide +kernel
theorem d75_12 : cod 75 12 = some (.aload_n 0, 13) := by decide +kernel
theorem d75_13 : cod 75 13 = some (.bipush 24, 15) := by decide +kernel
theorem d75_15 : cod 75 15 = some (.newarray .int, 17) := by decide +kernel
theorem d75_17 : cod 75 17 = some (.putfield 15, 20) := by decide +kernel
theorem d75_20 : cod 75 20 = some (.return_, 21) := by decide +kernel
theorem d76_0 : cod 76 0 = some (.aload_n 0, 1) := by decide +kernel
theorem d76_1 : cod 76 1 = some (.getfield 9, 4) := by decide +kernel
theorem d76_4 : cod 76 4 = some (.iload_n 1, 5) := by decide +kernel
theorem d76_5 : cod 76 5 = some (.baload, 6) := by decide +kernel
theorem d76_6 : cod 76 6 = some (.ifCond .ne 20, 9) := by decide +kernel
theorem d76_9 : cod 76 9 = some (.aload_n 0, 10) := by decide +kernel
theorem d76_10 : cod 76 10 = some (.getfield 9, 13) := by decide +kernel
theorem d76_13 : cod 76 13 = some (.iload_n 1, 14) := by decide +kernel
theorem d76_14 : cod 76 14 = some (.iconst 1, 15) := by decide +kernel
theorem d76_15 : cod 76 15 = some (.bastore, 16) := by decide +kernel
theorem d76_16 : cod 76 16 = some (.aload_n 0, 17) := by decide +kernel
theorem d76_17 : cod 76 17 = some (.dup, 18) := by decide +kernel
theorem d76_18 : cod 76 18 = some (.getfield 19, 21) := by decide +kernel
theorem d76_21 : cod 76 21 = some (.iconst 1, 22) := by decide +kernel
theorem d76_22 : cod 76 22 = some (.iadd, 23) := by decide +kernel
theorem d76_23 : cod 76 23 = some (.putfield 19, 26) := by decide +kernel
theorem d76_26 : cod 76 26 = some (.aload_n 0, 27) := by decide +kernel
theorem d76_27 : cod 76 27 = some (.getfield 15, 30) := by decide +kernel
theorem d76_30 : cod 76 30 = some (.iload_n 1, 31) := by decide +kernel
theorem d76_31 : cod 76 31 = some (.iconst 3, 32) := by decide +kernel
theorem d76_32 : cod 76 32 = some (.imul, 33) := by decide +kernel
theorem d76_33 : cod 76 33 = some (.iload_n 2, 34) := by decide +kernel
theorem d76_34 : cod 76 34 = some (.iastore, 35) := by decide +kernel
theorem d76_35 : cod 76 35 = some (.aload_n 0, 36) := by decide +kernel
theorem d76_36 : cod 76 36 = some (.getfield 15, 39) := by decide +kernel
theorem d76_39 : cod 76 39 = some (.iload_n 1, 40) := by decide +kernel
theorem d76_40 : cod 76 40 = some (.iconst 3, 41) := by decide +kernel
theorem d76_41 : cod 76 41 = some (.imul, 42) := by decide +kernel
theorem d76_42 : cod 76 42 = some (.iconst 1, 43) := by decide +kernel
theorem d76_43 : cod 76 43 = some (.iadd, 44) := by decide +kernel
theorem d76_44 : cod 76 44 = some (.iload_n 3, 45) := by decide +kernel
theorem d76_45 : cod 76 45 = some (.iastore, 46) := by decide +kernel
theorem d76_46 : cod 76 46 = some (.aload_n 0, 47) := by decide +kernel
theorem d76_47 : cod 76 47 = some (.getfield 15, 50) := by decide +kernel
theorem d76_50 : cod 76 50 = some (.iload_n 1, 51) := by decide +kernel
theorem d76_51 : cod 76 51 = some (.iconst 3, 52) := by decide +kernel
theorem d76_52 : cod 76 52 = some (.imul, 53) := by decide +kernel
theorem d76_53 : cod 76 53 = some (.iconst 2, 54) := by decide +kernel
theorem d76_54 : cod 76 54 = some (.iadd, 55) := by decide +kernel
theorem d76_55 : cod 76 55 = some (.iload 4, 57) := by decide +kernel
theorem d76_57 : cod 76 57 = some (.iastore, 58) := by decide +kernel
theorem d76_58 : cod 76 58 = some (.return_, 59) := by decide +kernel
theorem d77_0 : cod 77 0 = some (.aload_n 1, 1) := by decide +kernel
theorem d77_1 : cod 77 1 = some (.getfield 23, 4) := by decide +kernel
theorem d77_4 : cod 77 4 = some (.ifCond .ne 5, 7) := by decide +kernel
theorem d77_7 : cod 77 7 = some (.iconst (-1), 8) := by decide +kernel
theorem d77_8 : cod 77 8 = some (.ireturn, 9) := by decide +kernel
theorem d77_9 : cod 77 9 = some (.iconst (-1), 10) := by decide +kernel
theorem d77_10 : cod 77 10 = some (.istore_n 2, 11) := by decide +kernel
theorem d77_11 : cod 77 11 = some (.iconst 0, 12) := by decide +kernel
theorem d77_12 : cod 77 12 = some (.istore_n 3, 13) := by decide +kernel
theorem d77_13 : cod 77 13 = some (.iload_n 3, 14) := by decide +kernel
theorem d77_14 : cod 77 14 = some (.bipush 8, 16) := by decide +kernel
theorem d77_16 : cod 77 16 = some (.if_icmp .ge 52, 19) := by decide +kernel
theorem d77_19 : cod 77 19 = some (.iload_n 2, 20) := by decide +kernel
theorem d77_20 : cod 77 20 = some (.iconst (-1), 21) := by decide +kernel
theorem d77_21 : cod 77 21 = some (.if_icmp .eq 18, 24) := by decide +kernel
theorem d77_24 : cod 77 24 = some (.aload_n 0, 25) := by decide +kernel
theorem d77_25 : cod 77 25 = some (.iload_n 3, 26) := by decide +kernel
theorem d77_26 : cod 77 26 = some (.aload_n 1, 27) := by decide +kernel
theorem d77_27 : cod 77 27 = some (.invokevirtual 29, 30) := by decide +kernel
theorem d77_30 : cod 77 30 = some (.aload_n 0, 31) := by decide +kernel
theorem d77_31 : cod 77 31 = some (.iload_n 2, 32) := by decide +kernel
theorem d77_32 : cod 77 32 = some (.aload_n 1, 33) := by decide +kernel
theorem d77_33 : cod 77 33 = some (.invokevirtual 29, 36) := by decide +kernel
theorem d77_36 : cod 77 36 = some (.if_icmp .ge 7, 39) := by decide +kernel
theorem d77_39 : cod 77 39 = some (.iconst 1, 40) := by decide +kernel
theorem d77_40 : cod 77 40 = some (.goto 4, 43) := by decide +kernel
theorem d77_43 : cod 77 43 = some (.iconst 0, 44) := by decide +kernel
theorem d77_44 : cod 77 44 = some (.istore 4, 46) := by decide +kernel
theorem d77_46 : cod 77 46 = some (.aload_n 0, 47) := by decide +kernel
theorem d77_47 : cod 77 47 = some (.getfield 9, 50) := by decide +kernel
theorem d77_50 : cod 77 50 = some (.iload_n 3, 51) := by decide +kernel
theorem d77_51 : cod 77 51 = some (.baload, 52) := by decide +kernel
theorem d77_52 : cod 77 52 = some (.ifCond .eq 10, 55) := by decide +kernel
theorem d77_55 : cod 77 55 = some (.iload 4, 57) := by decide +kernel
theorem d77_57 : cod 77 57 = some (.ifCond .eq 5, 60) := by decide +kernel
theorem d77_60 : cod 77 60 = some (.iload_n 3, 61) := by decide +kernel
theorem d77_61 : cod 77 61 = some (.istore_n 2, 62) := by decide +kernel
theorem d77_62 : cod 77 62 = some (.iinc 3 1, 65) := by decide +kernel
theorem d77_65 : cod 77 65 = some (.goto (-52), 68) := by decide +kernel
theorem d77_68 : cod 77 68 = some (.iload_n 2, 69) := by decide +kernel
theorem d77_69 : cod 77 69 = some (.ireturn, 70) := by decide +kernel
theorem d78_0 : cod 78 0 = some (.iconst 0, 1) := by decide +kernel
theorem d78_1 : cod 78 1 = some (.istore_n 3, 2) := by decide +kernel
theorem d78_2 : cod 78 2 = some (.iconst 0, 3) := by decide +kernel
theorem d78_3 : cod 78 3 = some (.istore 4, 5) := by decide +kernel
theorem d78_5 : cod 78 5 = some (.iload 4, 7) := by decide +kernel
theorem d78_7 : cod 78 7 = some (.iconst 3, 8) := by decide +kernel
theorem d78_8 : cod 78 8 = some (.if_icmp .ge 56, 11) := by decide +kernel
theorem d78_11 : cod 78 11 = some (.aload_n 0, 12) := by decide +kernel
theorem d78_12 : cod 78 12 = some (.getfield 15, 15) := by decide +kernel
theorem d78_15 : cod 78 15 = some (.iload_n 1, 16) := by decide +kernel
theorem d78_16 : cod 78 16 = some (.iconst 3, 17) := by decide +kernel
theorem d78_17 : cod 78 17 = some (.imul, 18) := by decide +kernel
theorem d78_18 : cod 78 18 = some (.iload 4, 20) := by decide +kernel
theorem d78_20 : cod 78 20 = some (.iadd, 21) := by decide +kernel
theorem d78_21 : cod 78 21 = some (.iaload, 22) := by decide +kernel
theorem d78_22 : cod 78 22 = some (.istore 5, 24) := by decide +kernel
theorem d78_24 : cod 78 24 = some (.iload 5, 26) := by decide +kernel
theorem d78_26 : cod 78 26 = some (.bipush 99, 28) := by decide +kernel
theorem d78_28 : cod 78 28 = some (.iload 5, 30) := by decide +kernel
theorem d78_30 : cod 78 30 = some (.isub, 31) := by decide +kernel
theorem d78_31 : cod 78 31 = some (.aload_n 2, 32) := by decide +kernel
theorem d78_32 : cod 78 32 = some (.getfield 33, 35) := by decide +kernel
theorem d78_35 : cod 78 35 = some (.imul, 36) := by decide +kernel
theorem d78_36 : cod 78 36 = some (.bipush 100, 38) := by decide +kernel
theorem d78_38 : cod 78 38 = some (.idiv, 39) := by decide +kernel
theorem d78_39 : cod 78 39 = some (.iadd, 40) := by decide +kernel
theorem d78_40 : cod 78 40 = some (.istore 6, 42) := by decide +kernel
theorem d78_42 : cod 78 42 = some (.iload_n 3, 43) := by decide +kernel
theorem d78_43 : cod 78 43 = some (.iload 6, 45) := by decide +kernel
theorem d78_45 : cod 78 45 = some (.aload_n 2, 46) := by decide +kernel
theorem d78_46 : cod 78 46 = some (.getfield 36, 49) := by decide +kernel
theorem d78_49 : cod 78 49 = some (.iload 4, 51) := by decide +kernel
theorem d78_51 : cod 78 51 = some (.iaload, 52) := by decide +kernel
theorem d78_52 : cod 78 52 = some (.isub, 53) := by decide +kernel
theorem d78_53 : cod 78 53 = some (.invokestatic 39, 56) := by decide +kernel
theorem d78_56 : cod 78 56 = some (.iadd, 57) := by decide +kernel
theorem d78_57 : cod 78 57 = some (.istore_n 3, 58) := by decide +kernel
theorem d78_58 : cod 78 58 = some (.iinc 4 1, 61) := by decide +kernel
theorem d78_61 : cod 78 61 = some (.goto (-56), 64) := by decide +kernel
theorem d78_64 : cod 78 64 = some (.iload_n 3, 65) := by decide +kernel
theorem d78_65 : cod 78 65 = some (.ireturn, 66) := by decide +kernel
theorem d79_0 : cod 79 0 = some (.aload_n 0, 1) := by decide +kernel
theorem d79_1 : cod 79 1 = some (.invokespecial 1, 4) := by decide +kernel
theorem d79_4 : cod 79 4 = some (.aload_n 0, 5) := by decide +kernel
theorem d79_5 : cod 79 5 = some (.iload_n 1, 6) := by decide +kernel
theorem d79_6 : cod 79 6 = some (.putfield 7, 9) := by decide +kernel
theorem d79_9 : cod 79 9 = some (.aload_n 0, 10) := by decide +kernel
theorem d79_10 : cod 79 10 = some (.iload_n 2, 11) := by decide +kernel
theorem d79_11 : cod 79 11 = some (.putfield 13, 14) := by decide +kernel
theorem d79_14 : cod 79 14 = some (.aload_n 0, 15) := by decide +kernel
theorem d79_15 : cod 79 15 = some (.iload_n 3, 16) := by decide +kernel
theorem d79_16 : cod 79 16 = some (.putfield 16, 19) := by decide +kernel
theorem d79_19 : cod 79 19 = some (.return_, 20) := by decide +kernel
theorem d80_0 : cod 80 0 = some (.aload_n 0, 1) := by decide +kernel
theorem d80_1 : cod 80 1 = some (.getfield 13, 4) := by decide +kernel
theorem d80_4 : cod 80 4 = some (.iload_n 1, 5) := by decide +kernel
theorem d80_5 : cod 80 5 = some (.if_icmp .gt 15, 8) := by decide +kernel
theorem d80_8 : cod 80 8 = some (.iload_n 1, 9) := by decide +kernel
theorem d80_9 : cod 80 9 = some (.aload_n 0, 10) := by decide +kernel
theorem d80_10 : cod 80 10 = some (.getfield 16, 13) := by decide +kernel
theorem d80_13 : cod 80 13 = some (.if_icmp .gt 7, 16) := by decide +kernel
theorem d80_16 : cod 80 16 = some (.iconst 1, 17) := by decide +kernel
theorem d80_17 : cod 80 17 = some (.goto 4, 20) := by decide +kernel
theorem d80_20 : cod 80 20 = some (.iconst 0, 21) := by decide +kernel
theorem d80_21 : cod 80 21 = some (.ireturn, 22) := by decide +kernel
theorem d81_0 : cod 81 0 = some (.aload_n 0, 1) := by decide +kernel
theorem d81_1 : cod 81 1 = some (.invokespecial 1, 4) := by decide +kernel
theorem d81_4 : cod 81 4 = some (.aload_n 0, 5) := by decide +kernel
theorem d81_5 : cod 81 5 = some (.new 7, 8) := by decide +kernel
theorem d81_8 : cod 81 8 = some (.dup, 9) := by decide +kernel
theorem d81_9 : cod 81 9 = some (.invokespecial 9, 12) := by decide +kernel
theorem d81_12 : cod 81 12 = some (.putfield 10, 15) := by decide +kernel
theorem d81_15 : cod 81 15 = some (.aload_n 0, 16) := by decide +kernel
theorem d81_16 : cod 81 16 = some (.new 16, 19) := by decide +kernel
theorem d81_19 : cod 81 19 = some (.dup, 20) := by decide +kernel
theorem d81_20 : cod 81 20 = some (.invokespecial 18, 23) := by decide +kernel
theorem d81_23 : cod 81 23 = some (.putfield 19, 26) := by decide +kernel
theorem d81_26 : cod 81 26 = some (.aload_n 0, 27) := by decide +kernel
theorem d81_27 : cod 81 27 = some (.bipush 6, 29) := by decide +kernel
theorem d81_29 : cod 81 29 = some (.anewarray 23, 32) := by decide +kernel
theorem d81_32 : cod 81 32 = some (.putfield 25, 35) := by decide +kernel
theorem d81_35 : cod 81 35 = some (.iconst 0, 36) := by decide +kernel
theorem d81_36 : cod 81 36 = some (.istore_n 1, 37) := by decide +kernel
theorem d81_37 : cod 81 37 = some (.iload_n 1, 38) := by decide +kernel
theorem d81_38 : cod 81 38 = some (.bipush 6, 40) := by decide +kernel
theorem d81_40 : cod 81 40 = some (.if_icmp .ge 22, 43) := by decide +kernel
theorem d81_43 : cod 81 43 = some (.aload_n 0, 44) := by decide +kernel
theorem d81_44 : cod 81 44 = some (.getfield 25, 47) := by decide +kernel
theorem d81_47 : cod 81 47 = some (.iload_n 1, 48) := by decide +kernel
theorem d81_48 : cod 81 48 = some (.new 23, 51) := by decide +kernel
theorem d81_51 : cod 81 51 = some (.dup, 52) := by decide +kernel
theorem d81_52 : cod 81 52 = some (.invokespecial 29, 55) := by decide +kernel
theorem d81_55 : cod 81 55 = some (.aastore, 56) := by decide +kernel
theorem d81_56 : cod 81 56 = some (.iinc 1 1, 59) := by decide +kernel
theorem d81_59 : cod 81 59 = some (.goto (-22), 62) := by decide +kernel
theorem d81_62 : cod 81 62 = some (.aload_n 0, 63) := by decide +kernel
theorem d81_63 : cod 81 63 = some (.new 30, 66) := by decide +kernel
theorem d81_66 : cod 81 66 = some (.dup, 67) := by decide +kernel
theorem d81_67 : cod 81 67 = some (.invokespecial 32, 70) := by decide +kernel
theorem d81_70 : cod 81 70 = some (.putfield 33, 73) := by decide +kernel
theorem d81_73 : cod 81 73 = some (.aload_n 0, 74) := by decide +kernel
theorem d81_74 : cod 81 74 = some (.new 16, 77) := by decide +kernel
theorem d81_77 : cod 81 77 = some (.dup, 78) := by decide +kernel
theorem d81_78 : cod 81 78 = some (.invokespecial 18, 81) := by decide +kernel
theorem d81_81 : cod 81 81 = some (.putfield 37, 84) := by decide +kernel
theorem d81_84 : cod 81 84 = some (.aload_n 0, 85) := by decide +kernel
theorem d81_85 : cod 81 85 = some (.new 16, 88) := by decide +kernel
theorem d81_88 : cod 81 88 = some (.dup, 89) := by decide +kernel
theorem d81_89 : cod 81 89 = some (.invokespecial 18, 92) := by decide +kernel
theorem d81_92 : cod 81 92 = some (.putfield 40, 95) := by decide +kernel
theorem d81_95 : cod 81 95 = some (.aload_n 0, 96) := by decide +kernel
theorem d81_96 : cod 81 96 = some (.new 16, 99) := by decide +kernel
theorem d81_99 : cod 81 99 = some (.dup, 100) := by decide +kernel
theorem d81_100 : cod 81 100 = some (.invokespecial 18, 103) := by decide +kernel
theorem d81_103 : cod 81 103 = some (.putfield 43, 106) := by decide +kernel
theorem d81_106 : cod 81 106 = some (.aload_n 0, 107) := by decide +kernel
theorem d81_107 : cod 81 107 = some (.new 46, 110) := by decide +kernel
theorem d81_110 : cod 81 110 = some (.dup, 111) := by decide +kernel
theorem d81_111 : cod 81 111 = some (.invokespecial 48, 114) := by decide +kernel
theorem d81_114 : cod 81 114 = some (.putfield 49, 117) := by decide +kernel
theorem d81_117 : cod 81 117 = some (.aload_n 0, 118) := by decide +kernel
theorem d81_118 : cod 81 118 = some (.new 53, 121) := by decide +kernel
theorem d81_121 : cod 81 121 = some (.dup, 122) := by decide +kernel
theorem d81_122 : cod 81 122 = some (.invokespecial 55, 125) := by decide +kernel
theorem d81_125 : cod 81 125 = some (.putfield 56, 128) := by decide +kernel
theorem d81_128 : cod 81 128 = some (.aload_n 0, 129) := by decide +kernel
theorem d81_129 : cod 81 129 = some (.new 60, 132) := by decide +kernel
theorem d81_132 : cod 81 132 = some (.dup, 133) := by decide +kernel
theorem d81_133 : cod 81 133 = some (.invokespecial 62, 136) := by decide +kernel
theorem d81_136 : cod 81 136 = some (.putfield 63, 139) := by decide +kernel
theorem d81_139 : cod 81 139 = some (.aload_n 0, 140) := by decide +kernel
theorem d81_140 : cod 81 140 = some (.new 67, 143) := by decide +kernel
theorem d81_143 : cod 81 143 = some (.dup, 144) := by decide +kernel
theorem d81_144 : cod 81 144 = some (.invokespecial 69, 147) := by decide +kernel
theorem d81_147 : cod 81 147 = some (.putfield 70, 150) := by decide +kernel
theorem d81_150 : cod 81 150 = some (.aload_n 0, 151) := by decide +kernel
theorem d81_151 : cod 81 151 = some (.bipush 100, 153) := by decide +kernel
theorem d81_153 : cod 81 153 = some (.newarray .int, 155) := by decide +kernel
theorem d81_155 : cod 81 155 = some (.putfield 74, 158) := by decide +kernel
theorem d81_158 : cod 81 158 = some (.aload_n 0, 159) := by decide +kernel
theorem d81_159 : cod 81 159 = some (.sipush 4096, 162) := by decide +kernel
theorem d81_162 : cod 81 162 = some (.newarray .int, 164) := by decide +kernel
theorem d81_164 : cod 81 164 = some (.putfield 78, 167) := by decide +kernel
theorem d81_167 : cod 81 167 = some (.aload_n 0, 168) := by decide +kernel
theorem d81_168 : cod 81 168 = some (.sipush 4096, 171) := by decide +kernel
theorem d81_171 : cod 81 171 = some (.newarray .int, 173) := by decide +kernel
theorem d81_173 : cod 81 173 = some (.putfield 81, 176) := by decide +kernel
theorem d81_176 : cod 81 176 = some (.return_, 177) := by decide +kernel
theorem d82_0 : cod 82 0 = some (.iload_n 1, 1) := by decide +kernel
theorem d82_1 : cod 82 1 = some (.iconst 2, 2) := by decide +kernel
theorem d82_2 : cod 82 2 = some (.bipush 6, 4) := by decide +kernel
theorem d82_4 : cod 82 4 = some (.invokestatic 84, 7) := by decide +kernel
theorem d82_7 : cod 82 7 = some (.ifCond .eq 16, 10) := by decide +kernel
theorem d82_10 : cod 82 10 = some (.iload_n 2, 11) := by decide +kernel
theorem d82_11 : cod 82 11 = some (.iconst 2, 12) := by decide +kernel
theorem d82_12 : cod 82 12 = some (.iconst 4, 13) := by decide +kernel
theorem d82_13 : cod 82 13 = some (.invokestatic 84, 16) := by decide +kernel
theorem d82_16 : cod 82 16 = some (.ifCond .eq 7, 19) := by decide +kernel
theorem d82_19 : cod 82 19 = some (.iconst 1, 20) := by decide +kernel
theorem d82_20 : cod 82 20 = some (.goto 4, 23) := by decide +kernel
theorem d82_23 : cod 82 23 = some (.iconst 0, 24) := by decide +kernel
theorem d82_24 : cod 82 24 = some (.invokestatic 88, 27) := by decide +kernel
theorem d82_27 : cod 82 27 = some (.aload_n 0, 28) := by decide +kernel
theorem d82_28 : cod 82 28 = some (.getfield 10, 31) := by decide +kernel
theorem d82_31 : cod 82 31 = some (.iload_n 1, 32) := by decide +kernel
theorem d82_32 : cod 82 32 = some (.iload_n 2, 33) := by decide +kernel
theorem d82_33 : cod 82 33 = some (.invokevirtual 92, 36) := by decide +kernel
theorem d82_36 : cod 82 36 = some (.aload_n 0, 37) := by decide +kernel
theorem d82_37 : cod 82 37 = some (.getfield 19, 40) := by decide +kernel
theorem d82_40 : cod 82 40 = some (.invokevirtual 96, 43) := by decide +kernel
theorem d82_43 : cod 82 43 = some (.iconst 0, 44) := by decide +kernel
theorem d82_44 : cod 82 44 = some (.istore_n 3, 45) := by decide +kernel
theorem d82_45 : cod 82 45 = some (.iload_n 3, 46) := by decide +kernel
theorem d82_46 : cod 82 46 = some (.bipush 6, 48) := by decide +kernel
theorem d82_48 : cod 82 48 = some (.if_icmp .ge 18, 51) := by decide +kernel
theorem d82_51 : cod 82 51 = some (.aload_n 0, 52) := by decide +kernel
theorem d82_52 : cod 82 52 = some (.getfield 25, 55) := by decide +kernel
theorem d82_55 : cod 82 55 = some (.iload_n 3, 56) := by decide +kernel
theorem d82_56 : cod 82 56 = some (.aaload, 57) := by decide +kernel
theorem d82_57 : cod 82 57 = some (.invokevirtual 99, 60) := by decide +kernel
theorem d82_60 : cod 82 60 = some (.iinc 3 1, 63) := by decide +kernel
theorem d82_63 : cod 82 63 = some (.goto (-18), 66) := by decide +kernel
theorem d82_66 : cod 82 66 = some (.aload_n 0, 67) := by decide +kernel
theorem d82_67 : cod 82 67 = some (.getfield 43, 70) := by decide +kernel
theorem d82_70 : cod 82 70 = some (.invokevirtual 96, 73) := by decide +kernel
theorem d82_73 : cod 82 73 = some (.aload_n 0, 74) := by decide +kernel
theorem d82_74 : cod 82 74 = some (.getfield 56, 77) := by decide +kernel
theorem d82_77 : cod 82 77 = some (.invokevirtual 100, 80) := by decide +kernel
theorem d82_80 : cod 82 80 = some (.aload_n 0, 81) := by decide +kernel
theorem d82_81 : cod 82 81 = some (.getfield 63, 84) := by decide +kernel
theorem d82_84 : cod 82 84 = some (.invokevirtual 103, 87) := by decide +kernel
theorem d82_87 : cod 82 87 = some (.aload_n 0, 88) := by decide +kernel
theorem d82_88 : cod 82 88 = some (.getfield 10, 91) := by decide +kernel
theorem d82_91 : cod 82 91 = some (.invokevirtual 104, 94) := by decide +kernel
theorem d82_94 : cod 82 94 = some (.ireturn, 95) := by decide +kernel
theorem d83_0 : cod 83 0 = some (.iload_n 0, 1) := by decide +kernel
theorem d83_1 : cod 83 1 = some (.iload_n 1, 2) := by decide +kernel
theorem d83_2 : cod 83 2 = some (.if_icmp .lt 12, 5) := by decide +kernel
theorem d83_5 : cod 83 5 = some (.iload_n 0, 6) := by decide +kernel
theorem d83_6 : cod 83 6 = some (.iload_n 2, 7) := by decide +kernel
theorem d83_7 : cod 83 7 = some (.if_icmp .gt 7, 10) := by decide +kernel
theorem d83_10 : cod 83 10 = some (.iconst 1, 11) := by decide +kernel
theorem d83_11 : cod 83 11 = some (.goto 4, 14) := by decide +kernel
theorem d83_14 : cod 83 14 = some (.iconst 0, 15) := by decide +kernel
theorem d83_15 : cod 83 15 = some (.ireturn, 16) := by decide +kernel
theorem d84_0 : cod 84 0 = some (.iload_n 0, 1) := by decide +kernel
theorem d84_1 : cod 84 1 = some (.ifCond .ne 14, 4) := by decide +kernel
theorem d84_4 : cod 84 4 = some (.new 525, 7) := by decide +kernel
theorem d84_7 : cod 84 7 = some (.dup, 8) := by decide +kernel
theorem d84_8 : cod 84 8 = some (.ldc_w 527, 11) := by decide +kernel
theorem d84_11 : cod 84 11 = some (.invokespecial 529, 14) := by decide +kernel
theorem d84_14 : cod 84 14 = some (.athrow, 15) := by decide +kernel
theorem d84_15 : cod 84 15 = some (.return_, 16) := by decide +kernel
theorem d85_0 : cod 85 0 = some (.iconst 0, 1) := by decide +kernel
theorem d85_1 : cod 85 1 = some (.istore_n 1, 2) := by decide +kernel
theorem d85_2 : cod 85 2 = some (.iload_n 1, 3) := by decide +kernel
theorem d85_3 : cod 85 3 = some (.bipush 24, 5) := by decide +kernel
theorem d85_5 : cod 85 5 = some (.if_icmp .ge 19, 8) := by decide +kernel
theorem d85_8 : cod 85 8 = some (.iload_n 1, 9) := by decide +kernel
theorem d85_9 : cod 85 9 = some (.iload_n 0, 10) := by decide +kernel
theorem d85_10 : cod 85 10 = some (.invokestatic 203, 13) := by decide +kernel
theorem d85_13 : cod 85 13 = some (.ifCond .eq 5, 16) := by decide +kernel
theorem d85_16 : cod 85 16 = some (.iload_n 1, 17) := by decide +kernel
theorem d85_17 : cod 85 17 = some (.ireturn, 18) := by decide +kernel
theorem d85_18 : cod 85 18 = some (.iinc 1 1, 21) := by decide +kernel
theorem d85_21 : cod 85 21 = some (.goto (-19), 24) := by decide +kernel
theorem d85_24 : cod 85 24 = some (.iconst (-1), 25) := by decide +kernel
theorem d85_25 : cod 85 25 = some (.ireturn, 26) := by decide +kernel
theorem d86_0 : cod 86 0 = some (.iload_n 1, 1) := by decide +kernel
theorem d86_1 : cod 86 1 = some (.iload_n 0, 2) := by decide +kernel
theorem d86_2 : cod 86 2 = some (.ishr, 3) := by decide +kernel
theorem d86_3 : cod 86 3 = some (.iconst 1, 4) := by decide +kernel
theorem d86_4 : cod 86 4 = some (.iand, 5) := by decide +kernel
theorem d86_5 : cod 86 5 = some (.ifCond .eq 7, 8) := by decide +kernel
theorem d86_8 : cod 86 8 = some (.iconst 1, 9) := by decide +kernel
theorem d86_9 : cod 86 9 = some (.goto 4, 12) := by decide +kernel
theorem d86_12 : cod 86 12 = some (.iconst 0, 13) := by decide +kernel
theorem d86_13 : cod 86 13 = some (.ireturn, 14) := by decide +kernel
theorem d87_0 : cod 87 0 = some (.iload_n 1, 1) := by decide +kernel
theorem d87_1 : cod 87 1 = some (.iconst 0, 2) := by decide +kernel
theorem d87_2 : cod 87 2 = some (.bipush 99, 4) := by decide +kernel
theorem d87_4 : cod 87 4 = some (.invokestatic 84, 7) := by decide +kernel
theorem d87_7 : cod 87 7 = some (.invokestatic 88, 10) := by decide +kernel
theorem d87_10 : cod 87 10 = some (.aload_n 0, 11) := by decide +kernel
theorem d87_11 : cod 87 11 = some (.getfield 10, 14) := by decide +kernel
theorem d87_14 : cod 87 14 = some (.invokevirtual 104, 17) := by decide +kernel
theorem d87_17 : cod 87 17 = some (.ifCond .le 17, 20) := by decide +kernel
theorem d87_20 : cod 87 20 = some (.aload_n 0, 21) := by decide +kernel
theorem d87_21 : cod 87 21 = some (.getfield 19, 24) := by decide +kernel
theorem d87_24 : cod 87 24 = some (.invokevirtual 145, 27) := by decide +kernel
theorem d87_27 : cod 87 27 = some (.ifCond .eq 7, 30) := by decide +kernel
theorem d87_30 : cod 87 30 = some (.iconst 1, 31) := by decide +kernel
theorem d87_31 : cod 87 31 = some (.goto 4, 34) := by decide +kernel
theorem d87_34 : cod 87 34 = some (.iconst 0, 35) := by decide +kernel
theorem d87_35 : cod 87 35 = some (.invokestatic 122, 38) := by decide +kernel
theorem d87_38 : cod 87 38 = some (.aload_n 0, 39) := by decide +kernel
theorem d87_39 : cod 87 39 = some (.getfield 10, 42) := by decide +kernel
theorem d87_42 : cod 87 42 = some (.iload_n 1, 43) := by decide +kernel
theorem d87_43 : cod 87 43 = some (.invokevirtual 149, 46) := by decide +kernel
theorem d87_46 : cod 87 46 = some (.aload_n 0, 47) := by decide +kernel
theorem d87_47 : cod 87 47 = some (.getfield 10, 50) := by decide +kernel
theorem d87_50 : cod 87 50 = some (.getfield 118, 53) := by decide +kernel
theorem d87_53 : cod 87 53 = some (.ireturn, 54) := by decide +kernel
theorem d88_0 : cod 88 0 = some (.iload_n 0, 1) := by decide +kernel
theorem d88_1 : cod 88 1 = some (.ifCond .ne 14, 4) := by decide +kernel
theorem d88_4 : cod 88 4 = some (.new 530, 7) := by decide +kernel
theorem d88_7 : cod 88 7 = some (.dup, 8) := by decide +kernel
theorem d88_8 : cod 88 8 = some (.ldc_w 532, 11) := by decide +kernel
theorem d88_11 : cod 88 11 = some (.invokespecial 534, 14) := by decide +kernel
theorem d88_14 : cod 88 14 = some (.athrow, 15) := by decide +kernel
theorem d88_15 : cod 88 15 = some (.return_, 16) := by decide +kernel
theorem d89_0 : cod 89 0 = some (.iload_n 1, 1) := by decide +kernel
theorem d89_1 : cod 89 1 = some (.invokestatic 276, 4) := by decide +kernel
theorem d89_4 : cod 89 4 = some (.ifCond .eq 36, 7) := by decide +kernel
theorem d89_7 : cod 89 7 = some (.iload_n 2, 8) := by decide +kernel
theorem d89_8 : cod 89 8 = some (.iconst 0, 9) := by decide +kernel
theorem d89_9 : cod 89 9 = some (.iconst 2, 10) := by decide +kernel
theorem d89_10 : cod 89 10 = some (.invokestatic 84, 13) := by decide +kernel
theorem d89_13 : cod 89 13 = some (.ifCond .eq 27, 16) := by decide +kernel
theorem d89_16 : cod 89 16 = some (.iload_n 3, 17) := by decide +kernel
theorem d89_17 : cod 89 17 = some (.iconst 1, 18) := by decide +kernel
theorem d89_18 : cod 89 18 = some (.iconst 4, 19) := by decide +kernel
theorem d89_19 : cod 89 19 = some (.invokestatic 84, 22) := by decide +kernel
theorem d89_22 : cod 89 22 = some (.ifCond .eq 18, 25) := by decide +kernel
theorem d89_25 : cod 89 25 = some (.iload 4, 27) := by decide +kernel
theorem d89_27 : cod 89 27 = some (.iconst 1, 28) := by decide +kernel
theorem d89_28 : cod 89 28 = some (.bipush 99, 30) := by decide +kernel
theorem d89_30 : cod 89 30 = some (.invokestatic 84, 33) := by decide +kernel
theorem d89_33 : cod 89 33 = some (.ifCond .eq 7, 36) := by decide +kernel
theorem d89_36 : cod 89 36 = some (.iconst 1, 37) := by decide +kernel
theorem d89_37 : cod 89 37 = some (.goto 4, 40) := by decide +kernel
theorem d89_40 : cod 89 40 = some (.iconst 0, 41) := by decide +kernel
theorem d89_41 : cod 89 41 = some (.invokestatic 88, 44) := by decide +kernel
theorem d89_44 : cod 89 44 = some (.aload_n 0, 45) := by decide +kernel
theorem d89_45 : cod 89 45 = some (.getfield 33, 48) := by decide +kernel
theorem d89_48 : cod 89 48 = some (.getfield 279, 51) := by decide +kernel
theorem d89_51 : cod 89 51 = some (.bipush 16, 53) := by decide +kernel
theorem d89_53 : cod 89 53 = some (.if_icmp .ge 7, 56) := by decide +kernel
theorem d89_56 : cod 89 56 = some (.iconst 1, 57) := by decide +kernel
theorem d89_57 : cod 89 57 = some (.goto 4, 60) := by decide +kernel
theorem d89_60 : cod 89 60 = some (.iconst 0, 61) := by decide +kernel
theorem d89_61 : cod 89 61 = some (.invokestatic 122, 64) := by decide +kernel
theorem d89_64 : cod 89 64 = some (.aload_n 0, 65) := by decide +kernel
theorem d89_65 : cod 89 65 = some (.getfield 33, 68) := by decide +kernel
theorem d89_68 : cod 89 68 = some (.iload_n 1, 69) := by decide +kernel
theorem d89_69 : cod 89 69 = some (.iload_n 2, 70) := by decide +kernel
theorem d89_70 : cod 89 70 = some (.iload_n 3, 71) := by decide +kernel
theorem d89_71 : cod 89 71 = some (.iload 4, 73) := by decide +kernel
theorem d89_73 : cod 89 73 = some (.invokevirtual 282, 76) := by decide +kernel
theorem d89_76 : cod 89 76 = some (.ireturn, 77) := by decide +kernel
theorem d90_0 : cod 90 0 = some (.iload_n 0, 1) := by decide +kernel
theorem d90_1 : cod 90 1 = some (.iconst 0, 2) := by decide +kernel
theorem d90_2 : cod 90 2 = some (.sipush 999, 5) := by decide +kernel
theorem d90_5 : cod 90 5 = some (.invokestatic 84, 8) := by decide +kernel
theorem d90_8 : cod 90 8 = some (.ireturn, 9) := by decide +kernel
theorem d91_0 : cod 91 0 = some (.iload_n 1, 1) := by decide +kernel
theorem d91_1 : cod 91 1 = some (.iconst 1, 2) := by decide +kernel
theorem d91_2 : cod 91 2 = some (.bipush 99, 4) := by decide +kernel
theorem d91_4 : cod 91 4 = some (.invokestatic 84, 7) := by decide +kernel
theorem d91_7 : cod 91 7 = some (.ifCond .eq 26, 10) := by decide +kernel
theorem d91_10 : cod 91 10 = some (.iload_n 2, 11) := by decide +kernel
theorem d91_11 : cod 91 11 = some (.invokestatic 276, 14) := by decide +kernel
theorem d91_14 : cod 91 14 = some (.ifCond .eq 19, 17) := by decide +kernel
theorem d91_17 : cod 91 17 = some (.iload_n 3, 18) := by decide +kernel
theorem d91_18 : cod 91 18 = some (.invokestatic 276, 21) := by decide +kernel
theorem d91_21 : cod 91 21 = some (.ifCond .eq 12, 24) := by decide +kernel
theorem d91_24 : cod 91 24 = some (.iload_n 2, 25) := by decide +kernel
theorem d91_25 : cod 91 25 = some (.iload_n 3, 26) := by decide +kernel
theorem d91_26 : cod 91 26 = some (.if_icmp .gt 7, 29) := by decide +kernel
theorem d91_29 : cod 91 29 = some (.iconst 1, 30) := by decide +kernel
theorem d91_30 : cod 91 30 = some (.goto 4, 33) := by decide +kernel
theorem d91_33 : cod 91 33 = some (.iconst 0, 34) := by decide +kernel
theorem d91_34 : cod 91 34 = some (.invokestatic 88, 37) := by decide +kernel
theorem d91_37 : cod 91 37 = some (.aload_n 0, 38) := by decide +kernel
theorem d91_38 : cod 91 38 = some (.getfield 37, 41) := by decide +kernel
theorem d91_41 : cod 91 41 = some (.invokevirtual 129, 44) := by decide +kernel
theorem d91_44 : cod 91 44 = some (.bipush 10, 46) := by decide +kernel
theorem d91_46 : cod 91 46 = some (.if_icmp .ge 7, 49) := by decide +kernel
theorem d91_49 : cod 91 49 = some (.iconst 1, 50) := by decide +kernel
theorem d91_50 : cod 91 50 = some (.goto 4, 53) := by decide +kernel
theorem d91_53 : cod 91 53 = some (.iconst 0, 54) := by decide +kernel
theorem d91_54 : cod 91 54 = some (.invokestatic 122, 57) := by decide +kernel
theorem d91_57 : cod 91 57 = some (.aload_n 0, 58) := by decide +kernel
theorem d91_58 : cod 91 58 = some (.getfield 37, 61) := by decide +kernel
theorem d91_61 : cod 91 61 = some (.new 290, 64) := by decide +kernel
theorem d91_64 : cod 91 64 = some (.dup, 65) := by decide +kernel
theorem d91_65 : cod 91 65 = some (.iload_n 1, 66) := by decide +kernel
theorem d91_66 : cod 91 66 = some (.iload_n 2, 67) := by decide +kernel
theorem d91_67 : cod 91 67 = some (.iload_n 3, 68) := by decide +kernel
theorem d91_68 : cod 91 68 = some (.invokespecial 292, 71) := by decide +kernel
theorem d91_71 : cod 91 71 = some (.invokevirtual 294, 74) := by decide +kernel
theorem d91_74 : cod 91 74 = some (.pop, 75) := by decide +kernel
theorem d91_75 : cod 91 75 = some (.aload_n 0, 76) := by decide +kernel
theorem d91_76 : cod 91 76 = some (.getfield 37, 79) := by decide +kernel
theorem d91_79 : cod 91 79 = some (.invokevirtual 129, 82) := by decide +kernel
theorem d91_82 : cod 91 82 = some (.iconst 1, 83) := by decide +kernel
theorem d91_83 : cod 91 83 = some (.isub, 84) := by decide +kernel
theorem d91_84 : cod 91 84 = some (.ireturn, 85) := by decide +kernel
theorem d92_0 : cod 92 0 = some (.iload_n 1, 1) := by decide +kernel
theorem d92_1 : cod 92 1 = some (.invokestatic 266, 4) := by decide +kernel
theorem d92_4 : cod 92 4 = some (.invokestatic 112, 7) := by decide +kernel
theorem d92_7 : cod 92 7 = some (.iload_n 2, 8) := by decide +kernel
theorem d92_8 : cod 92 8 = some (.invokestatic 276, 11) := by decide +kernel
theorem d92_11 : cod 92 11 = some (.ifCond .eq 19, 14) := by decide +kernel
theorem d92_14 : cod 92 14 = some (.iload_n 3, 15) := by decide +kernel
theorem d92_15 : cod 92 15 = some (.invokestatic 276, 18) := by decide +kernel
theorem d92_18 : cod 92 18 = some (.ifCond .eq 12, 21) := by decide +kernel
theorem d92_21 : cod 92 21 = some (.iload_n 2, 22) := by decide +kernel
theorem d92_22 : cod 92 22 = some (.iload_n 3, 23) := by decide +kernel
theorem d92_23 : cod 92 23 = some (.if_icmp .gt 7, 26) := by decide +kernel
theorem d92_26 : cod 92 26 = some (.iconst 1, 27) := by decide +kernel
theorem d92_27 : cod 92 27 = some (.goto 4, 30) := by decide +kernel
theorem d92_30 : cod 92 30 = some (.iconst 0, 31) := by decide +kernel
theorem d92_31 : cod 92 31 = some (.invokestatic 88, 34) := by decide +kernel
theorem d92_34 : cod 92 34 = some (.aload_n 0, 35) := by decide +kernel
theorem d92_35 : cod 92 35 = some (.getfield 40, 38) := by decide +kernel
theorem d92_38 : cod 92 38 = some (.invokevirtual 129, 41) := by decide +kernel
theorem d92_41 : cod 92 41 = some (.bipush 10, 43) := by decide +kernel
theorem d92_43 : cod 92 43 = some (.if_icmp .ge 7, 46) := by decide +kernel
theorem d92_46 : cod 92 46 = some (.iconst 1, 47) := by decide +kernel
theorem d92_47 : cod 92 47 = some (.goto 4, 50) := by decide +kernel
theorem d92_50 : cod 92 50 = some (.iconst 0, 51) := by decide +kernel
theorem d92_51 : cod 92 51 = some (.invokestatic 122, 54) := by decide +kernel
theorem d92_54 : cod 92 54 = some (.aload_n 0, 55) := by decide +kernel
theorem d92_55 : cod 92 55 = some (.getfield 40, 58) := by decide +kernel
theorem d92_58 : cod 92 58 = some (.new 290, 61) := by decide +kernel
theorem d92_61 : cod 92 61 = some (.dup, 62) := by decide +kernel
theorem d92_62 : cod 92 62 = some (.iload_n 1, 63) := by decide +kernel
theorem d92_63 : cod 92 63 = some (.iload_n 2, 64) := by decide +kernel
theorem d92_64 : cod 92 64 = some (.iload_n 3, 65) := by decide +kernel
theorem d92_65 : cod 92 65 = some (.invokespecial 292, 68) := by decide +kernel
theorem d92_68 : cod 92 68 = some (.invokevirtual 294, 71) := by decide +kernel
theorem d92_71 : cod 92 71 = some (.pop, 72) := by decide +kernel
theorem d92_72 : cod 92 72 = some (.aload_n 0, 73) := by decide +kernel
theorem d92_73 : cod 92 73 = some (.getfield 40, 76) := by decide +kernel
theorem d92_76 : cod 92 76 = some (.invokevirtual 129, 79) := by decide +kernel
theorem d92_79 : cod 92 79 = some (.iconst 1, 80) := by decide +kernel
theorem d92_80 : cod 92 80 = some (.isub, 81) := by decide +kernel
theorem d92_81 : cod 92 81 = some (.ireturn, 82) := by decide +kernel
theorem d93_0 : cod 93 0 = some (.iload_n 0, 1) := by decide +kernel
theorem d93_1 : cod 93 1 = some (.iconst 0, 2) := by decide +kernel
theorem d93_2 : cod 93 2 = some (.iconst 5, 3) := by decide +kernel
theorem d93_3 : cod 93 3 = some (.invokestatic 84, 6) := by decide +kernel
theorem d93_6 : cod 93 6 = some (.ireturn, 7) := by decide +kernel
theorem d94_0 : cod 94 0 = some (.iload_n 0, 1) := by decide +kernel
theorem d94_1 : cod 94 1 = some (.ifCond .ne 14, 4) := by decide +kernel
theorem d94_4 : cod 94 4 = some (.new 518, 7) := by decide +kernel
theorem d94_7 : cod 94 7 = some (.dup, 8) := by decide +kernel
theorem d94_8 : cod 94 8 = some (.ldc_w 520, 11) := by decide +kernel
theorem d94_11 : cod 94 11 = some (.invokespecial 522, 14) := by decide +kernel
theorem d94_14 : cod 94 14 = some (.athrow, 15) := by decide +kernel
theorem d94_15 : cod 94 15 = some (.return_, 16) := by decide +kernel
theorem d95_0 : cod 95 0 = some (.iload_n 1, 1) := by decide +kernel
theorem d95_1 : cod 95 1 = some (.iload_n 2, 2) := by decide +kernel
theorem d95_2 : cod 95 2 = some (.invokestatic 153, 5) := by decide +kernel
theorem d95_5 : cod 95 5 = some (.ifCond .eq 14, 8) := by decide +kernel
theorem d95_8 : cod 95 8 = some (.iload_n 3, 9) := by decide +kernel
theorem d95_9 : cod 95 9 = some (.invokestatic 157, 12) := by decide +kernel
theorem d95_12 : cod 95 12 = some (.ifCond .eq 7, 15) := by decide +kernel
theorem d95_15 : cod 95 15 = some (.iconst 1, 16) := by decide +kernel
theorem d95_16 : cod 95 16 = some (.goto 4, 19) := by decide +kernel
theorem d95_19 : cod 95 19 = some (.iconst 0, 20) := by decide +kernel
theorem d95_20 : cod 95 20 = some (.invokestatic 88, 23) := by decide +kernel
theorem d95_23 : cod 95 23 = some (.aload_n 0, 24) := by decide +kernel
theorem d95_24 : cod 95 24 = some (.getfield 10, 27) := by decide +kernel
theorem d95_27 : cod 95 27 = some (.invokevirtual 104, 30) := by decide +kernel
theorem d95_30 : cod 95 30 = some (.ifCond .le 15, 33) := by decide +kernel
theorem d95_33 : cod 95 33 = some (.aload_n 0, 34) := by decide +kernel
theorem d95_34 : cod 95 34 = some (.iload_n 3, 35) := by decide +kernel
theorem d95_35 : cod 95 35 = some (.invokevirtual 160, 38) := by decide +kernel
theorem d95_38 : cod 95 38 = some (.ifCond .eq 7, 41) := by decide +kernel
theorem d95_41 : cod 95 41 = some (.iconst 1, 42) := by decide +kernel
theorem d95_42 : cod 95 42 = some (.goto 4, 45) := by decide +kernel
theorem d95_45 : cod 95 45 = some (.iconst 0, 46) := by decide +kernel
theorem d95_46 : cod 95 46 = some (.invokestatic 122, 49) := by decide +kernel
theorem d95_49 : cod 95 49 = some (.new 136, 52) := by decide +kernel
theorem d95_52 : cod 95 52 = some (.dup, 53) := by decide +kernel
theorem d95_53 : cod 95 53 = some (.aload_n 0, 54) := by decide +kernel
theorem d95_54 : cod 95 54 = some (.getfield 19, 57) := by decide +kernel
theorem d95_57 : cod 95 57 = some (.invokevirtual 129, 60) := by decide +kernel
theorem d95_60 : cod 95 60 = some (.iload_n 1, 61) := by decide +kernel
theorem d95_61 : cod 95 61 = some (.iload_n 2, 62) := by decide +kernel
theorem d95_62 : cod 95 62 = some (.iload_n 3, 63) := by decide +kernel
theorem d95_63 : cod 95 63 = some (.iload 4, 65) := by decide +kernel
theorem d95_65 : cod 95 65 = some (.invokespecial 163, 68) := by decide +kernel
theorem d95_68 : cod 95 68 = some (.astore 5, 70) := by decide +kernel
theorem d95_70 : cod 95 70 = some (.aload_n 0, 71) := by decide +kernel
theorem d95_71 : cod 95 71 = some (.aload 5, 73) := by decide +kernel
theorem d95_73 : cod 95 73 = some (.invokevirtual 166, 76) := by decide +kernel
theorem d95_76 : cod 95 76 = some (.aload 5, 78) := by decide +kernel
theorem d95_78 : cod 95 78 = some (.getfield 170, 81) := by decide +kernel
theorem d95_81 : cod 95 81 = some (.ireturn, 82) := by decide +kernel
theorem d96_0 : cod 96 0 = some (.iload_n 0, 1) := by decide +kernel
theorem d96_1 : cod 96 1 = some (.iconst 1, 2) := by decide +kernel
theorem d96_2 : cod 96 2 = some (.iconst 3, 3) := by decide +kernel
theorem d96_3 : cod 96 3 = some (.invokestatic 84, 6) := by decide +kernel
theorem d96_6 : cod 96 6 = some (.ifCond .eq 16, 9) := by decide +kernel
theorem d96_9 : cod 96 9 = some (.iload_n 1, 10) := by decide +kernel
theorem d96_10 : cod 96 10 = some (.iconst 1, 11) := by decide +kernel
theorem d96_11 : cod 96 11 = some (.iconst 3, 12) := by decide +kernel
theorem d96_12 : cod 96 12 = some (.invokestatic 84, 15) := by decide +kernel
theorem d96_15 : cod 96 15 = some (.ifCond .eq 7, 18) := by decide +kernel
theorem d96_18 : cod 96 18 = some (.iconst 1, 19) := by decide +kernel
theorem d96_19 : cod 96 19 = some (.goto 4, 22) := by decide +kernel
theorem d96_22 : cod 96 22 = some (.iconst 0, 23) := by decide +kernel
theorem d96_23 : cod 96 23 = some (.ireturn, 24) := by decide +kernel
theorem d97_0 : cod 97 0 = some (.iload_n 0, 1) := by decide +kernel
theorem d97_1 : cod 97 1 = some (.iconst 0, 2) := by decide +kernel
theorem d97_2 : cod 97 2 = some (.iconst 5, 3) := by decide +kernel
theorem d97_3 : cod 97 3 = some (.invokestatic 84, 6) := by decide +kernel
theorem d97_6 : cod 97 6 = some (.ireturn, 7) := by decide +kernel
theorem d98_0 : cod 98 0 = some (.aload_n 0, 1) := by decide +kernel
theorem d98_1 : cod 98 1 = some (.getfield 19, 4) := by decide +kernel
theorem d98_4 : cod 98 4 = some (.invokevirtual 129, 7) := by decide +kernel
theorem d98_7 : cod 98 7 = some (.bipush 12, 9) := by decide +kernel
theorem d98_9 : cod 98 9 = some (.if_icmp .ge 20, 12) := by decide +kernel
theorem d98_12 : cod 98 12 = some (.aload_n 0, 13) := by decide +kernel
theorem d98_13 : cod 98 13 = some (.getfield 25, 16) := by decide +kernel
theorem d98_16 : cod 98 16 = some (.iload_n 1, 17) := by decide +kernel
theorem d98_17 : cod 98 17 = some (.aaload, 18) := by decide +kernel
theorem d98_18 : cod 98 18 = some (.getfield 218, 21) := by decide +kernel
theorem d98_21 : cod 98 21 = some (.iconst 3, 22) := by decide +kernel
theorem d98_22 : cod 98 22 = some (.if_icmp .ge 7, 25) := by decide +kernel
theorem d98_25 : cod 98 25 = some (.iconst 1, 26) := by decide +kernel
theorem d98_26 : cod 98 26 = some (.goto 4, 29) := by decide +kernel
theorem d98_29 : cod 98 29 = some (.iconst 0, 30) := by decide +kernel
theorem d98_30 : cod 98 30 = some (.ireturn, 31) := by decide +kernel
theorem d99_0 : cod 99 0 = some (.aload_n 0, 1) := by decide +kernel
theorem d99_1 : cod 99 1 = some (.getfield 19, 4) := by decide +kernel
theorem d99_4 : cod 99 4 = some (.aload_n 1, 5) := by decide +kernel
theorem d99_5 : cod 99 5 = some (.invokevirtual 294, 8) := by decide +kernel
theorem d99_8 : cod 99 8 = some (.pop, 9) := by decide +kernel
theorem d99_9 : cod 99 9 = some (.aload_n 1, 10) := by decide +kernel
theorem d99_10 : cod 99 10 = some (.aload_n 0, 11) := by decide +kernel
theorem d99_11 : cod 99 11 = some (.getfield 10, 14) := by decide +kernel
theorem d99_14 : cod 99 14 = some (.invokevirtual 138, 17) := by decide +kernel
theorem d99_17 : cod 99 17 = some (.aload_n 0, 18) := by decide +kernel
theorem d99_18 : cod 99 18 = some (.getfield 25, 21) := by decide +kernel
theorem d99_21 : cod 99 21 = some (.aload_n 1, 22) := by decide +kernel
theorem d99_22 : cod 99 22 = some (.getfield 186, 25) := by decide +kernel
theorem d99_25 : cod 99 25 = some (.aaload, 26) := by decide +kernel
theorem d99_26 : cod 99 26 = some (.aload_n 1, 27) := by decide +kernel
theorem d99_27 : cod 99 27 = some (.invokevirtual 535, 30) := by decide +kernel
theorem d99_30 : cod 99 30 = some (.aload_n 0, 31) := by decide +kernel
theorem d99_31 : cod 99 31 = some (.getfield 25, 34) := by decide +kernel
theorem d99_34 : cod 99 34 = some (.aload_n 1, 35) := by decide +kernel
theorem d99_35 : cod 99 35 = some (.getfield 186, 38) := by decide +kernel
theorem d99_38 : cod 99 38 = some (.aaload, 39) := by decide +kernel
theorem d99_39 : cod 99 39 = some (.invokevirtual 142, 42) := by decide +kernel
theorem d99_42 : cod 99 42 = some (.return_, 43) := by decide +kernel
theorem d100_0 : cod 100 0 = some (.iload_n 1, 1) := by decide +kernel
theorem d100_1 : cod 100 1 = some (.iload_n 2, 2) := by decide +kernel
theorem d100_2 : cod 100 2 = some (.invokestatic 153, 5) := by decide +kernel
theorem d100_5 : cod 100 5 = some (.istore 6, 7) := by decide +kernel
theorem d100_7 : cod 100 7 = some (.aload_n 0, 8) := by decide +kernel
theorem d100_8 : cod 100 8 = some (.getfield 10, 11) := by decide +kernel
theorem d100_11 : cod 100 11 = some (.iload_n 3, 12) := by decide +kernel
theorem d100_12 : cod 100 12 = some (.invokevirtual 108, 15) := by decide +kernel
theorem d100_15 : cod 100 15 = some (.ifCond .eq 25, 18) := by decide +kernel
theorem d100_18 : cod 100 18 = some (.iload 6, 20) := by decide +kernel
theorem d100_20 : cod 100 20 = some (.ifCond .eq 16, 23) := by decide +kernel
theorem d100_23 : cod 100 23 = some (.aload_n 0, 24) := by decide +kernel
theorem d100_24 : cod 100 24 = some (.getfield 10, 27) := by decide +kernel
theorem d100_27 : cod 100 27 = some (.iload_n 3, 28) := by decide +kernel
theorem d100_28 : cod 100 28 = some (.iload_n 1, 29) := by decide +kernel
theorem d100_29 : cod 100 29 = some (.iload_n 2, 30) := by decide +kernel
theorem d100_30 : cod 100 30 = some (.invokevirtual 189, 33) := by decide +kernel
theorem d100_33 : cod 100 33 = some (.ifCond .eq 7, 36) := by decide +kernel
theorem d100_36 : cod 100 36 = some (.iconst 1, 37) := by decide +kernel
theorem d100_37 : cod 100 37 = some (.goto 4, 40) := by decide +kernel
theorem d100_40 : cod 100 40 = some (.iconst 0, 41) := by decide +kernel
theorem d100_41 : cod 100 41 = some (.invokestatic 112, 44) := by decide +kernel
theorem d100_44 : cod 100 44 = some (.iload 6, 46) := by decide +kernel
theorem d100_46 : cod 100 46 = some (.ifCond .eq 23, 49) := by decide +kernel
theorem d100_49 : cod 100 49 = some (.iload 4, 51) := by decide +kernel
theorem d100_51 : cod 100 51 = some (.invokestatic 115, 54) := by decide +kernel
theorem d100_54 : cod 100 54 = some (.ifCond .eq 15, 57) := by decide +kernel
theorem d100_57 : cod 100 57 = some (.iload 5, 59) := by decide +kernel
theorem d100_59 : cod 100 59 = some (.invokestatic 157, 62) := by decide +kernel
theorem d100_62 : cod 100 62 = some (.ifCond .eq 7, 65) := by decide +kernel
theorem d100_65 : cod 100 65 = some (.iconst 1, 66) := by decide +kernel
theorem d100_66 : cod 100 66 = some (.goto 4, 69) := by decide +kernel
theorem d100_69 : cod 100 69 = some (.iconst 0, 70) := by decide +kernel
theorem d100_70 : cod 100 70 = some (.invokestatic 88, 73) := by decide +kernel
theorem d100_73 : cod 100 73 = some (.aload_n 0, 74) := by decide +kernel
theorem d100_74 : cod 100 74 = some (.iload 5, 76) := by decide +kernel
theorem d100_76 : cod 100 76 = some (.invokevirtual 160, 79) := by decide +kernel
theorem d100_79 : cod 100 79 = some (.invokestatic 122, 82) := by decide +kernel
theorem d100_82 : cod 100 82 = some (.new 136, 85) := by decide +kernel
theorem d100_85 : cod 100 85 = some (.dup, 86) := by decide +kernel
theorem d100_86 : cod 100 86 = some (.aload_n 0, 87) := by decide +kernel
theorem d100_87 : cod 100 87 = some (.getfield 19, 90) := by decide +kernel
theorem d100_90 : cod 100 90 = some (.invokevirtual 129, 93) := by decide +kernel
theorem d100_93 : cod 100 93 = some (.iload_n 1, 94) := by decide +kernel
theorem d100_94 : cod 100 94 = some (.iload_n 2, 95) := by decide +kernel
theorem d100_95 : cod 100 95 = some (.iload 5, 97) := by decide +kernel
theorem d100_97 : cod 100 97 = some (.iconst 0, 98) := by decide +kernel
theorem d100_98 : cod 100 98 = some (.invokespecial 163, 101) := by decide +kernel
theorem d100_101 : cod 100 101 = some (.astore 7, 103) := by decide +kernel
theorem d100_103 : cod 100 103 = some (.aload 7, 105) := by decide +kernel
theorem d100_105 : cod 100 105 = some (.aload_n 0, 106) := by decide +kernel
theorem d100_106 : cod 100 106 = some (.getfield 10, 109) := by decide +kernel
theorem d100_109 : cod 100 109 = some (.iload_n 3, 110) := by decide +kernel
theorem d100_110 : cod 100 110 = some (.iload 4, 112) := by decide +kernel
theorem d100_112 : cod 100 112 = some (.invokevirtual 192, 115) := by decide +kernel
theorem d100_115 : cod 100 115 = some (.aload_n 0, 116) := by decide +kernel
theorem d100_116 : cod 100 116 = some (.aload 7, 118) := by decide +kernel
theorem d100_118 : cod 100 118 = some (.invokevirtual 166, 121) := by decide +kernel
theorem d100_121 : cod 100 121 = some (.aload 7, 123) := by decide +kernel
theorem d100_123 : cod 100 123 = some (.getfield 170, 126) := by decide +kernel
theorem d100_126 : cod 100 126 = some (.ireturn, 127) := by decide +kernel
theorem d101_0 : cod 101 0 = some (.iload_n 0, 1) := by decide +kernel
theorem d101_1 : cod 101 1 = some (.iconst 0, 2) := by decide +kernel
theorem d101_2 : cod 101 2 = some (.bipush 7, 4) := by decide +kernel
theorem d101_4 : cod 101 4 = some (.invokestatic 84, 7) := by decide +kernel
theorem d101_7 : cod 101 7 = some (.ireturn, 8) := by decide +kernel
theorem d102_0 : cod 102 0 = some (.aload_n 0, 1) := by decide +kernel
theorem d102_1 : cod 102 1 = some (.iload_n 1, 2) := by decide +kernel
theorem d102_2 : cod 102 2 = some (.invokevirtual 173, 5) := by decide +kernel
theorem d102_5 : cod 102 5 = some (.ifCond .eq 31, 8) := by decide +kernel
theorem d102_8 : cod 102 8 = some (.iload_n 2, 9) := by decide +kernel
theorem d102_9 : cod 102 9 = some (.iconst 0, 10) := by decide +kernel
theorem d102_10 : cod 102 10 = some (.aload_n 0, 11) := by decide +kernel
theorem d102_11 : cod 102 11 = some (.getfield 19, 14) := by decide +kernel
theorem d102_14 : cod 102 14 = some (.iload_n 1, 15) := by decide +kernel
theorem d102_15 : cod 102 15 = some (.invokevirtual 132, 18) := by decide +kernel
theorem d102_18 : cod 102 18 = some (.checkcast 136, 21) := by decide +kernel
theorem d102_21 : cod 102 21 = some (.invokevirtual 176, 24) := by decide +kernel
theorem d102_24 : cod 102 24 = some (.iconst 1, 25) := by decide +kernel
theorem d102_25 : cod 102 25 = some (.isub, 26) := by decide +kernel
theorem d102_26 : cod 102 26 = some (.invokestatic 84, 29) := by decide +kernel
theorem d102_29 : cod 102 29 = some (.ifCond .eq 7, 32) := by decide +kernel
theorem d102_32 : cod 102 32 = some (.iconst 1, 33) := by decide +kernel
theorem d102_33 : cod 102 33 = some (.goto 4, 36) := by decide +kernel
theorem d102_36 : cod 102 36 = some (.iconst 0, 37) := by decide +kernel
theorem d102_37 : cod 102 37 = some (.invokestatic 112, 40) := by decide +kernel
theorem d102_40 : cod 102 40 = some (.iload_n 3, 41) := by decide +kernel
theorem d102_41 : cod 102 41 = some (.iconst 0, 42) := by decide +kernel
theorem d102_42 : cod 102 42 = some (.sipush 1023, 45) := by decide +kernel
theorem d102_45 : cod 102 45 = some (.invokestatic 84, 48) := by decide +kernel
theorem d102_48 : cod 102 48 = some (.invokestatic 88, 51) := by decide +kernel
theorem d102_51 : cod 102 51 = some (.aload_n 0, 52) := by decide +kernel
theorem d102_52 : cod 102 52 = some (.getfield 19, 55) := by decide +kernel
theorem d102_55 : cod 102 55 = some (.iload_n 1, 56) := by decide +kernel
theorem d102_56 : cod 102 56 = some (.invokevirtual 132, 59) := by decide +kernel
theorem d102_59 : cod 102 59 = some (.checkcast 136, 62) := by decide +kernel
theorem d102_62 : cod 102 62 = some (.astore 5, 64) := by decide +kernel
theorem d102_64 : cod 102 64 = some (.aload 5, 66) := by decide +kernel
theorem d102_66 : cod 102 66 = some (.getfield 179, 69) := by decide +kernel
theorem d102_69 : cod 102 69 = some (.iload_n 2, 70) := by decide +kernel
theorem d102_70 : cod 102 70 = some (.iaload, 71) := by decide +kernel
theorem d102_71 : cod 102 71 = some (.istore 6, 73) := by decide +kernel
theorem d102_73 : cod 102 73 = some (.aload 5, 75) := by decide +kernel
theorem d102_75 : cod 102 75 = some (.getfield 179, 78) := by decide +kernel
theorem d102_78 : cod 102 78 = some (.iload_n 2, 79) := by decide +kernel
theorem d102_79 : cod 102 79 = some (.iload_n 3, 80) := by decide +kernel
theorem d102_80 : cod 102 80 = some (.iastore, 81) := by decide +kernel
theorem d102_81 : cod 102 81 = some (.aload 5, 83) := by decide +kernel
theorem d102_83 : cod 102 83 = some (.getfield 182, 86) := by decide +kernel
theorem d102_86 : cod 102 86 = some (.iload_n 2, 87) := by decide +kernel
theorem d102_87 : cod 102 87 = some (.iload 4, 89) := by decide +kernel
theorem d102_89 : cod 102 89 = some (.bastore, 90) := by decide +kernel
theorem d102_90 : cod 102 90 = some (.aload 5, 92) := by decide +kernel
theorem d102_92 : cod 102 92 = some (.aload_n 0, 93) := by decide +kernel
theorem d102_93 : cod 102 93 = some (.getfield 10, 96) := by decide +kernel
theorem d102_96 : cod 102 96 = some (.invokevirtual 138, 99) := by decide +kernel
theorem d102_99 : cod 102 99 = some (.aload_n 0, 100) := by decide +kernel
theorem d102_100 : cod 102 100 = some (.getfield 25, 103) := by decide +kernel
theorem d102_103 : cod 102 103 = some (.aload 5, 105) := by decide +kernel
theorem d102_105 : cod 102 105 = some (.getfield 186, 108) := by decide +kernel
theorem d102_108 : cod 102 108 = some (.aaload, 109) := by decide +kernel
theorem d102_109 : cod 102 109 = some (.invokevirtual 142, 112) := by decide +kernel
theorem d102_112 : cod 102 112 = some (.iload 6, 114) := by decide +kernel
theorem d102_114 : cod 102 114 = some (.ireturn, 115) := by decide +kernel
theorem d103_0 : cod 103 0 = some (.iload_n 1, 1) := by decide +kernel
theorem d103_1 : cod 103 1 = some (.iconst 0, 2) := by decide +kernel
theorem d103_2 : cod 103 2 = some (.aload_n 0, 3) := by decide +kernel
theorem d103_3 : cod 103 3 = some (.getfield 19, 6) := by decide +kernel
theorem d103_6 : cod 103 6 = some (.invokevirtual 129, 9) := by decide +kernel
theorem d103_9 : cod 103 9 = some (.iconst 1, 10) := by decide +kernel
theorem d103_10 : cod 103 10 = some (.isub, 11) := by decide +kernel
theorem d103_11 : cod 103 11 = some (.invokestatic 84, 14) := by decide +kernel
theorem d103_14 : cod 103 14 = some (.ireturn, 15) := by decide +kernel
theorem d104_0 : cod 104 0 = some (.aload_n 0, 1) := by decide +kernel
theorem d104_1 : cod 104 1 = some (.iload_n 1, 2) := by decide +kernel
theorem d104_2 : cod 104 2 = some (.invokevirtual 173, 5) := by decide +kernel
theorem d104_5 : cod 104 5 = some (.ifCond .eq 16, 8) := by decide +kernel
theorem d104_8 : cod 104 8 = some (.iload_n 2, 9) := by decide +kernel
theorem d104_9 : cod 104 9 = some (.iconst 0, 10) := by decide +kernel
theorem d104_10 : cod 104 10 = some (.iconst 3, 11) := by decide +kernel
theorem d104_11 : cod 104 11 = some (.invokestatic 84, 14) := by decide +kernel
theorem d104_14 : cod 104 14 = some (.ifCond .eq 7, 17) := by decide +kernel
theorem d104_17 : cod 104 17 = some (.iconst 1, 18) := by decide +kernel
theorem d104_18 : cod 104 18 = some (.goto 4, 21) := by decide +kernel
theorem d104_21 : cod 104 21 = some (.iconst 0, 22) := by decide +kernel
theorem d104_22 : cod 104 22 = some (.invokestatic 112, 25) := by decide +kernel
theorem d104_25 : cod 104 25 = some (.iload_n 3, 26) := by decide +kernel
theorem d104_26 : cod 104 26 = some (.iconst 5, 27) := by decide +kernel
theorem d104_27 : cod 104 27 = some (.bipush 20, 29) := by decide +kernel
theorem d104_29 : cod 104 29 = some (.invokestatic 84, 32) := by decide +kernel
theorem d104_32 : cod 104 32 = some (.ifCond .eq 20, 35) := by decide +kernel
theorem d104_35 : cod 104 35 = some (.iload 4, 37) := by decide +kernel
theorem d104_37 : cod 104 37 = some (.bipush 50, 39) := by decide +kernel
theorem d104_39 : cod 104 39 = some (.sipush 400, 42) := by decide +kernel
theorem d104_42 : cod 104 42 = some (.invokestatic 84, 45) := by decide +kernel
theorem d104_45 : cod 104 45 = some (.ifCond .eq 7, 48) := by decide +kernel
theorem d104_48 : cod 104 48 = some (.iconst 1, 49) := by decide +kernel
theorem d104_49 : cod 104 49 = some (.goto 4, 52) := by decide +kernel
theorem d104_52 : cod 104 52 = some (.iconst 0, 53) := by decide +kernel
theorem d104_53 : cod 104 53 = some (.invokestatic 88, 56) := by decide +kernel
theorem d104_56 : cod 104 56 = some (.iload_n 3, 57) := by decide +kernel
theorem d104_57 : cod 104 57 = some (.sipush 200, 60) := by decide +kernel
theorem d104_60 : cod 104 60 = some (.imul, 61) := by decide +kernel
theorem d104_61 : cod 104 61 = some (.iconst 4, 62) := by decide +kernel
theorem d104_62 : cod 104 62 = some (.imul, 63) := by decide +kernel
theorem d104_63 : cod 104 63 = some (.iload 4, 65) := by decide +kernel
theorem d104_65 : cod 104 65 = some (.iconst 2, 66) := by decide +kernel
theorem d104_66 : cod 104 66 = some (.idiv, 67) := by decide +kernel
theorem d104_67 : cod 104 67 = some (.iadd, 68) := by decide +kernel
theorem d104_68 : cod 104 68 = some (.iload 4, 70) := by decide +kernel
theorem d104_70 : cod 104 70 = some (.idiv, 71) := by decide +kernel
theorem d104_71 : cod 104 71 = some (.istore 5, 73) := by decide +kernel
theorem d104_73 : cod 104 73 = some (.aload_n 0, 74) := by decide +kernel
theorem d104_74 : cod 104 74 = some (.getfield 19, 77) := by decide +kernel
theorem d104_77 : cod 104 77 = some (.iload_n 1, 78) := by decide +kernel
theorem d104_78 : cod 104 78 = some (.invokevirtual 132, 81) := by decide +kernel
theorem d104_81 : cod 104 81 = some (.checkcast 136, 84) := by decide +kernel
theorem d104_84 : cod 104 84 = some (.getfield 260, 87) := by decide +kernel
theorem d104_87 : cod 104 87 = some (.iload_n 2, 88) := by decide +kernel
theorem d104_88 : cod 104 88 = some (.iload 5, 90) := by decide +kernel
theorem d104_90 : cod 104 90 = some (.iastore, 91) := by decide +kernel
theorem d104_91 : cod 104 91 = some (.iload 5, 93) := by decide +kernel
theorem d104_93 : cod 104 93 = some (.ireturn, 94) := by decide +kernel
theorem d105_0 : cod 105 0 = some (.iload_n 1, 1) := by decide +kernel
theorem d105_1 : cod 105 1 = some (.invokestatic 266, 4) := by decide +kernel
theorem d105_4 : cod 105 4 = some (.ifCond .eq 14, 7) := by decide +kernel
theorem d105_7 : cod 105 7 = some (.iload_n 2, 8) := by decide +kernel
theorem d105_8 : cod 105 8 = some (.invokestatic 266, 11) := by decide +kernel
theorem d105_11 : cod 105 11 = some (.ifCond .eq 7, 14) := by decide +kernel
theorem d105_14 : cod 105 14 = some (.iconst 1, 15) := by decide +kernel
theorem d105_15 : cod 105 15 = some (.goto 4, 18) := by decide +kernel
theorem d105_18 : cod 105 18 = some (.iconst 0, 19) := by decide +kernel
theorem d105_19 : cod 105 19 = some (.invokestatic 112, 22) := by decide +kernel
theorem d105_22 : cod 105 22 = some (.iload_n 1, 23) := by decide +kernel
theorem d105_23 : cod 105 23 = some (.iload_n 2, 24) := by decide +kernel
theorem d105_24 : cod 105 24 = some (.if_icmp .eq 17, 27) := by decide +kernel
theorem d105_27 : cod 105 27 = some (.iload_n 3, 28) := by decide +kernel
theorem d105_28 : cod 105 28 = some (.iconst 0, 29) := by decide +kernel
theorem d105_29 : cod 105 29 = some (.bipush 9, 31) := by decide +kernel
theorem d105_31 : cod 105 31 = some (.invokestatic 84, 34) := by decide +kernel
theorem d105_34 : cod 105 34 = some (.ifCond .eq 7, 37) := by decide +kernel
theorem d105_37 : cod 105 37 = some (.iconst 1, 38) := by decide +kernel
theorem d105_38 : cod 105 38 = some (.goto 4, 41) := by decide +kernel
theorem d105_41 : cod 105 41 = some (.iconst 0, 42) := by decide +kernel
theorem d105_42 : cod 105 42 = some (.invokestatic 88, 45) := by decide +kernel
theorem d105_45 : cod 105 45 = some (.aload_n 0, 46) := by decide +kernel
theorem d105_46 : cod 105 46 = some (.getfield 33, 49) := by decide +kernel
theorem d105_49 : cod 105 49 = some (.iload_n 1, 50) := by decide +kernel
theorem d105_50 : cod 105 50 = some (.iload_n 2, 51) := by decide +kernel
theorem d105_51 : cod 105 51 = some (.iload_n 3, 52) := by decide +kernel
theorem d105_52 : cod 105 52 = some (.invokevirtual 269, 55) := by decide +kernel
theorem d105_55 : cod 105 55 = some (.aload_n 0, 56) := by decide +kernel
theorem d105_56 : cod 105 56 = some (.getfield 33, 59) := by decide +kernel
theorem d105_59 : cod 105 59 = some (.iload_n 1, 60) := by decide +kernel
theorem d105_60 : cod 105 60 = some (.iload_n 2, 61) := by decide +kernel
theorem d105_61 : cod 105 61 = some (.invokevirtual 273, 64) := by decide +kernel
theorem d105_64 : cod 105 64 = some (.ireturn, 65) := by decide +kernel
theorem d106_0 : cod 106 0 = some (.iload_n 1, 1) := by decide +kernel
theorem d106_1 : cod 106 1 = some (.invokestatic 266, 4) := by decide +kernel
theorem d106_4 : cod 106 4 = some (.ifCond .eq 32, 7) := by decide +kernel
theorem d106_7 : cod 106 7 = some (.iload_n 2, 8) := by decide +kernel
theorem d106_8 : cod 106 8 = some (.invokestatic 266, 11) := by decide +kernel
theorem d106_11 : cod 106 11 = some (.ifCond .eq 25, 14) := by decide +kernel
theorem d106_14 : cod 106 14 = some (.iload 4, 16) := by decide +kernel
theorem d106_16 : cod 106 16 = some (.iconst 0, 17) := by decide +kernel
theorem d106_17 : cod 106 17 = some (.aload_n 0, 18) := by decide +kernel
theorem d106_18 : cod 106 18 = some (.getfield 40, 21) := by decide +kernel
theorem d106_21 : cod 106 21 = some (.invokevirtual 129, 24) := by decide +kernel
theorem d106_24 : cod 106 24 = some (.iconst 1, 25) := by decide +kernel
theorem d106_25 : cod 106 25 = some (.isub, 26) := by decide +kernel
theorem d106_26 : cod 106 26 = some (.invokestatic 84, 29) := by decide +kernel
theorem d106_29 : cod 106 29 = some (.ifCond .eq 7, 32) := by decide +kernel
theorem d106_32 : cod 106 32 = some (.iconst 1, 33) := by decide +kernel
theorem d106_33 : cod 106 33 = some (.goto 4, 36) := by decide +kernel
theorem d106_36 : cod 106 36 = some (.iconst 0, 37) := by decide +kernel
theorem d106_37 : cod 106 37 = some (.invokestatic 112, 40) := by decide +kernel
theorem d106_40 : cod 106 40 = some (.iload_n 3, 41) := by decide +kernel
theorem d106_41 : cod 106 41 = some (.iconst 1, 42) := by decide +kernel
theorem d106_42 : cod 106 42 = some (.iconst 4, 43) := by decide +kernel
theorem d106_43 : cod 106 43 = some (.invokestatic 84, 46) := by decide +kernel
theorem d106_46 : cod 106 46 = some (.ifCond .eq 15, 49) := by decide +kernel
theorem d106_49 : cod 106 49 = some (.iload 5, 51) := by decide +kernel
theorem d106_51 : cod 106 51 = some (.invokestatic 276, 54) := by decide +kernel
theorem d106_54 : cod 106 54 = some (.ifCond .eq 7, 57) := by decide +kernel
theorem d106_57 : cod 106 57 = some (.iconst 1, 58) := by decide +kernel
theorem d106_58 : cod 106 58 = some (.goto 4, 61) := by decide +kernel
theorem d106_61 : cod 106 61 = some (.iconst 0, 62) := by decide +kernel
theorem d106_62 : cod 106 62 = some (.invokestatic 88, 65) := by decide +kernel
theorem d106_65 : cod 106 65 = some (.aload_n 0, 66) := by decide +kernel
theorem d106_66 : cod 106 66 = some (.getfield 43, 69) := by decide +kernel
theorem d106_69 : cod 106 69 = some (.invokevirtual 129, 72) := by decide +kernel
theorem d106_72 : cod 106 72 = some (.bipush 12, 74) := by decide +kernel
theorem d106_74 : cod 106 74 = some (.if_icmp .ge 7, 77) := by decide +kernel
theorem d106_77 : cod 106 77 = some (.iconst 1, 78) := by decide +kernel
theorem d106_78 : cod 106 78 = some (.goto 4, 81) := by decide +kernel
theorem d106_81 : cod 106 81 = some (.iconst 0, 82) := by decide +kernel
theorem d106_82 : cod 106 82 = some (.invokestatic 122, 85) := by decide +kernel
theorem d106_85 : cod 106 85 = some (.new 298, 88) := by decide +kernel
theorem d106_88 : cod 106 88 = some (.dup, 89) := by decide +kernel
theorem d106_89 : cod 106 89 = some (.iload_n 1, 90) := by decide +kernel
theorem d106_90 : cod 106 90 = some (.iload_n 2, 91) := by decide +kernel
theorem d106_91 : cod 106 91 = some (.iload_n 3, 92) := by decide +kernel
theorem d106_92 : cod 106 92 = some (.iload 4, 94) := by decide +kernel
theorem d106_94 : cod 106 94 = some (.iload 5, 96) := by decide +kernel
theorem d106_96 : cod 106 96 = some (.invokespecial 300, 99) := by decide +kernel
theorem d106_99 : cod 106 99 = some (.astore 6, 101) := by decide +kernel
theorem d106_101 : cod 106 101 = some (.aload_n 0, 102) := by decide +kernel
theorem d106_102 : cod 106 102 = some (.getfield 33, 105) := by decide +kernel
theorem d106_105 : cod 106 105 = some (.iload_n 1, 106) := by decide +kernel
theorem d106_106 : cod 106 106 = some (.iload_n 2, 107) := by decide +kernel
theorem d106_107 : cod 106 107 = some (.invokevirtual 273, 110) := by decide +kernel
theorem d106_110 : cod 106 110 = some (.istore 7, 112) := by decide +kernel
theorem d106_112 : cod 106 112 = some (.aload 6, 114) := by decide +kernel
theorem d106_114 : cod 106 114 = some (.iload 7, 116) := by decide +kernel
theorem d106_116 : cod 106 116 = some (.iconst (-1), 117) := by decide +kernel
theorem d106_117 : cod 106 117 = some (.if_icmp .ne 8, 120) := by decide +kernel
theorem d106_120 : cod 106 120 = some (.iload 5, 122) := by decide +kernel
theorem d106_122 : cod 106 122 = some (.goto 8, 125) := by decide +kernel
theorem d106_125 : cod 106 125 = some (.iload 5, 127) := by decide +kernel
theorem d106_127 : cod 106 127 = some (.iload 7, 129) := by decide +kernel
theorem d106_129 : cod 106 129 = some (.iadd, 130) := by decide +kernel
theorem d106_130 : cod 106 130 = some (.putfield 303, 133) := by decide +kernel
theorem d106_133 : cod 106 133 = some (.aload_n 0, 134) := by decide +kernel
theorem d106_134 : cod 106 134 = some (.getfield 43, 137) := by decide +kernel
theorem d106_137 : cod 106 137 = some (.aload 6, 139) := by decide +kernel
theorem d106_139 : cod 106 139 = some (.invokevirtual 294, 142) := by decide +kernel
theorem d106_142 : cod 106 142 = some (.pop, 143) := by decide +kernel
theorem d106_143 : cod 106 143 = some (.aload_n 0, 144) := by decide +kernel
theorem d106_144 : cod 106 144 = some (.getfield 43, 147) := by decide +kernel
theorem d106_147 : cod 106 147 = some (.invokevirtual 129, 150) := by decide +kernel
theorem d106_150 : cod 106 150 = some (.iconst 1, 151) := by decide +kernel
theorem d106_151 : cod 106 151 = some (.isub, 152) := by decide +kernel
theorem d106_152 : cod 106 152 = some (.ireturn, 153) := by decide +kernel
theorem d107_0 : cod 107 0 = some (.aload_n 0, 1) := by decide +kernel
theorem d107_1 : cod 107 1 = some (.iload_n 1, 2) := by decide +kernel
theorem d107_2 : cod 107 2 = some (.invokevirtual 306, 5) := by decide +kernel
theorem d107_5 : cod 107 5 = some (.ifCond .eq 15, 8) := by decide +kernel
theorem d107_8 : cod 107 8 = some (.aload_n 0, 9) := by decide +kernel
theorem d107_9 : cod 107 9 = some (.iload_n 2, 10) := by decide +kernel
theorem d107_10 : cod 107 10 = some (.invokevirtual 309, 13) := by decide +kernel
theorem d107_13 : cod 107 13 = some (.ifCond .eq 7, 16) := by decide +kernel
theorem d107_16 : cod 107 16 = some (.iconst 1, 17) := by decide +kernel
theorem d107_17 : cod 107 17 = some (.goto 4, 20) := by decide +kernel
theorem d107_20 : cod 107 20 = some (.iconst 0, 21) := by decide +kernel
theorem d107_21 : cod 107 21 = some (.invokestatic 112, 24) := by decide +kernel
theorem d107_24 : cod 107 24 = some (.iload_n 3, 25) := by decide +kernel
theorem d107_25 : cod 107 25 = some (.iconst 0, 26) := by decide +kernel
theorem d107_26 : cod 107 26 = some (.iconst 4, 27) := by decide +kernel
theorem d107_27 : cod 107 27 = some (.invokestatic 84, 30) := by decide +kernel
theorem d107_30 : cod 107 30 = some (.invokestatic 88, 33) := by decide +kernel
theorem d107_33 : cod 107 33 = some (.aload_n 0, 34) := by decide +kernel
theorem d107_34 : cod 107 34 = some (.getfield 43, 37) := by decide +kernel
theorem d107_37 : cod 107 37 = some (.iload_n 1, 38) := by decide +kernel
theorem d107_38 : cod 107 38 = some (.invokevirtual 132, 41) := by decide +kernel
theorem d107_41 : cod 107 41 = some (.checkcast 298, 44) := by decide +kernel
theorem d107_44 : cod 107 44 = some (.astore 4, 46) := by decide +kernel
theorem d107_46 : cod 107 46 = some (.aload 4, 48) := by decide +kernel
theorem d107_48 : cod 107 48 = some (.getfield 312, 51) := by decide +kernel
theorem d107_51 : cod 107 51 = some (.iload_n 2, 52) := by decide +kernel
theorem d107_52 : cod 107 52 = some (.iload_n 3, 53) := by decide +kernel
theorem d107_53 : cod 107 53 = some (.iastore, 54) := by decide +kernel
theorem d107_54 : cod 107 54 = some (.aload_n 0, 55) := by decide +kernel
theorem d107_55 : cod 107 55 = some (.aload 4, 57) := by decide +kernel
theorem d107_57 : cod 107 57 = some (.invokevirtual 314, 60) := by decide +kernel
theorem d107_60 : cod 107 60 = some (.ireturn, 61) := by decide +kernel
theorem d108_0 : cod 108 0 = some (.iload_n 1, 1) := by decide +kernel
theorem d108_1 : cod 108 1 = some (.iconst 0, 2) := by decide +kernel
theorem d108_2 : cod 108 2 = some (.aload_n 0, 3) := by decide +kernel
theorem d108_3 : cod 108 3 = some (.getfield 43, 6) := by decide +kernel
theorem d108_6 : cod 108 6 = some (.invokevirtual 129, 9) := by decide +kernel
theorem d108_9 : cod 108 9 = some (.iconst 1, 10) := by decide +kernel
theorem d108_10 : cod 108 10 = some (.isub, 11) := by decide +kernel
theorem d108_11 : cod 108 11 = some (.invokestatic 84, 14) := by decide +kernel
theorem d108_14 : cod 108 14 = some (.ireturn, 15) := by decide +kernel
theorem d109_0 : cod 109 0 = some (.iload_n 1, 1) := by decide +kernel
theorem d109_1 : cod 109 1 = some (.iconst 0, 2) := by decide +kernel
theorem d109_2 : cod 109 2 = some (.aload_n 0, 3) := by decide +kernel
theorem d109_3 : cod 109 3 = some (.getfield 37, 6) := by decide +kernel
theorem d109_6 : cod 109 6 = some (.invokevirtual 129, 9) := by decide +kernel
theorem d109_9 : cod 109 9 = some (.iconst 1, 10) := by decide +kernel
theorem d109_10 : cod 109 10 = some (.isub, 11) := by decide +kernel
theorem d109_11 : cod 109 11 = some (.invokestatic 84, 14) := by decide +kernel
theorem d109_14 : cod 109 14 = some (.ireturn, 15) := by decide +kernel
theorem d110_0 : cod 110 0 = some (.iconst 0, 1) := by decide +kernel
theorem d110_1 : cod 110 1 = some (.istore_n 2, 2) := by decide +kernel
theorem d110_2 : cod 110 2 = some (.iconst 0, 3) := by decide +kernel
theorem d110_3 : cod 110 3 = some (.istore_n 3, 4) := by decide +kernel
theorem d110_4 : cod 110 4 = some (.iload_n 3, 5) := by decide +kernel
theorem d110_5 : cod 110 5 = some (.aload_n 0, 6) := by decide +kernel
theorem d110_6 : cod 110 6 = some (.getfield 37, 9) := by decide +kernel
theorem d110_9 : cod 110 9 = some (.invokevirtual 129, 12) := by decide +kernel
theorem d110_12 : cod 110 12 = some (.if_icmp .ge 33, 15) := by decide +kernel
theorem d110_15 : cod 110 15 = some (.iload_n 2, 16) := by decide +kernel
theorem d110_16 : cod 110 16 = some (.aload_n 1, 17) := by decide +kernel
theorem d110_17 : cod 110 17 = some (.getfield 312, 20) := by decide +kernel
theorem d110_20 : cod 110 20 = some (.iload_n 3, 21) := by decide +kernel
theorem d110_21 : cod 110 21 = some (.iaload, 22) := by decide +kernel
theorem d110_22 : cod 110 22 = some (.aload_n 0, 23) := by decide +kernel
theorem d110_23 : cod 110 23 = some (.getfield 37, 26) := by decide +kernel
theorem d110_26 : cod 110 26 = some (.iload_n 3, 27) := by decide +kernel
theorem d110_27 : cod 110 27 = some (.invokevirtual 132, 30) := by decide +kernel
theorem d110_30 : cod 110 30 = some (.checkcast 290, 33) := by decide +kernel
theorem d110_33 : cod 110 33 = some (.getfield 556, 36) := by decide +kernel
theorem d110_36 : cod 110 36 = some (.imul, 37) := by decide +kernel
theorem d110_37 : cod 110 37 = some (.iadd, 38) := by decide +kernel
theorem d110_38 : cod 110 38 = some (.istore_n 2, 39) := by decide +kernel
theorem d110_39 : cod 110 39 = some (.iinc 3 1, 42) := by decide +kernel
theorem d110_42 : cod 110 42 = some (.goto (-38), 45) := by decide +kernel
theorem d110_45 : cod 110 45 = some (.iload_n 2, 46) := by decide +kernel
theorem d110_46 : cod 110 46 = some (.ireturn, 47) := by decide +kernel
theorem d111_0 : cod 111 0 = some (.aload_n 0, 1) := by decide +kernel
theorem d111_1 : cod 111 1 = some (.iload_n 1, 2) := by decide +kernel
theorem d111_2 : cod 111 2 = some (.invokevirtual 306, 5) := by decide +kernel
theorem d111_5 : cod 111 5 = some (.invokestatic 112, 8) := by decide +kernel
theorem d111_8 : cod 111 8 = some (.iload_n 2, 9) := by decide +kernel
theorem d111_9 : cod 111 9 = some (.invokestatic 276, 12) := by decide +kernel
theorem d111_12 : cod 111 12 = some (.invokestatic 88, 15) := by decide +kernel
theorem d111_15 : cod 111 15 = some (.aload_n 0, 16) := by decide +kernel
theorem d111_16 : cod 111 16 = some (.getfield 43, 19) := by decide +kernel
theorem d111_19 : cod 111 19 = some (.iload_n 1, 20) := by decide +kernel
theorem d111_20 : cod 111 20 = some (.invokevirtual 132, 23) := by decide +kernel
theorem d111_23 : cod 111 23 = some (.checkcast 298, 26) := by decide +kernel
theorem d111_26 : cod 111 26 = some (.astore 4, 28) := by decide +kernel
theorem d111_28 : cod 111 28 = some (.aload 4, 30) := by decide +kernel
theorem d111_30 : cod 111 30 = some (.getfield 303, 33) := by decide +kernel
theorem d111_33 : cod 111 33 = some (.istore 5, 35) := by decide +kernel
theorem d111_35 : cod 111 35 = some (.aload 4, 37) := by decide +kernel
theorem d111_37 : cod 111 37 = some (.iload_n 2, 38) := by decide +kernel
theorem d111_38 : cod 111 38 = some (.putfield 303, 41) := by decide +kernel
theorem d111_41 : cod 111 41 = some (.aload 4, 43) := by decide +kernel
theorem d111_43 : cod 111 43 = some (.iload_n 3, 44) := by decide +kernel
theorem d111_44 : cod 111 44 = some (.putfield 318, 47) := by decide +kernel
theorem d111_47 : cod 111 47 = some (.iload 5, 49) := by decide +kernel
theorem d111_49 : cod 111 49 = some (.ireturn, 50) := by decide +kernel
theorem d112_0 : cod 112 0 = some (.iload_n 1, 1) := by decide +kernel
theorem d112_1 : cod 112 1 = some (.iconst 0, 2) := by decide +kernel
theorem d112_2 : cod 112 2 = some (.aload_n 0, 3) := by decide +kernel
theorem d112_3 : cod 112 3 = some (.getfield 49, 6) := by decide +kernel
theorem d112_6 : cod 112 6 = some (.getfield 350, 9) := by decide +kernel
theorem d112_9 : cod 112 9 = some (.invokestatic 84, 12) := by decide +kernel
theorem d112_12 : cod 112 12 = some (.invokestatic 112, 15) := by decide +kernel
theorem d112_15 : cod 112 15 = some (.iload_n 2, 16) := by decide +kernel
theorem d112_16 : cod 112 16 = some (.iconst 0, 17) := by decide +kernel
theorem d112_17 : cod 112 17 = some (.bipush 7, 19) := by decide +kernel
theorem d112_19 : cod 112 19 = some (.invokestatic 84, 22) := by decide +kernel
theorem d112_22 : cod 112 22 = some (.ifCond .eq 17, 25) := by decide +kernel
theorem d112_25 : cod 112 25 = some (.iload_n 3, 26) := by decide +kernel
theorem d112_26 : cod 112 26 = some (.iconst 0, 27) := by decide +kernel
theorem d112_27 : cod 112 27 = some (.bipush 16, 29) := by decide +kernel
theorem d112_29 : cod 112 29 = some (.invokestatic 84, 32) := by decide +kernel
theorem d112_32 : cod 112 32 = some (.ifCond .eq 7, 35) := by decide +kernel
theorem d112_35 : cod 112 35 = some (.iconst 1, 36) := by decide +kernel
theorem d112_36 : cod 112 36 = some (.goto 4, 39) := by decide +kernel
theorem d112_39 : cod 112 39 = some (.iconst 0, 40) := by decide +kernel
theorem d112_40 : cod 112 40 = some (.invokestatic 88, 43) := by decide +kernel
theorem d112_43 : cod 112 43 = some (.iload_n 1, 44) := by decide +kernel
theorem d112_44 : cod 112 44 = some (.iconst 5, 45) := by decide +kernel
theorem d112_45 : cod 112 45 = some (.if_icmp .ge 7, 48) := by decide +kernel
theorem d112_48 : cod 112 48 = some (.iconst 1, 49) := by decide +kernel
theorem d112_49 : cod 112 49 = some (.goto 4, 52) := by decide +kernel
theorem d112_52 : cod 112 52 = some (.iconst 0, 53) := by decide +kernel
theorem d112_53 : cod 112 53 = some (.invokestatic 122, 56) := by decide +kernel
theorem d112_56 : cod 112 56 = some (.aload_n 0, 57) := by decide +kernel
theorem d112_57 : cod 112 57 = some (.getfield 49, 60) := by decide +kernel
theorem d112_60 : cod 112 60 = some (.iload_n 1, 61) := by decide +kernel
theorem d112_61 : cod 112 61 = some (.iload_n 2, 62) := by decide +kernel
theorem d112_62 : cod 112 62 = some (.iload_n 3, 63) := by decide +kernel
theorem d112_63 : cod 112 63 = some (.invokevirtual 353, 66) := by decide +kernel
theorem d112_66 : cod 112 66 = some (.aload_n 0, 67) := by decide +kernel
theorem d112_67 : cod 112 67 = some (.getfield 49, 70) := by decide +kernel
theorem d112_70 : cod 112 70 = some (.getfield 350, 73) := by decide +kernel
theorem d112_73 : cod 112 73 = some (.ireturn, 74) := by decide +kernel
theorem d113_0 : cod 113 0 = some (.aload_n 0, 1) := by decide +kernel
theorem d113_1 : cod 113 1 = some (.iload_n 1, 2) := by decide +kernel
theorem d113_2 : cod 113 2 = some (.invokevirtual 173, 5) := by decide +kernel
theorem d113_5 : cod 113 5 = some (.invokestatic 112, 8) := by decide +kernel
theorem d113_8 : cod 113 8 = some (.iload_n 2, 9) := by decide +kernel
theorem d113_9 : cod 113 9 = some (.iconst 0, 10) := by decide +kernel
theorem d113_10 : cod 113 10 = some (.bipush 7, 12) := by decide +kernel
theorem d113_12 : cod 113 12 = some (.invokestatic 84, 15) := by decide +kernel
theorem d113_15 : cod 113 15 = some (.ifCond .eq 16, 18) := by decide +kernel
theorem d113_18 : cod 113 18 = some (.iload_n 3, 19) := by decide +kernel
theorem d113_19 : cod 113 19 = some (.iconst 0, 20) := by decide +kernel
theorem d113_20 : cod 113 20 = some (.iconst 2, 21) := by decide +kernel
theorem d113_21 : cod 113 21 = some (.invokestatic 84, 24) := by decide +kernel
theorem d113_24 : cod 113 24 = some (.ifCond .eq 7, 27) := by decide +kernel
theorem d113_27 : cod 113 27 = some (.iconst 1, 28) := by decide +kernel
theorem d113_28 : cod 113 28 = some (.goto 4, 31) := by decide +kernel
theorem d113_31 : cod 113 31 = some (.iconst 0, 32) := by decide +kernel
theorem d113_32 : cod 113 32 = some (.invokestatic 88, 35) := by decide +kernel
theorem d113_35 : cod 113 35 = some (.aload_n 0, 36) := by decide +kernel
theorem d113_36 : cod 113 36 = some (.getfield 19, 39) := by decide +kernel
theorem d113_39 : cod 113 39 = some (.iload_n 1, 40) := by decide +kernel
theorem d113_40 : cod 113 40 = some (.invokevirtual 132, 43) := by decide +kernel
theorem d113_43 : cod 113 43 = some (.checkcast 136, 46) := by decide +kernel
theorem d113_46 : cod 113 46 = some (.astore 4, 48) := by decide +kernel
theorem d113_48 : cod 113 48 = some (.aload 4, 50) := by decide +kernel
theorem d113_50 : cod 113 50 = some (.getfield 356, 53) := by decide +kernel
theorem d113_53 : cod 113 53 = some (.iload_n 2, 54) := by decide +kernel
theorem d113_54 : cod 113 54 = some (.iaload, 55) := by decide +kernel
theorem d113_55 : cod 113 55 = some (.istore 5, 57) := by decide +kernel
theorem d113_57 : cod 113 57 = some (.aload 4, 59) := by decide +kernel
theorem d113_59 : cod 113 59 = some (.getfield 356, 62) := by decide +kernel
theorem d113_62 : cod 113 62 = some (.iload_n 2, 63) := by decide +kernel
theorem d113_63 : cod 113 63 = some (.iload_n 3, 64) := by decide +kernel
theorem d113_64 : cod 113 64 = some (.iastore, 65) := by decide +kernel
theorem d113_65 : cod 113 65 = some (.iload 5, 67) := by decide +kernel
theorem d113_67 : cod 113 67 = some (.ireturn, 68) := by decide +kernel
theorem d114_0 : cod 114 0 = some (.aload_n 0, 1) := by decide +kernel
theorem d114_1 : cod 114 1 = some (.iload_n 1, 2) := by decide +kernel
theorem d114_2 : cod 114 2 = some (.invokevirtual 173, 5) := by decide +kernel
theorem d114_5 : cod 114 5 = some (.invokestatic 112, 8) := by decide +kernel
theorem d114_8 : cod 114 8 = some (.iload_n 2, 9) := by decide +kernel
theorem d114_9 : cod 114 9 = some (.invokestatic 366, 12) := by decide +kernel
theorem d114_12 : cod 114 12 = some (.invokestatic 88, 15) := by decide +kernel
theorem d114_15 : cod 114 15 = some (.aload_n 0, 16) := by decide +kernel
theorem d114_16 : cod 114 16 = some (.getfield 56, 19) := by decide +kernel
theorem d114_19 : cod 114 19 = some (.getfield 369, 22) := by decide +kernel
theorem d114_22 : cod 114 22 = some (.bipush 20, 24) := by decide +kernel
theorem d114_24 : cod 114 24 = some (.if_icmp .ge 7, 27) := by decide +kernel
theorem d114_27 : cod 114 27 = some (.iconst 1, 28) := by decide +kernel
theorem d114_28 : cod 114 28 = some (.goto 4, 31) := by decide +kernel
theorem d114_31 : cod 114 31 = some (.iconst 0, 32) := by decide +kernel
theorem d114_32 : cod 114 32 = some (.invokestatic 122, 35) := by decide +kernel
theorem d114_35 : cod 114 35 = some (.aload_n 0, 36) := by decide +kernel
theorem d114_36 : cod 114 36 = some (.getfield 56, 39) := by decide +kernel
theorem d114_39 : cod 114 39 = some (.iload_n 1, 40) := by decide +kernel
theorem d114_40 : cod 114 40 = some (.iload_n 2, 41) := by decide +kernel
theorem d114_41 : cod 114 41 = some (.aload_n 0, 42) := by decide +kernel
theorem d114_42 : cod 114 42 = some (.getfield 372, 45) := by decide +kernel
theorem d114_45 : cod 114 45 = some (.iload_n 3, 46) := by decide +kernel
theorem d114_46 : cod 114 46 = some (.invokevirtual 375, 49) := by decide +kernel
theorem d114_49 : cod 114 49 = some (.ireturn, 50) := by decide +kernel
theorem d115_0 : cod 115 0 = some (.iload_n 0, 1) := by decide +kernel
theorem d115_1 : cod 115 1 = some (.iconst 0, 2) := by decide +kernel
theorem d115_2 : cod 115 2 = some (.iconst 4, 3) := by decide +kernel
theorem d115_3 : cod 115 3 = some (.invokestatic 84, 6) := by decide +kernel
theorem d115_6 : cod 115 6 = some (.ireturn, 7) := by decide +kernel
theorem d116_0 : cod 116 0 = some (.aload_n 0, 1) := by decide +kernel
theorem d116_1 : cod 116 1 = some (.iload_n 1, 2) := by decide +kernel
theorem d116_2 : cod 116 2 = some (.invokevirtual 173, 5) := by decide +kernel
theorem d116_5 : cod 116 5 = some (.invokestatic 112, 8) := by decide +kernel
theorem d116_8 : cod 116 8 = some (.aload_n 0, 9) := by decide +kernel
theorem d116_9 : cod 116 9 = some (.getfield 19, 12) := by decide +kernel
theorem d116_12 : cod 116 12 = some (.iload_n 1, 13) := by decide +kernel
theorem d116_13 : cod 116 13 = some (.invokevirtual 132, 16) := by decide +kernel
theorem d116_16 : cod 116 16 = some (.checkcast 136, 19) := by decide +kernel
theorem d116_19 : cod 116 19 = some (.astore_n 3, 20) := by decide +kernel
theorem d116_20 : cod 116 20 = some (.aload_n 3, 21) := by decide +kernel
theorem d116_21 : cod 116 21 = some (.getfield 382, 24) := by decide +kernel
theorem d116_24 : cod 116 24 = some (.ifCond .ne 7, 27) := by decide +kernel
theorem d116_27 : cod 116 27 = some (.iconst 1, 28) := by decide +kernel
theorem d116_28 : cod 116 28 = some (.goto 4, 31) := by decide +kernel
theorem d116_31 : cod 116 31 = some (.iconst 0, 32) := by decide +kernel
theorem d116_32 : cod 116 32 = some (.invokestatic 122, 35) := by decide +kernel
theorem d116_35 : cod 116 35 = some (.aload_n 3, 36) := by decide +kernel
theorem d116_36 : cod 116 36 = some (.iconst 1, 37) := by decide +kernel
theorem d116_37 : cod 116 37 = some (.putfield 382, 40) := by decide +kernel
theorem d116_40 : cod 116 40 = some (.aload_n 0, 41) := by decide +kernel
theorem d116_41 : cod 116 41 = some (.getfield 56, 44) := by decide +kernel
theorem d116_44 : cod 116 44 = some (.iload_n 1, 45) := by decide +kernel
theorem d116_45 : cod 116 45 = some (.aload_n 0, 46) := by decide +kernel
theorem d116_46 : cod 116 46 = some (.getfield 372, 49) := by decide +kernel
theorem d116_49 : cod 116 49 = some (.iload_n 2, 50) := by decide +kernel
theorem d116_50 : cod 116 50 = some (.invokevirtual 385, 53) := by decide +kernel
theorem d116_53 : cod 116 53 = some (.ireturn, 54) := by decide +kernel
theorem d117_0 : cod 117 0 = some (.iload_n 1, 1) := by decide +kernel
theorem d117_1 : cod 117 1 = some (.ifCond .eq 11, 4) := by decide +kernel
theorem d117_4 : cod 117 4 = some (.aload_n 0, 5) := by decide +kernel
theorem d117_5 : cod 117 5 = some (.iload_n 2, 6) := by decide +kernel
theorem d117_6 : cod 117 6 = some (.invokevirtual 306, 9) := by decide +kernel
theorem d117_9 : cod 117 9 = some (.goto 8, 12) := by decide +kernel
theorem d117_12 : cod 117 12 = some (.aload_n 0, 13) := by decide +kernel
theorem d117_13 : cod 117 13 = some (.iload_n 2, 14) := by decide +kernel
theorem d117_14 : cod 117 14 = some (.invokevirtual 173, 17) := by decide +kernel
theorem d117_17 : cod 117 17 = some (.invokestatic 112, 20) := by decide +kernel
theorem d117_20 : cod 117 20 = some (.iload_n 3, 21) := by decide +kernel
theorem d117_21 : cod 117 21 = some (.iconst 0, 22) := by decide +kernel
theorem d117_22 : cod 117 22 = some (.sipush 9999, 25) := by decide +kernel
theorem d117_25 : cod 117 25 = some (.invokestatic 84, 28) := by decide +kernel
theorem d117_28 : cod 117 28 = some (.invokestatic 88, 31) := by decide +kernel
theorem d117_31 : cod 117 31 = some (.aload_n 0, 32) := by decide +kernel
theorem d117_32 : cod 117 32 = some (.getfield 63, 35) := by decide +kernel
theorem d117_35 : cod 117 35 = some (.getfield 392, 38) := by decide +kernel
theorem d117_38 : cod 117 38 = some (.bipush 8, 40) := by decide +kernel
theorem d117_40 : cod 117 40 = some (.if_icmp .ge 19, 43) := by decide +kernel
theorem d117_43 : cod 117 43 = some (.aload_n 0, 44) := by decide +kernel
theorem d117_44 : cod 117 44 = some (.getfield 63, 47) := by decide +kernel
theorem d117_47 : cod 117 47 = some (.iload_n 1, 48) := by decide +kernel
theorem d117_48 : cod 117 48 = some (.iload_n 2, 49) := by decide +kernel
theorem d117_49 : cod 117 49 = some (.invokevirtual 395, 52) := by decide +kernel
theorem d117_52 : cod 117 52 = some (.ifCond .ne 7, 55) := by decide +kernel
theorem d117_55 : cod 117 55 = some (.iconst 1, 56) := by decide +kernel
theorem d117_56 : cod 117 56 = some (.goto 4, 59) := by decide +kernel
theorem d117_59 : cod 117 59 = some (.iconst 0, 60) := by decide +kernel
theorem d117_60 : cod 117 60 = some (.invokestatic 122, 63) := by decide +kernel
theorem d117_63 : cod 117 63 = some (.aload_n 0, 64) := by decide +kernel
theorem d117_64 : cod 117 64 = some (.getfield 63, 67) := by decide +kernel
theorem d117_67 : cod 117 67 = some (.iload_n 1, 68) := by decide +kernel
theorem d117_68 : cod 117 68 = some (.iload_n 2, 69) := by decide +kernel
theorem d117_69 : cod 117 69 = some (.iload_n 3, 70) := by decide +kernel
theorem d117_70 : cod 117 70 = some (.invokevirtual 399, 73) := by decide +kernel
theorem d117_73 : cod 117 73 = some (.ireturn, 74) := by decide +kernel
theorem d118_0 : cod 118 0 = some (.iload_n 1, 1) := by decide +kernel
theorem d118_1 : cod 118 1 = some (.iconst 0, 2) := by decide +kernel
theorem d118_2 : cod 118 2 = some (.bipush 9, 4) := by decide +kernel
theorem d118_4 : cod 118 4 = some (.invokestatic 84, 7) := by decide +kernel
theorem d118_7 : cod 118 7 = some (.ifCond .eq 33, 10) := by decide +kernel
theorem d118_10 : cod 118 10 = some (.iload_n 2, 11) := by decide +kernel
theorem d118_11 : cod 118 11 = some (.iconst 1, 12) := by decide +kernel
theorem d118_12 : cod 118 12 = some (.aload_n 0, 13) := by decide +kernel
theorem d118_13 : cod 118 13 = some (.getfield 63, 16) := by decide +kernel
theorem d118_16 : cod 118 16 = some (.invokevirtual 403, 19) := by decide +kernel
theorem d118_19 : cod 118 19 = some (.invokestatic 84, 22) := by decide +kernel
theorem d118_22 : cod 118 22 = some (.ifCond .eq 18, 25) := by decide +kernel
theorem d118_25 : cod 118 25 = some (.iload_n 3, 26) := by decide +kernel
theorem d118_26 : cod 118 26 = some (.iconst 1, 27) := by decide +kernel
theorem d118_27 : cod 118 27 = some (.sipush 9999, 30) := by decide +kernel
theorem d118_30 : cod 118 30 = some (.invokestatic 84, 33) := by decide +kernel
theorem d118_33 : cod 118 33 = some (.ifCond .eq 7, 36) := by decide +kernel
theorem d118_36 : cod 118 36 = some (.iconst 1, 37) := by decide +kernel
theorem d118_37 : cod 118 37 = some (.goto 4, 40) := by decide +kernel
theorem d118_40 : cod 118 40 = some (.iconst 0, 41) := by decide +kernel
theorem d118_41 : cod 118 41 = some (.invokestatic 88, 44) := by decide +kernel
theorem d118_44 : cod 118 44 = some (.aload_n 0, 45) := by decide +kernel
theorem d118_45 : cod 118 45 = some (.getfield 63, 48) := by decide +kernel
theorem d118_48 : cod 118 48 = some (.getfield 406, 51) := by decide +kernel
theorem d118_51 : cod 118 51 = some (.invokevirtual 129, 54) := by decide +kernel
theorem d118_54 : cod 118 54 = some (.bipush 40, 56) := by decide +kernel
theorem d118_56 : cod 118 56 = some (.if_icmp .ge 7, 59) := by decide +kernel
theorem d118_59 : cod 118 59 = some (.iconst 1, 60) := by decide +kernel
theorem d118_60 : cod 118 60 = some (.goto 4, 63) := by decide +kernel
theorem d118_63 : cod 118 63 = some (.iconst 0, 64) := by decide +kernel
theorem d118_64 : cod 118 64 = some (.invokestatic 122, 67) := by decide +kernel
theorem d118_67 : cod 118 67 = some (.aload_n 0, 68) := by decide +kernel
theorem d118_68 : cod 118 68 = some (.getfield 63, 71) := by decide +kernel
theorem d118_71 : cod 118 71 = some (.iload_n 1, 72) := by decide +kernel
theorem d118_72 : cod 118 72 = some (.iload_n 2, 73) := by decide +kernel
theorem d118_73 : cod 118 73 = some (.iload_n 3, 74) := by decide +kernel
theorem d118_74 : cod 118 74 = some (.invokevirtual 409, 77) := by decide +kernel
theorem d118_77 : cod 118 77 = some (.ireturn, 78) := by decide +kernel
theorem d119_0 : cod 119 0 = some (.iload_n 1, 1) := by decide +kernel
theorem d119_1 : cod 119 1 = some (.invokestatic 115, 4) := by decide +kernel
theorem d119_4 : cod 119 4 = some (.ifCond .eq 17, 7) := by decide +kernel
theorem d119_7 : cod 119 7 = some (.iload_n 2, 8) := by decide +kernel
theorem d119_8 : cod 119 8 = some (.iload_n 3, 9) := by decide +kernel
theorem d119_9 : cod 119 9 = some (.iload 4, 11) := by decide +kernel
theorem d119_11 : cod 119 11 = some (.invokestatic 442, 14) := by decide +kernel
theorem d119_14 : cod 119 14 = some (.ifCond .eq 7, 17) := by decide +kernel
theorem d119_17 : cod 119 17 = some (.iconst 1, 18) := by decide +kernel
theorem d119_18 : cod 119 18 = some (.goto 4, 21) := by decide +kernel
theorem d119_21 : cod 119 21 = some (.iconst 0, 22) := by decide +kernel
theorem d119_22 : cod 119 22 = some (.invokestatic 88, 25) := by decide +kernel
theorem d119_25 : cod 119 25 = some (.aload_n 0, 26) := by decide +kernel
theorem d119_26 : cod 119 26 = some (.getfield 70, 29) := by decide +kernel
theorem d119_29 : cod 119 29 = some (.iload_n 1, 30) := by decide +kernel
theorem d119_30 : cod 119 30 = some (.iload_n 2, 31) := by decide +kernel
theorem d119_31 : cod 119 31 = some (.iload_n 3, 32) := by decide +kernel
theorem d119_32 : cod 119 32 = some (.iload 4, 34) := by decide +kernel
theorem d119_34 : cod 119 34 = some (.invokevirtual 445, 37) := by decide +kernel
theorem d119_37 : cod 119 37 = some (.aload_n 0, 38) := by decide +kernel
theorem d119_38 : cod 119 38 = some (.getfield 70, 41) := by decide +kernel
theorem d119_41 : cod 119 41 = some (.getfield 447, 44) := by decide +kernel
theorem d119_44 : cod 119 44 = some (.ireturn, 45) := by decide +kernel
theorem d120_0 : cod 120 0 = some (.iload_n 0, 1) := by decide +kernel
theorem d120_1 : cod 120 1 = some (.iconst 0, 2) := by decide +kernel
theorem d120_2 : cod 120 2 = some (.bipush 99, 4) := by decide +kernel
theorem d120_4 : cod 120 4 = some (.invokestatic 84, 7) := by decide +kernel
theorem d120_7 : cod 120 7 = some (.ifCond .eq 27, 10) := by decide +kernel
theorem d120_10 : cod 120 10 = some (.iload_n 1, 11) := by decide +kernel
theorem d120_11 : cod 120 11 = some (.iconst 0, 12) := by decide +kernel
theorem d120_12 : cod 120 12 = some (.bipush 99, 14) := by decide +kernel
theorem d120_14 : cod 120 14 = some (.invokestatic 84, 17) := by decide +kernel
theorem d120_17 : cod 120 17 = some (.ifCond .eq 17, 20) := by decide +kernel
theorem d120_20 : cod 120 20 = some (.iload_n 2, 21) := by decide +kernel
theorem d120_21 : cod 120 21 = some (.iconst 0, 22) := by decide +kernel
theorem d120_22 : cod 120 22 = some (.bipush 99, 24) := by decide +kernel
theorem d120_24 : cod 120 24 = some (.invokestatic 84, 27) := by decide +kernel
theorem d120_27 : cod 120 27 = some (.ifCond .eq 7, 30) := by decide +kernel
theorem d120_30 : cod 120 30 = some (.iconst 1, 31) := by decide +kernel
theorem d120_31 : cod 120 31 = some (.goto 4, 34) := by decide +kernel
theorem d120_34 : cod 120 34 = some (.iconst 0, 35) := by decide +kernel
theorem d120_35 : cod 120 35 = some (.ireturn, 36) := by decide +kernel
theorem d121_0 : cod 121 0 = some (.aload_n 0, 1) := by decide +kernel
theorem d121_1 : cod 121 1 = some (.iload_n 1, 2) := by decide +kernel
theorem d121_2 : cod 121 2 = some (.invokevirtual 173, 5) := by decide +kernel
theorem d121_5 : cod 121 5 = some (.invokestatic 112, 8) := by decide +kernel
theorem d121_8 : cod 121 8 = some (.iload_n 2, 9) := by decide +kernel
theorem d121_9 : cod 121 9 = some (.iload_n 3, 10) := by decide +kernel
theorem d121_10 : cod 121 10 = some (.iload 4, 12) := by decide +kernel
theorem d121_12 : cod 121 12 = some (.invokestatic 442, 15) := by decide +kernel
theorem d121_15 : cod 121 15 = some (.ifCond .eq 18, 18) := by decide +kernel
theorem d121_18 : cod 121 18 = some (.iload 5, 20) := by decide +kernel
theorem d121_20 : cod 121 20 = some (.iconst 0, 21) := by decide +kernel
theorem d121_21 : cod 121 21 = some (.bipush 50, 23) := by decide +kernel
theorem d121_23 : cod 121 23 = some (.invokestatic 84, 26) := by decide +kernel
theorem d121_26 : cod 121 26 = some (.ifCond .eq 7, 29) := by decide +kernel
theorem d121_29 : cod 121 29 = some (.iconst 1, 30) := by decide +kernel
theorem d121_30 : cod 121 30 = some (.goto 4, 33) := by decide +kernel
theorem d121_33 : cod 121 33 = some (.iconst 0, 34) := by decide +kernel
theorem d121_34 : cod 121 34 = some (.invokestatic 88, 37) := by decide +kernel
theorem d121_37 : cod 121 37 = some (.aload_n 0, 38) := by decide +kernel
theorem d121_38 : cod 121 38 = some (.getfield 19, 41) := by decide +kernel
theorem d121_41 : cod 121 41 = some (.iload_n 1, 42) := by decide +kernel
theorem d121_42 : cod 121 42 = some (.invokevirtual 132, 45) := by decide +kernel
theorem d121_45 : cod 121 45 = some (.checkcast 136, 48) := by decide +kernel
theorem d121_48 : cod 121 48 = some (.astore 6, 50) := by decide +kernel
theorem d121_50 : cod 121 50 = some (.aload 6, 52) := by decide +kernel
theorem d121_52 : cod 121 52 = some (.iconst 1, 53) := by decide +kernel
theorem d121_53 : cod 121 53 = some (.putfield 448, 56) := by decide +kernel
theorem d121_56 : cod 121 56 = some (.aload 6, 58) := by decide +kernel
theorem d121_58 : cod 121 58 = some (.getfield 451, 61) := by decide +kernel
theorem d121_61 : cod 121 61 = some (.iconst 0, 62) := by decide +kernel
theorem d121_62 : cod 121 62 = some (.iload_n 2, 63) := by decide +kernel
theorem d121_63 : cod 121 63 = some (.iastore, 64) := by decide +kernel
theorem d121_64 : cod 121 64 = some (.aload 6, 66) := by decide +kernel
theorem d121_66 : cod 121 66 = some (.getfield 451, 69) := by decide +kernel
theorem d121_69 : cod 121 69 = some (.iconst 1, 70) := by decide +kernel
theorem d121_70 : cod 121 70 = some (.iload_n 3, 71) := by decide +kernel
theorem d121_71 : cod 121 71 = some (.iastore, 72) := by decide +kernel
theorem d121_72 : cod 121 72 = some (.aload 6, 74) := by decide +kernel
theorem d121_74 : cod 121 74 = some (.getfield 451, 77) := by decide +kernel
theorem d121_77 : cod 121 77 = some (.iconst 2, 78) := by decide +kernel
theorem d121_78 : cod 121 78 = some (.iload 4, 80) := by decide +kernel
theorem d121_80 : cod 121 80 = some (.iastore, 81) := by decide +kernel
theorem d121_81 : cod 121 81 = some (.aload 6, 83) := by decide +kernel
theorem d121_83 : cod 121 83 = some (.iload 5, 85) := by decide +kernel
theorem d121_85 : cod 121 85 = some (.putfield 454, 88) := by decide +kernel
theorem d121_88 : cod 121 88 = some (.aload_n 0, 89) := by decide +kernel
theorem d121_89 : cod 121 89 = some (.getfield 70, 92) := by decide +kernel
theorem d121_92 : cod 121 92 = some (.aload 6, 94) := by decide +kernel
theorem d121_94 : cod 121 94 = some (.invokevirtual 457, 97) := by decide +kernel
theorem d121_97 : cod 121 97 = some (.ireturn, 98) := by decide +kernel
theorem d122_0 : cod 122 0 = some (.iload_n 1, 1) := by decide +kernel
theorem d122_1 : cod 122 1 = some (.iconst 1, 2) := by decide +kernel
theorem d122_2 : cod 122 2 = some (.sipush 400, 5) := by decide +kernel
theorem d122_5 : cod 122 5 = some (.invokestatic 84, 8) := by decide +kernel
theorem d122_8 : cod 122 8 = some (.invokestatic 88, 11) := by decide +kernel
theorem d122_11 : cod 122 11 = some (.aload_n 0, 12) := by decide +kernel
theorem d122_12 : cod 122 12 = some (.getfield 372, 15) := by decide +kernel
theorem d122_15 : cod 122 15 = some (.iload_n 1, 16) := by decide +kernel
theorem d122_16 : cod 122 16 = some (.iadd, 17) := by decide +kernel
theorem d122_17 : cod 122 17 = some (.sipush 999, 20) := by decide +kernel
theorem d122_20 : cod 122 20 = some (.if_icmp .gt 7, 23) := by decide +kernel
theorem d122_23 : cod 122 23 = some (.iconst 1, 24) := by decide +kernel
theorem d122_24 : cod 122 24 = some (.goto 4, 27) := by decide +kernel
theorem d122_27 : cod 122 27 = some (.iconst 0, 28) := by decide +kernel
theorem d122_28 : cod 122 28 = some (.invokestatic 122, 31) := by decide +kernel
theorem d122_31 : cod 122 31 = some (.aload_n 0, 32) := by decide +kernel
theorem d122_32 : cod 122 32 = some (.dup, 33) := by decide +kernel
theorem d122_33 : cod 122 33 = some (.getfield 372, 36) := by decide +kernel
theorem d122_36 : cod 122 36 = some (.iload_n 1, 37) := by decide +kernel
theorem d122_37 : cod 122 37 = some (.iadd, 38) := by decide +kernel
theorem d122_38 : cod 122 38 = some (.putfield 372, 41) := by decide +kernel
theorem d122_41 : cod 122 41 = some (.aload_n 0, 42) := by decide +kernel
theorem d122_42 : cod 122 42 = some (.getfield 372, 45) := by decide +kernel
theorem d122_45 : cod 122 45 = some (.ireturn, 46) := by decide +kernel
theorem d123_0 : cod 123 0 = some (.ldc2_w 486, 3) := by decide +kernel
theorem d123_3 : cod 123 3 = some (.aload_n 0, 4) := by decide +kernel
theorem d123_4 : cod 123 4 = some (.getfield 372, 7) := by decide +kernel
theorem d123_7 : cod 123 7 = some (.i2l, 8) := by decide +kernel
theorem d123_8 : cod 123 8 = some (.invokestatic 488, 11) := by decide +kernel
theorem d123_11 : cod 123 11 = some (.lstore_n 1, 12) := by decide +kernel
theorem d123_12 : cod 123 12 = some (.lload_n 1, 13) := by decide +kernel
theorem d123_13 : cod 123 13 = some (.aload_n 0, 14) := by decide +kernel
theorem d123_14 : cod 123 14 = some (.getfield 10, 17) := by decide +kernel
theorem d123_17 : cod 123 17 = some (.getfield 118, 20) := by decide +kernel
theorem d123_20 : cod 123 20 = some (.i2l, 21) := by decide +kernel
theorem d123_21 : cod 123 21 = some (.invokestatic 488, 24) := by decide +kernel
theorem d123_24 : cod 123 24 = some (.lstore_n 1, 25) := by decide +kernel
theorem d123_25 : cod 123 25 = some (.aload_n 0, 26) := by decide +kernel
theorem d123_26 : cod 123 26 = some (.lload_n 1, 27) := by decide +kernel
theorem d123_27 : cod 123 27 = some (.invokevirtual 492, 30) := by decide +kernel
theorem d123_30 : cod 123 30 = some (.lstore_n 1, 31) := by decide +kernel
theorem d123_31 : cod 123 31 = some (.aload_n 0, 32) := by decide +kernel
theorem d123_32 : cod 123 32 = some (.lload_n 1, 33) := by decide +kernel
theorem d123_33 : cod 123 33 = some (.invokevirtual 496, 36) := by decide +kernel
theorem d123_36 : cod 123 36 = some (.lstore_n 1, 37) := by decide +kernel
theorem d123_37 : cod 123 37 = some (.aload_n 0, 38) := by decide +kernel
theorem d123_38 : cod 123 38 = some (.lload_n 1, 39) := by decide +kernel
theorem d123_39 : cod 123 39 = some (.invokevirtual 499, 42) := by decide +kernel
theorem d123_42 : cod 123 42 = some (.lstore_n 1, 43) := by decide +kernel
theorem d123_43 : cod 123 43 = some (.aload_n 0, 44) := by decide +kernel
theorem d123_44 : cod 123 44 = some (.lload_n 1, 45) := by decide +kernel
theorem d123_45 : cod 123 45 = some (.invokevirtual 502, 48) := by decide +kernel
theorem d123_48 : cod 123 48 = some (.lstore_n 1, 49) := by decide +kernel
theorem d123_49 : cod 123 49 = some (.aload_n 0, 50) := by decide +kernel
theorem d123_50 : cod 123 50 = some (.lload_n 1, 51) := by decide +kernel
theorem d123_51 : cod 123 51 = some (.invokevirtual 505, 54) := by decide +kernel
theorem d123_54 : cod 123 54 = some (.lstore_n 1, 55) := by decide +kernel
theorem d123_55 : cod 123 55 = some (.iconst 0, 56) := by decide +kernel
theorem d123_56 : cod 123 56 = some (.istore_n 3, 57) := by decide +kernel
theorem d123_57 : cod 123 57 = some (.iload_n 3, 58) := by decide +kernel
theorem d123_58 : cod 123 58 = some (.iconst 5, 59) := by decide +kernel
theorem d123_59 : cod 123 59 = some (.if_icmp .ge 24, 62) := by decide +kernel
theorem d123_62 : cod 123 62 = some (.lload_n 1, 63) := by decide +kernel
theorem d123_63 : cod 123 63 = some (.aload_n 0, 64) := by decide +kernel
theorem d123_64 : cod 123 64 = some (.getfield 56, 67) := by decide +kernel
theorem d123_67 : cod 123 67 = some (.getfield 389, 70) := by decide +kernel
theorem d123_70 : cod 123 70 = some (.iload_n 3, 71) := by decide +kernel
theorem d123_71 : cod 123 71 = some (.iaload, 72) := by decide +kernel
theorem d123_72 : cod 123 72 = some (.i2l, 73) := by decide +kernel
theorem d123_73 : cod 123 73 = some (.invokestatic 488, 76) := by decide +kernel
theorem d123_76 : cod 123 76 = some (.lstore_n 1, 77) := by decide +kernel
theorem d123_77 : cod 123 77 = some (.iinc 3 1, 80) := by decide +kernel
theorem d123_80 : cod 123 80 = some (.goto (-23), 83) := by decide +kernel
theorem d123_83 : cod 123 83 = some (.aload_n 0, 84) := by decide +kernel
theorem d123_84 : cod 123 84 = some (.lload_n 1, 85) := by decide +kernel
theorem d123_85 : cod 123 85 = some (.invokevirtual 508, 88) := by decide +kernel
theorem d123_88 : cod 123 88 = some (.lstore_n 1, 89) := by decide +kernel
theorem d123_89 : cod 123 89 = some (.lload_n 1, 90) := by decide +kernel
theorem d123_90 : cod 123 90 = some (.aload_n 0, 91) := by decide +kernel
theorem d123_91 : cod 123 91 = some (.bipush 6, 93) := by decide +kernel
theorem d123_93 : cod 123 93 = some (.iconst 0, 94) := by decide +kernel
theorem d123_94 : cod 123 94 = some (.invokevirtual 511, 97) := by decide +kernel
theorem d123_97 : cod 123 97 = some (.i2l, 98) := by decide +kernel
theorem d123_98 : cod 123 98 = some (.invokestatic 488, 101) := by decide +kernel
theorem d123_101 : cod 123 101 = some (.lstore_n 1, 102) := by decide +kernel
theorem d123_102 : cod 123 102 = some (.lload_n 1, 103) := by decide +kernel
theorem d123_103 : cod 123 103 = some (.aload_n 0, 104) := by decide +kernel
theorem d123_104 : cod 123 104 = some (.bipush 6, 106) := by decide +kernel
theorem d123_106 : cod 123 106 = some (.iconst 1, 107) := by decide +kernel
theorem d123_107 : cod 123 107 = some (.invokevirtual 511, 110) := by decide +kernel
theorem d123_110 : cod 123 110 = some (.i2l, 111) := by decide +kernel
theorem d123_111 : cod 123 111 = some (.invokestatic 488, 114) := by decide +kernel
theorem d123_114 : cod 123 114 = some (.lstore_n 1, 115) := by decide +kernel
theorem d123_115 : cod 123 115 = some (.lload_n 1, 116) := by decide +kernel
theorem d123_116 : cod 123 116 = some (.aload_n 0, 117) := by decide +kernel
theorem d123_117 : cod 123 117 = some (.invokevirtual 515, 120) := by decide +kernel
theorem d123_120 : cod 123 120 = some (.ifCond .eq 7, 123) := by decide +kernel
theorem d123_123 : cod 123 123 = some (.lconst 1, 124) := by decide +kernel
theorem d123_124 : cod 123 124 = some (.goto 4, 127) := by decide +kernel
theorem d123_127 : cod 123 127 = some (.lconst 0, 128) := by decide +kernel
theorem d123_128 : cod 123 128 = some (.invokestatic 488, 131) := by decide +kernel
theorem d123_131 : cod 123 131 = some (.lreturn, 132) := by decide +kernel
theorem d124_0 : cod 124 0 = some (.lload_n 0, 1) := by decide +kernel
theorem d124_1 : cod 124 1 = some (.ldc2_w 598, 4) := by decide +kernel
theorem d124_4 : cod 124 4 = some (.lmul, 5) := by decide +kernel
theorem d124_5 : cod 124 5 = some (.lload_n 2, 6) := by decide +kernel
theorem d124_6 : cod 124 6 = some (.ladd, 7) := by decide +kernel
theorem d124_7 : cod 124 7 = some (.lreturn, 8) := by decide +kernel
theorem d125_0 : cod 125 0 = some (.lload_n 1, 1) := by decide +kernel
theorem d125_1 : cod 125 1 = some (.lstore_n 3, 2) := by decide +kernel
theorem d125_2 : cod 125 2 = some (.iconst 0, 3) := by decide +kernel
theorem d125_3 : cod 125 3 = some (.istore 5, 5) := by decide +kernel
theorem d125_5 : cod 125 5 = some (.iload 5, 7) := by decide +kernel
theorem d125_7 : cod 125 7 = some (.aload_n 0, 8) := by decide +kernel
theorem d125_8 : cod 125 8 = some (.getfield 10, 11) := by decide +kernel
theorem d125_11 : cod 125 11 = some (.invokevirtual 104, 14) := by decide +kernel
theorem d125_14 : cod 125 14 = some (.if_icmp .ge 42, 17) := by decide +kernel
theorem d125_17 : cod 125 17 = some (.lload_n 3, 18) := by decide +kernel
theorem d125_18 : cod 125 18 = some (.aload_n 0, 19) := by decide +kernel
theorem d125_19 : cod 125 19 = some (.getfield 10, 22) := by decide +kernel
theorem d125_22 : cod 125 22 = some (.iload 5, 24) := by decide +kernel
theorem d125_24 : cod 125 24 = some (.iconst 0, 25) := by decide +kernel
theorem d125_25 : cod 125 25 = some (.invokevirtual 196, 28) := by decide +kernel
theorem d125_28 : cod 125 28 = some (.i2l, 29) := by decide +kernel
theorem d125_29 : cod 125 29 = some (.invokestatic 488, 32) := by decide +kernel
theorem d125_32 : cod 125 32 = some (.lstore_n 3, 33) := by decide +kernel
theorem d125_33 : cod 125 33 = some (.lload_n 3, 34) := by decide +kernel
theorem d125_34 : cod 125 34 = some (.aload_n 0, 35) := by decide +kernel
theorem d125_35 : cod 125 35 = some (.getfield 10, 38) := by decide +kernel
theorem d125_38 : cod 125 38 = some (.iload 5, 40) := by decide +kernel
theorem d125_40 : cod 125 40 = some (.bipush 7, 42) := by decide +kernel
theorem d125_42 : cod 125 42 = some (.invokevirtual 196, 45) := by decide +kernel
theorem d125_45 : cod 125 45 = some (.i2l, 46) := by decide +kernel
theorem d125_46 : cod 125 46 = some (.invokestatic 488, 49) := by decide +kernel
theorem d125_49 : cod 125 49 = some (.lstore_n 3, 50) := by decide +kernel
theorem d125_50 : cod 125 50 = some (.iinc 5 1, 53) := by decide +kernel
theorem d125_53 : cod 125 53 = some (.goto (-48), 56) := by decide +kernel
theorem d125_56 : cod 125 56 = some (.lload_n 3, 57) := by decide +kernel
theorem d125_57 : cod 125 57 = some (.lreturn, 58) := by decide +kernel
theorem d126_0 : cod 126 0 = some (.lload_n 1, 1) := by decide +kernel
theorem d126_1 : cod 126 1 = some (.lstore_n 3, 2) := by decide +kernel
theorem d126_2 : cod 126 2 = some (.iconst 0, 3) := by decide +kernel
theorem d126_3 : cod 126 3 = some (.istore 5, 5) := by decide +kernel
theorem d126_5 : cod 126 5 = some (.iload 5, 7) := by decide +kernel
theorem d126_7 : cod 126 7 = some (.bipush 6, 9) := by decide +kernel
theorem d126_9 : cod 126 9 = some (.if_icmp .ge 38, 12) := by decide +kernel
theorem d126_12 : cod 126 12 = some (.iconst 0, 13) := by decide +kernel
theorem d126_13 : cod 126 13 = some (.istore 6, 15) := by decide +kernel
theorem d126_15 : cod 126 15 = some (.iload 6, 17) := by decide +kernel
theorem d126_17 : cod 126 17 = some (.iconst 4, 18) := by decide +kernel
theorem d126_18 : cod 126 18 = some (.if_icmp .gt 23, 21) := by decide +kernel
theorem d126_21 : cod 126 21 = some (.lload_n 3, 22) := by decide +kernel
theorem d126_22 : cod 126 22 = some (.aload_n 0, 23) := by decide +kernel
theorem d126_23 : cod 126 23 = some (.iload 5, 25) := by decide +kernel
theorem d126_25 : cod 126 25 = some (.iload 6, 27) := by decide +kernel
theorem d126_27 : cod 126 27 = some (.invokevirtual 600, 30) := by decide +kernel
theorem d126_30 : cod 126 30 = some (.i2l, 31) := by decide +kernel
theorem d126_31 : cod 126 31 = some (.invokestatic 488, 34) := by decide +kernel
theorem d126_34 : cod 126 34 = some (.lstore_n 3, 35) := by decide +kernel
theorem d126_35 : cod 126 35 = some (.iinc 6 1, 38) := by decide +kernel
theorem d126_38 : cod 126 38 = some (.goto (-23), 41) := by decide +kernel
theorem d126_41 : cod 126 41 = some (.iinc 5 1, 44) := by decide +kernel
theorem d126_44 : cod 126 44 = some (.goto (-39), 47) := by decide +kernel
theorem d126_47 : cod 126 47 = some (.lload_n 3, 48) := by decide +kernel
theorem d126_48 : cod 126 48 = some (.lreturn, 49) := by decide +kernel
theorem d127_0 : cod 127 0 = some (.iload_n 1, 1) := by decide +kernel
theorem d127_1 : cod 127 1 = some (.invokestatic 157, 4) := by decide +kernel
theorem d127_4 : cod 127 4 = some (.ifCond .eq 16, 7) := by decide +kernel
theorem d127_7 : cod 127 7 = some (.iload_n 2, 8) := by decide +kernel
theorem d127_8 : cod 127 8 = some (.iconst 0, 9) := by decide +kernel
theorem d127_9 : cod 127 9 = some (.iconst 4, 10) := by decide +kernel
theorem d127_10 : cod 127 10 = some (.invokestatic 84, 13) := by decide +kernel
theorem d127_13 : cod 127 13 = some (.ifCond .eq 7, 16) := by decide +kernel
theorem d127_16 : cod 127 16 = some (.iconst 1, 17) := by decide +kernel
theorem d127_17 : cod 127 17 = some (.goto 4, 20) := by decide +kernel
theorem d127_20 : cod 127 20 = some (.iconst 0, 21) := by decide +kernel
theorem d127_21 : cod 127 21 = some (.invokestatic 88, 24) := by decide +kernel
theorem d127_24 : cod 127 24 = some (.aload_n 0, 25) := by decide +kernel
theorem d127_25 : cod 127 25 = some (.getfield 25, 28) := by decide +kernel
theorem d127_28 : cod 127 28 = some (.iload_n 1, 29) := by decide +kernel
theorem d127_29 : cod 127 29 = some (.aaload, 30) := by decide +kernel
theorem d127_30 : cod 127 30 = some (.astore_n 3, 31) := by decide +kernel
theorem d127_31 : cod 127 31 = some (.iload_n 2, 32) := by decide +kernel
theorem d127_32 : cod 127 32 = some (.tableswitch 52 0 3 #[32, 37, 42, 47], 64) := by decide +kernel
theorem d127_64 : cod 127 64 = some (.aload_n 3, 65) := by decide +kernel
theorem d127_65 : cod 127 65 = some (.getfield 206, 68) := by decide +kernel
theorem d127_68 : cod 127 68 = some (.ireturn, 69) := by decide +kernel
theorem d127_69 : cod 127 69 = some (.aload_n 3, 70) := by decide +kernel
theorem d127_70 : cod 127 70 = some (.getfield 209, 73) := by decide +kernel
theorem d127_73 : cod 127 73 = some (.ireturn, 74) := by decide +kernel
theorem d127_74 : cod 127 74 = some (.aload_n 3, 75) := by decide +kernel
theorem d127_75 : cod 127 75 = some (.invokevirtual 212, 78) := by decide +kernel
theorem d127_78 : cod 127 78 = some (.ireturn, 79) := by decide +kernel
theorem d127_79 : cod 127 79 = some (.aload_n 3, 80) := by decide +kernel
theorem d127_80 : cod 127 80 = some (.getfield 215, 83) := by decide +kernel
theorem d127_83 : cod 127 83 = some (.ireturn, 84) := by decide +kernel
theorem d127_84 : cod 127 84 = some (.aload_n 3, 85) := by decide +kernel
theorem d127_85 : cod 127 85 = some (.getfield 218, 88) := by decide +kernel
theorem d127_88 : cod 127 88 = some (.ireturn, 89) := by decide +kernel
theorem d128_0 : cod 128 0 = some (.lload_n 1, 1) := by decide +kernel
theorem d128_1 : cod 128 1 = some (.lstore_n 3, 2) := by decide +kernel
theorem d128_2 : cod 128 2 = some (.iconst 0, 3) := by decide +kernel
theorem d128_3 : cod 128 3 = some (.istore 5, 5) := by decide +kernel
theorem d128_5 : cod 128 5 = some (.iload 5, 7) := by decide +kernel
theorem d128_7 : cod 128 7 = some (.aload_n 0, 8) := by decide +kernel
theorem d128_8 : cod 128 8 = some (.getfield 19, 11) := by decide +kernel
theorem d128_11 : cod 128 11 = some (.invokevirtual 129, 14) := by decide +kernel
theorem d128_14 : cod 128 14 = some (.if_icmp .ge 119, 17) := by decide +kernel
theorem d128_17 : cod 128 17 = some (.iconst 0, 18) := by decide +kernel
theorem d128_18 : cod 128 18 = some (.istore 6, 20) := by decide +kernel
theorem d128_20 : cod 128 20 = some (.iload 6, 22) := by decide +kernel
theorem d128_22 : cod 128 22 = some (.iconst 5, 23) := by decide +kernel
theorem d128_23 : cod 128 23 = some (.if_icmp .gt 23, 26) := by decide +kernel
theorem d128_26 : cod 128 26 = some (.lload_n 3, 27) := by decide +kernel
theorem d128_27 : cod 128 27 = some (.aload_n 0, 28) := by decide +kernel
theorem d128_28 : cod 128 28 = some (.iload 5, 30) := by decide +kernel
theorem d128_30 : cod 128 30 = some (.iload 6, 32) := by decide +kernel
theorem d128_32 : cod 128 32 = some (.invokevirtual 603, 35) := by decide +kernel
theorem d128_35 : cod 128 35 = some (.i2l, 36) := by decide +kernel
theorem d128_36 : cod 128 36 = some (.invokestatic 488, 39) := by decide +kernel
theorem d128_39 : cod 128 39 = some (.lstore_n 3, 40) := by decide +kernel
theorem d128_40 : cod 128 40 = some (.iinc 6 1, 43) := by decide +kernel
theorem d128_43 : cod 128 43 = some (.goto (-23), 46) := by decide +kernel
theorem d128_46 : cod 128 46 = some (.lload_n 3, 47) := by decide +kernel
theorem d128_47 : cod 128 47 = some (.aload_n 0, 48) := by decide +kernel
theorem d128_48 : cod 128 48 = some (.iload 5, 50) := by decide +kernel
theorem d128_50 : cod 128 50 = some (.invokevirtual 606, 53) := by decide +kernel
theorem d128_53 : cod 128 53 = some (.i2l, 54) := by decide +kernel
theorem d128_54 : cod 128 54 = some (.invokestatic 488, 57) := by decide +kernel
theorem d128_57 : cod 128 57 = some (.lstore_n 3, 58) := by decide +kernel
theorem d128_58 : cod 128 58 = some (.lload_n 3, 59) := by decide +kernel
theorem d128_59 : cod 128 59 = some (.aload_n 0, 60) := by decide +kernel
theorem d128_60 : cod 128 60 = some (.iload 5, 62) := by decide +kernel
theorem d128_62 : cod 128 62 = some (.invokevirtual 609, 65) := by decide +kernel
theorem d128_65 : cod 128 65 = some (.i2l, 66) := by decide +kernel
theorem d128_66 : cod 128 66 = some (.invokestatic 488, 69) := by decide +kernel
theorem d128_69 : cod 128 69 = some (.lstore_n 3, 70) := by decide +kernel
theorem d128_70 : cod 128 70 = some (.lload_n 3, 71) := by decide +kernel
theorem d128_71 : cod 128 71 = some (.aload_n 0, 72) := by decide +kernel
theorem d128_72 : cod 128 72 = some (.iload 5, 74) := by decide +kernel
theorem d128_74 : cod 128 74 = some (.aload_n 0, 75) := by decide +kernel
theorem d128_75 : cod 128 75 = some (.getfield 372, 78) := by decide +kernel
theorem d128_78 : cod 128 78 = some (.invokevirtual 612, 81) := by decide +kernel
theorem d128_81 : cod 128 81 = some (.i2l, 82) := by decide +kernel
theorem d128_82 : cod 128 82 = some (.invokestatic 488, 85) := by decide +kernel
theorem d128_85 : cod 128 85 = some (.lstore_n 3, 86) := by decide +kernel
theorem d128_86 : cod 128 86 = some (.iconst 0, 87) := by decide +kernel
theorem d128_87 : cod 128 87 = some (.istore 6, 89) := by decide +kernel
theorem d128_89 : cod 128 89 = some (.iload 6, 91) := by decide +kernel
theorem d128_91 : cod 128 91 = some (.iconst 2, 92) := by decide +kernel
theorem d128_92 : cod 128 92 = some (.if_icmp .gt 23, 95) := by decide +kernel
theorem d128_95 : cod 128 95 = some (.lload_n 3, 96) := by decide +kernel
theorem d128_96 : cod 128 96 = some (.aload_n 0, 97) := by decide +kernel
theorem d128_97 : cod 128 97 = some (.iload 5, 99) := by decide +kernel
theorem d128_99 : cod 128 99 = some (.iload 6, 101) := by decide +kernel
theorem d128_101 : cod 128 101 = some (.invokevirtual 615, 104) := by decide +kernel
theorem d128_104 : cod 128 104 = some (.i2l, 105) := by decide +kernel
theorem d128_105 : cod 128 105 = some (.invokestatic 488, 108) := by decide +kernel
theorem d128_108 : cod 128 108 = some (.lstore_n 3, 109) := by decide +kernel
theorem d128_109 : cod 128 109 = some (.iinc 6 1, 112) := by decide +kernel
theorem d128_112 : cod 128 112 = some (.goto (-23), 115) := by decide +kernel
theorem d128_115 : cod 128 115 = some (.lload_n 3, 116) := by decide +kernel
theorem d128_116 : cod 128 116 = some (.aload_n 0, 117) := by decide +kernel
theorem d128_117 : cod 128 117 = some (.iload 5, 119) := by decide +kernel
theorem d128_119 : cod 128 119 = some (.invokevirtual 618, 122) := by decide +kernel
theorem d128_122 : cod 128 122 = some (.i2l, 123) := by decide +kernel
theorem d128_123 : cod 128 123 = some (.invokestatic 488, 126) := by decide +kernel
theorem d128_126 : cod 128 126 = some (.lstore_n 3, 127) := by decide +kernel
theorem d128_127 : cod 128 127 = some (.iinc 5 1, 130) := by decide +kernel
theorem d128_130 : cod 128 130 = some (.goto (-125), 133) := by decide +kernel
theorem d128_133 : cod 128 133 = some (.lload_n 3, 134) := by decide +kernel
theorem d128_134 : cod 128 134 = some (.lreturn, 135) := by decide +kernel
theorem d129_0 : cod 129 0 = some (.aload_n 0, 1) := by decide +kernel
theorem d129_1 : cod 129 1 = some (.iload_n 1, 2) := by decide +kernel
theorem d129_2 : cod 129 2 = some (.invokevirtual 173, 5) := by decide +kernel
theorem d129_5 : cod 129 5 = some (.invokestatic 112, 8) := by decide +kernel
theorem d129_8 : cod 129 8 = some (.iload_n 2, 9) := by decide +kernel
theorem d129_9 : cod 129 9 = some (.iconst 0, 10) := by decide +kernel
theorem d129_10 : cod 129 10 = some (.iconst 5, 11) := by decide +kernel
theorem d129_11 : cod 129 11 = some (.invokestatic 84, 14) := by decide +kernel
theorem d129_14 : cod 129 14 = some (.invokestatic 88, 17) := by decide +kernel
theorem d129_17 : cod 129 17 = some (.aload_n 0, 18) := by decide +kernel
theorem d129_18 : cod 129 18 = some (.getfield 19, 21) := by decide +kernel
theorem d129_21 : cod 129 21 = some (.iload_n 1, 22) := by decide +kernel
theorem d129_22 : cod 129 22 = some (.invokevirtual 132, 25) := by decide +kernel
theorem d129_25 : cod 129 25 = some (.checkcast 136, 28) := by decide +kernel
theorem d129_28 : cod 129 28 = some (.astore_n 3, 29) := by decide +kernel
theorem d129_29 : cod 129 29 = some (.iload_n 2, 30) := by decide +kernel
theorem d129_30 : cod 129 30 = some (.tableswitch 72 0 4 #[34, 39, 44, 49, 66], 64) := by decide +kernel
theorem d129_64 : cod 129 64 = some (.aload_n 3, 65) := by decide +kernel
theorem d129_65 : cod 129 65 = some (.getfield 186, 68) := by decide +kernel
theorem d129_68 : cod 129 68 = some (.ireturn, 69) := by decide +kernel
theorem d129_69 : cod 129 69 = some (.aload_n 3, 70) := by decide +kernel
theorem d129_70 : cod 129 70 = some (.invokevirtual 176, 73) := by decide +kernel
theorem d129_73 : cod 129 73 = some (.ireturn, 74) := by decide +kernel
theorem d129_74 : cod 129 74 = some (.aload_n 3, 75) := by decide +kernel
theorem d129_75 : cod 129 75 = some (.invokevirtual 220, 78) := by decide +kernel
theorem d129_78 : cod 129 78 = some (.ireturn, 79) := by decide +kernel
theorem d129_79 : cod 129 79 = some (.aload_n 0, 80) := by decide +kernel
theorem d129_80 : cod 129 80 = some (.getfield 25, 83) := by decide +kernel
theorem d129_83 : cod 129 83 = some (.aload_n 3, 84) := by decide +kernel
theorem d129_84 : cod 129 84 = some (.getfield 186, 87) := by decide +kernel
theorem d129_87 : cod 129 87 = some (.aaload, 88) := by decide +kernel
theorem d129_88 : cod 129 88 = some (.aload_n 3, 89) := by decide +kernel
theorem d129_89 : cod 129 89 = some (.invokevirtual 223, 92) := by decide +kernel
theorem d129_92 : cod 129 92 = some (.invokestatic 227, 95) := by decide +kernel
theorem d129_95 : cod 129 95 = some (.ireturn, 96) := by decide +kernel
theorem d129_96 : cod 129 96 = some (.aload_n 0, 97) := by decide +kernel
theorem d129_97 : cod 129 97 = some (.aload_n 3, 98) := by decide +kernel
theorem d129_98 : cod 129 98 = some (.invokevirtual 233, 101) := by decide +kernel
theorem d129_101 : cod 129 101 = some (.ireturn, 102) := by decide +kernel
theorem d129_102 : cod 129 102 = some (.aload_n 0, 103) := by decide +kernel
theorem d129_103 : cod 129 103 = some (.aload_n 3, 104) := by decide +kernel
theorem d129_104 : cod 129 104 = some (.invokevirtual 236, 107) := by decide +kernel
theorem d129_107 : cod 129 107 = some (.invokestatic 227, 110) := by decide +kernel
theorem d129_110 : cod 129 110 = some (.ireturn, 111) := by decide +kernel
theorem d130_0 : cod 130 0 = some (.aload_n 0, 1) := by decide +kernel
theorem d130_1 : cod 130 1 = some (.getfield 25, 4) := by decide +kernel
theorem d130_4 : cod 130 4 = some (.aload_n 1, 5) := by decide +kernel
theorem d130_5 : cod 130 5 = some (.getfield 186, 8) := by decide +kernel
theorem d130_8 : cod 130 8 = some (.aaload, 9) := by decide +kernel
theorem d130_9 : cod 130 9 = some (.aload_n 1, 10) := by decide +kernel
theorem d130_10 : cod 130 10 = some (.invokevirtual 223, 13) := by decide +kernel
theorem d130_13 : cod 130 13 = some (.istore_n 2, 14) := by decide +kernel
theorem d130_14 : cod 130 14 = some (.iload_n 2, 15) := by decide +kernel
theorem d130_15 : cod 130 15 = some (.invokestatic 227, 18) := by decide +kernel
theorem d130_18 : cod 130 18 = some (.iconst 1, 19) := by decide +kernel
theorem d130_19 : cod 130 19 = some (.if_icmp .ne 10, 22) := by decide +kernel
theorem d130_22 : cod 130 22 = some (.iload_n 2, 23) := by decide +kernel
theorem d130_23 : cod 130 23 = some (.invokestatic 537, 26) := by decide +kernel
theorem d130_26 : cod 130 26 = some (.goto 4, 29) := by decide +kernel
theorem d130_29 : cod 130 29 = some (.iconst (-1), 30) := by decide +kernel
theorem d130_30 : cod 130 30 = some (.ireturn, 31) := by decide +kernel
theorem d131_0 : cod 131 0 = some (.iconst 0, 1) := by decide +kernel
theorem d131_1 : cod 131 1 = some (.istore_n 2, 2) := by decide +kernel
theorem d131_2 : cod 131 2 = some (.iconst 0, 3) := by decide +kernel
theorem d131_3 : cod 131 3 = some (.istore_n 3, 4) := by decide +kernel
theorem d131_4 : cod 131 4 = some (.iload_n 3, 5) := by decide +kernel
theorem d131_5 : cod 131 5 = some (.aload_n 0, 6) := by decide +kernel
theorem d131_6 : cod 131 6 = some (.getfield 19, 9) := by decide +kernel
theorem d131_9 : cod 131 9 = some (.invokevirtual 129, 12) := by decide +kernel
theorem d131_12 : cod 131 12 = some (.if_icmp .ge 33, 15) := by decide +kernel
theorem d131_15 : cod 131 15 = some (.aload_n 1, 16) := by decide +kernel
theorem d131_16 : cod 131 16 = some (.aload_n 0, 17) := by decide +kernel
theorem d131_17 : cod 131 17 = some (.getfield 19, 20) := by decide +kernel
theorem d131_20 : cod 131 20 = some (.iload_n 3, 21) := by decide +kernel
theorem d131_21 : cod 131 21 = some (.invokevirtual 132, 24) := by decide +kernel
theorem d131_24 : cod 131 24 = some (.checkcast 136, 27) := by decide +kernel
theorem d131_27 : cod 131 27 = some (.invokestatic 540, 30) := by decide +kernel
theorem d131_30 : cod 131 30 = some (.ifCond .eq 9, 33) := by decide +kernel
theorem d131_33 : cod 131 33 = some (.iload_n 2, 34) := by decide +kernel
theorem d131_34 : cod 131 34 = some (.iconst 1, 35) := by decide +kernel
theorem d131_35 : cod 131 35 = some (.iload_n 3, 36) := by decide +kernel
theorem d131_36 : cod 131 36 = some (.ishl, 37) := by decide +kernel
theorem d131_37 : cod 131 37 = some (.ior, 38) := by decide +kernel
theorem d131_38 : cod 131 38 = some (.istore_n 2, 39) := by decide +kernel
theorem d131_39 : cod 131 39 = some (.iinc 3 1, 42) := by decide +kernel
theorem d131_42 : cod 131 42 = some (.goto (-38), 45) := by decide +kernel
theorem d131_45 : cod 131 45 = some (.iload_n 2, 46) := by decide +kernel
theorem d131_46 : cod 131 46 = some (.ireturn, 47) := by decide +kernel
theorem d132_0 : cod 132 0 = some (.aload_n 0, 1) := by decide +kernel
theorem d132_1 : cod 132 1 = some (.getfield 186, 4) := by decide +kernel
theorem d132_4 : cod 132 4 = some (.aload_n 1, 5) := by decide +kernel
theorem d132_5 : cod 132 5 = some (.getfield 186, 8) := by decide +kernel
theorem d132_8 : cod 132 8 = some (.if_icmp .eq 25, 11) := by decide +kernel
theorem d132_11 : cod 132 11 = some (.aload_n 0, 12) := by decide +kernel
theorem d132_12 : cod 132 12 = some (.sipush 255, 15) := by decide +kernel
theorem d132_15 : cod 132 15 = some (.invokevirtual 544, 18) := by decide +kernel
theorem d132_18 : cod 132 18 = some (.aload_n 1, 19) := by decide +kernel
theorem d132_19 : cod 132 19 = some (.sipush 255, 22) := by decide +kernel
theorem d132_22 : cod 132 22 = some (.invokevirtual 544, 25) := by decide +kernel
theorem d132_25 : cod 132 25 = some (.iand, 26) := by decide +kernel
theorem d132_26 : cod 132 26 = some (.ifCond .eq 7, 29) := by decide +kernel
theorem d132_29 : cod 132 29 = some (.iconst 1, 30) := by decide +kernel
theorem d132_30 : cod 132 30 = some (.goto 4, 33) := by decide +kernel
theorem d132_33 : cod 132 33 = some (.iconst 0, 34) := by decide +kernel
theorem d132_34 : cod 132 34 = some (.ireturn, 35) := by decide +kernel
theorem d133_0 : cod 133 0 = some (.aload_n 0, 1) := by decide +kernel
theorem d133_1 : cod 133 1 = some (.iload_n 1, 2) := by decide +kernel
theorem d133_2 : cod 133 2 = some (.invokevirtual 173, 5) := by decide +kernel
theorem d133_5 : cod 133 5 = some (.invokestatic 112, 8) := by decide +kernel
theorem d133_8 : cod 133 8 = some (.aload_n 0, 9) := by decide +kernel
theorem d133_9 : cod 133 9 = some (.getfield 19, 12) := by decide +kernel
theorem d133_12 : cod 133 12 = some (.iload_n 1, 13) := by decide +kernel
theorem d133_13 : cod 133 13 = some (.invokevirtual 132, 16) := by decide +kernel
theorem d133_16 : cod 133 16 = some (.checkcast 136, 19) := by decide +kernel
theorem d133_19 : cod 133 19 = some (.invokevirtual 263, 22) := by decide +kernel
theorem d133_22 : cod 133 22 = some (.ireturn, 23) := by decide +kernel
theorem d134_0 : cod 134 0 = some (.aload_n 0, 1) := by decide +kernel
theorem d134_1 : cod 134 1 = some (.iload_n 1, 2) := by decide +kernel
theorem d134_2 : cod 134 2 = some (.invokevirtual 173, 5) := by decide +kernel
theorem d134_5 : cod 134 5 = some (.invokestatic 112, 8) := by decide +kernel
theorem d134_8 : cod 134 8 = some (.aload_n 0, 9) := by decide +kernel
theorem d134_9 : cod 134 9 = some (.getfield 49, 12) := by decide +kernel
theorem d134_12 : cod 134 12 = some (.aload_n 0, 13) := by decide +kernel
theorem d134_13 : cod 134 13 = some (.getfield 19, 16) := by decide +kernel
theorem d134_16 : cod 134 16 = some (.iload_n 1, 17) := by decide +kernel
theorem d134_17 : cod 134 17 = some (.invokevirtual 132, 20) := by decide +kernel
theorem d134_20 : cod 134 20 = some (.checkcast 136, 23) := by decide +kernel
theorem d134_23 : cod 134 23 = some (.invokevirtual 363, 26) := by decide +kernel
theorem d134_26 : cod 134 26 = some (.ireturn, 27) := by decide +kernel
theorem d135_0 : cod 135 0 = some (.aload_n 0, 1) := by decide +kernel
theorem d135_1 : cod 135 1 = some (.iload_n 1, 2) := by decide +kernel
theorem d135_2 : cod 135 2 = some (.invokevirtual 173, 5) := by decide +kernel
theorem d135_5 : cod 135 5 = some (.invokestatic 112, 8) := by decide +kernel
theorem d135_8 : cod 135 8 = some (.iload_n 2, 9) := by decide +kernel
theorem d135_9 : cod 135 9 = some (.invokestatic 276, 12) := by decide +kernel
theorem d135_12 : cod 135 12 = some (.invokestatic 88, 15) := by decide +kernel
theorem d135_15 : cod 135 15 = some (.aload_n 0, 16) := by decide +kernel
theorem d135_16 : cod 135 16 = some (.getfield 56, 19) := by decide +kernel
theorem d135_19 : cod 135 19 = some (.iload_n 1, 20) := by decide +kernel
theorem d135_20 : cod 135 20 = some (.iload_n 2, 21) := by decide +kernel
theorem d135_21 : cod 135 21 = some (.invokevirtual 379, 24) := by decide +kernel
theorem d135_24 : cod 135 24 = some (.ireturn, 25) := by decide +kernel
theorem d136_0 : cod 136 0 = some (.aload_n 0, 1) := by decide +kernel
theorem d136_1 : cod 136 1 = some (.iload_n 1, 2) := by decide +kernel
theorem d136_2 : cod 136 2 = some (.invokevirtual 173, 5) := by decide +kernel
theorem d136_5 : cod 136 5 = some (.invokestatic 112, 8) := by decide +kernel
theorem d136_8 : cod 136 8 = some (.iload_n 2, 9) := by decide +kernel
theorem d136_9 : cod 136 9 = some (.iconst 0, 10) := by decide +kernel
theorem d136_10 : cod 136 10 = some (.iconst 2, 11) := by decide +kernel
theorem d136_11 : cod 136 11 = some (.invokestatic 84, 14) := by decide +kernel
theorem d136_14 : cod 136 14 = some (.invokestatic 88, 17) := by decide +kernel
theorem d136_17 : cod 136 17 = some (.aload_n 0, 18) := by decide +kernel
theorem d136_18 : cod 136 18 = some (.getfield 19, 21) := by decide +kernel
theorem d136_21 : cod 136 21 = some (.iload_n 1, 22) := by decide +kernel
theorem d136_22 : cod 136 22 = some (.invokevirtual 132, 25) := by decide +kernel
theorem d136_25 : cod 136 25 = some (.checkcast 136, 28) := by decide +kernel
theorem d136_28 : cod 136 28 = some (.astore_n 3, 29) := by decide +kernel
theorem d136_29 : cod 136 29 = some (.iload_n 2, 30) := by decide +kernel
theorem d136_30 : cod 136 30 = some (.iconst 2, 31) := by decide +kernel
theorem d136_31 : cod 136 31 = some (.if_icmp .ne 17, 34) := by decide +kernel
theorem d136_34 : cod 136 34 = some (.aload_n 0, 35) := by decide +kernel
theorem d136_35 : cod 136 35 = some (.aload_n 3, 36) := by decide +kernel
theorem d136_36 : cod 136 36 = some (.invokevirtual 460, 39) := by decide +kernel
theorem d136_39 : cod 136 39 = some (.ifCond .eq 7, 42) := by decide +kernel
theorem d136_42 : cod 136 42 = some (.iconst 1, 43) := by decide +kernel
theorem d136_43 : cod 136 43 = some (.goto 4, 46) := by decide +kernel
theorem d136_46 : cod 136 46 = some (.iconst 0, 47) := by decide +kernel
theorem d136_47 : cod 136 47 = some (.ireturn, 48) := by decide +kernel
theorem d136_48 : cod 136 48 = some (.aload_n 0, 49) := by decide +kernel
theorem d136_49 : cod 136 49 = some (.getfield 70, 52) := by decide +kernel
theorem d136_52 : cod 136 52 = some (.aload_n 3, 53) := by decide +kernel
theorem d136_53 : cod 136 53 = some (.invokevirtual 457, 56) := by decide +kernel
theorem d136_56 : cod 136 56 = some (.istore 4, 58) := by decide +kernel
theorem d136_58 : cod 136 58 = some (.iload_n 2, 59) := by decide +kernel
theorem d136_59 : cod 136 59 = some (.ifCond .eq 9, 62) := by decide +kernel
theorem d136_62 : cod 136 62 = some (.iload 4, 64) := by decide +kernel
theorem d136_64 : cod 136 64 = some (.iconst (-1), 65) := by decide +kernel
theorem d136_65 : cod 136 65 = some (.if_icmp .ne 8, 68) := by decide +kernel
theorem d136_68 : cod 136 68 = some (.iload 4, 70) := by decide +kernel
theorem d136_70 : cod 136 70 = some (.goto 13, 73) := by decide +kernel
theorem d136_73 : cod 136 73 = some (.aload_n 0, 74) := by decide +kernel
theorem d136_74 : cod 136 74 = some (.getfield 70, 77) := by decide +kernel
theorem d136_77 : cod 136 77 = some (.iload 4, 79) := by decide +kernel
theorem d136_79 : cod 136 79 = some (.aload_n 3, 80) := by decide +kernel
theorem d136_80 : cod 136 80 = some (.invokevirtual 464, 83) := by decide +kernel
theorem d136_83 : cod 136 83 = some (.ireturn, 84) := by decide +kernel
theorem d137_0 : cod 137 0 = some (.aload_n 0, 1) := by decide +kernel
theorem d137_1 : cod 137 1 = some (.getfield 70, 4) := by decide +kernel
theorem d137_4 : cod 137 4 = some (.aload_n 1, 5) := by decide +kernel
theorem d137_5 : cod 137 5 = some (.invokevirtual 457, 8) := by decide +kernel
theorem d137_8 : cod 137 8 = some (.istore_n 2, 9) := by decide +kernel
theorem d137_9 : cod 137 9 = some (.aload_n 0, 10) := by decide +kernel
theorem d137_10 : cod 137 10 = some (.getfield 25, 13) := by decide +kernel
theorem d137_13 : cod 137 13 = some (.aload_n 1, 14) := by decide +kernel
theorem d137_14 : cod 137 14 = some (.getfield 186, 17) := by decide +kernel
theorem d137_17 : cod 137 17 = some (.aaload, 18) := by decide +kernel
theorem d137_18 : cod 137 18 = some (.getfield 209, 21) := by decide +kernel
theorem d137_21 : cod 137 21 = some (.istore_n 3, 22) := by decide +kernel
theorem d137_22 : cod 137 22 = some (.iload_n 2, 23) := by decide +kernel
theorem d137_23 : cod 137 23 = some (.iconst (-1), 24) := by decide +kernel
theorem d137_24 : cod 137 24 = some (.if_icmp .eq 19, 27) := by decide +kernel
theorem d137_27 : cod 137 27 = some (.iload_n 3, 28) := by decide +kernel
theorem d137_28 : cod 137 28 = some (.ifCond .eq 15, 31) := by decide +kernel
theorem d137_31 : cod 137 31 = some (.iload_n 2, 32) := by decide +kernel
theorem d137_32 : cod 137 32 = some (.iload_n 3, 33) := by decide +kernel
theorem d137_33 : cod 137 33 = some (.invokestatic 203, 36) := by decide +kernel
theorem d137_36 : cod 137 36 = some (.ifCond .ne 7, 39) := by decide +kernel
theorem d137_39 : cod 137 39 = some (.iconst 1, 40) := by decide +kernel
theorem d137_40 : cod 137 40 = some (.goto 4, 43) := by decide +kernel
theorem d137_43 : cod 137 43 = some (.iconst 0, 44) := by decide +kernel
theorem d137_44 : cod 137 44 = some (.ireturn, 45) := by decide +kernel
theorem d138_0 : cod 138 0 = some (.aload_n 0, 1) := by decide +kernel
theorem d138_1 : cod 138 1 = some (.iload_n 1, 2) := by decide +kernel
theorem d138_2 : cod 138 2 = some (.invokevirtual 173, 5) := by decide +kernel
theorem d138_5 : cod 138 5 = some (.invokestatic 112, 8) := by decide +kernel
theorem d138_8 : cod 138 8 = some (.aload_n 0, 9) := by decide +kernel
theorem d138_9 : cod 138 9 = some (.aload_n 0, 10) := by decide +kernel
theorem d138_10 : cod 138 10 = some (.getfield 19, 13) := by decide +kernel
theorem d138_13 : cod 138 13 = some (.iload_n 1, 14) := by decide +kernel
theorem d138_14 : cod 138 14 = some (.invokevirtual 132, 17) := by decide +kernel
theorem d138_17 : cod 138 17 = some (.checkcast 136, 20) := by decide +kernel
theorem d138_20 : cod 138 20 = some (.invokevirtual 468, 23) := by decide +kernel
theorem d138_23 : cod 138 23 = some (.ireturn, 24) := by decide +kernel
theorem d139_0 : cod 139 0 = some (.aload_n 0, 1) := by decide +kernel
theorem d139_1 : cod 139 1 = some (.aload_n 1, 2) := by decide +kernel
theorem d139_2 : cod 139 2 = some (.getfield 170, 5) := by decide +kernel
theorem d139_5 : cod 139 5 = some (.invokevirtual 547, 8) := by decide +kernel
theorem d139_8 : cod 139 8 = some (.ifCond .ne 11, 11) := by decide +kernel
theorem d139_11 : cod 139 11 = some (.aload_n 0, 12) := by decide +kernel
theorem d139_12 : cod 139 12 = some (.aload_n 1, 13) := by decide +kernel
theorem d139_13 : cod 139 13 = some (.invokevirtual 460, 16) := by decide +kernel
theorem d139_16 : cod 139 16 = some (.ifCond .eq 5, 19) := by decide +kernel
theorem d139_19 : cod 139 19 = some (.iconst 0, 20) := by decide +kernel
theorem d139_20 : cod 139 20 = some (.ireturn, 21) := by decide +kernel
theorem d139_21 : cod 139 21 = some (.bipush 20, 23) := by decide +kernel
theorem d139_23 : cod 139 23 = some (.aload_n 1, 24) := by decide +kernel
theorem d139_24 : cod 139 24 = some (.invokevirtual 176, 27) := by decide +kernel
theorem d139_27 : cod 139 27 = some (.imul, 28) := by decide +kernel
theorem d139_28 : cod 139 28 = some (.bipush 15, 30) := by decide +kernel
theorem d139_30 : cod 139 30 = some (.aload_n 1, 31) := by decide +kernel
theorem d139_31 : cod 139 31 = some (.invokevirtual 550, 34) := by decide +kernel
theorem d139_34 : cod 139 34 = some (.imul, 35) := by decide +kernel
theorem d139_35 : cod 139 35 = some (.iadd, 36) := by decide +kernel
theorem d139_36 : cod 139 36 = some (.istore_n 2, 37) := by decide +kernel
theorem d139_37 : cod 139 37 = some (.aload_n 0, 38) := by decide +kernel
theorem d139_38 : cod 139 38 = some (.aload_n 1, 39) := by decide +kernel
theorem d139_39 : cod 139 39 = some (.invokevirtual 233, 42) := by decide +kernel
theorem d139_42 : cod 139 42 = some (.iconst (-1), 43) := by decide +kernel
theorem d139_43 : cod 139 43 = some (.if_icmp .eq 7, 46) := by decide +kernel
theorem d139_46 : cod 139 46 = some (.iload_n 2, 47) := by decide +kernel
theorem d139_47 : cod 139 47 = some (.iconst 2, 48) := by decide +kernel
theorem d139_48 : cod 139 48 = some (.imul, 49) := by decide +kernel
theorem d139_49 : cod 139 49 = some (.istore_n 2, 50) := by decide +kernel
theorem d139_50 : cod 139 50 = some (.aload_n 1, 51) := by decide +kernel
theorem d139_51 : cod 139 51 = some (.invokevirtual 553, 54) := by decide +kernel
theorem d139_54 : cod 139 54 = some (.ifCond .eq 9, 57) := by decide +kernel
theorem d139_57 : cod 139 57 = some (.iload_n 2, 58) := by decide +kernel
theorem d139_58 : cod 139 58 = some (.iconst 3, 59) := by decide +kernel
theorem d139_59 : cod 139 59 = some (.idiv, 60) := by decide +kernel
theorem d139_60 : cod 139 60 = some (.goto 4, 63) := by decide +kernel
theorem d139_63 : cod 139 63 = some (.iload_n 2, 64) := by decide +kernel
theorem d139_64 : cod 139 64 = some (.ireturn, 65) := by decide +kernel
theorem d140_0 : cod 140 0 = some (.aload_n 0, 1) := by decide +kernel
theorem d140_1 : cod 140 1 = some (.getfield 56, 4) := by decide +kernel
theorem d140_4 : cod 140 4 = some (.iload_n 1, 5) := by decide +kernel
theorem d140_5 : cod 140 5 = some (.aload_n 0, 6) := by decide +kernel
theorem d140_6 : cod 140 6 = some (.getfield 372, 9) := by decide +kernel
theorem d140_9 : cod 140 9 = some (.invokevirtual 379, 12) := by decide +kernel
theorem d140_12 : cod 140 12 = some (.ifCond .ge 7, 15) := by decide +kernel
theorem d140_15 : cod 140 15 = some (.iconst 1, 16) := by decide +kernel
theorem d140_16 : cod 140 16 = some (.goto 4, 19) := by decide +kernel
theorem d140_19 : cod 140 19 = some (.iconst 0, 20) := by decide +kernel
theorem d140_20 : cod 140 20 = some (.ireturn, 21) := by decide +kernel
theorem d141_0 : cod 141 0 = some (.lload_n 1, 1) := by decide +kernel
theorem d141_1 : cod 141 1 = some (.lstore_n 3, 2) := by decide +kernel
theorem d141_2 : cod 141 2 = some (.iconst 0, 3) := by decide +kernel
theorem d141_3 : cod 141 3 = some (.istore 5, 5) := by decide +kernel
theorem d141_5 : cod 141 5 = some (.iload 5, 7) := by decide +kernel
theorem d141_7 : cod 141 7 = some (.aload_n 0, 8) := by decide +kernel
theorem d141_8 : cod 141 8 = some (.getfield 43, 11) := by decide +kernel
theorem d141_11 : cod 141 11 = some (.invokevirtual 129, 14) := by decide +kernel
theorem d141_14 : cod 141 14 = some (.if_icmp .ge 51, 17) := by decide +kernel
theorem d141_17 : cod 141 17 = some (.iconst 0, 18) := by decide +kernel
theorem d141_18 : cod 141 18 = some (.istore 6, 20) := by decide +kernel
theorem d141_20 : cod 141 20 = some (.iload 6, 22) := by decide +kernel
theorem d141_22 : cod 141 22 = some (.bipush 7, 24) := by decide +kernel
theorem d141_24 : cod 141 24 = some (.if_icmp .gt 23, 27) := by decide +kernel
theorem d141_27 : cod 141 27 = some (.lload_n 3, 28) := by decide +kernel
theorem d141_28 : cod 141 28 = some (.aload_n 0, 29) := by decide +kernel
theorem d141_29 : cod 141 29 = some (.iload 5, 31) := by decide +kernel
theorem d141_31 : cod 141 31 = some (.iload 6, 33) := by decide +kernel
theorem d141_33 : cod 141 33 = some (.invokevirtual 621, 36) := by decide +kernel
theorem d141_36 : cod 141 36 = some (.i2l, 37) := by decide +kernel
theorem d141_37 : cod 141 37 = some (.invokestatic 488, 40) := by decide +kernel
theorem d141_40 : cod 141 40 = some (.lstore_n 3, 41) := by decide +kernel
theorem d141_41 : cod 141 41 = some (.iinc 6 1, 44) := by decide +kernel
theorem d141_44 : cod 141 44 = some (.goto (-24), 47) := by decide +kernel
theorem d141_47 : cod 141 47 = some (.lload_n 3, 48) := by decide +kernel
theorem d141_48 : cod 141 48 = some (.aload_n 0, 49) := by decide +kernel
theorem d141_49 : cod 141 49 = some (.iload 5, 51) := by decide +kernel
theorem d141_51 : cod 141 51 = some (.invokevirtual 624, 54) := by decide +kernel
theorem d141_54 : cod 141 54 = some (.i2l, 55) := by decide +kernel
theorem d141_55 : cod 141 55 = some (.invokestatic 488, 58) := by decide +kernel
theorem d141_58 : cod 141 58 = some (.lstore_n 3, 59) := by decide +kernel
theorem d141_59 : cod 141 59 = some (.iinc 5 1, 62) := by decide +kernel
theorem d141_62 : cod 141 62 = some (.goto (-57), 65) := by decide +kernel
theorem d141_65 : cod 141 65 = some (.lload_n 3, 66) := by decide +kernel
theorem d141_66 : cod 141 66 = some (.lreturn, 67) := by decide +kernel
theorem d142_0 : cod 142 0 = some (.aload_n 0, 1) := by decide +kernel
theorem d142_1 : cod 142 1 = some (.iload_n 1, 2) := by decide +kernel
theorem d142_2 : cod 142 2 = some (.invokevirtual 306, 5) := by decide +kernel
theorem d142_5 : cod 142 5 = some (.invokestatic 112, 8) := by decide +kernel
theorem d142_8 : cod 142 8 = some (.iload_n 2, 9) := by decide +kernel
theorem d142_9 : cod 142 9 = some (.iconst 0, 10) := by decide +kernel
theorem d142_10 : cod 142 10 = some (.bipush 7, 12) := by decide +kernel
theorem d142_12 : cod 142 12 = some (.invokestatic 84, 15) := by decide +kernel
theorem d142_15 : cod 142 15 = some (.invokestatic 88, 18) := by decide +kernel
theorem d142_18 : cod 142 18 = some (.aload_n 0, 19) := by decide +kernel
theorem d142_19 : cod 142 19 = some (.getfield 43, 22) := by decide +kernel
theorem d142_22 : cod 142 22 = some (.iload_n 1, 23) := by decide +kernel
theorem d142_23 : cod 142 23 = some (.invokevirtual 132, 26) := by decide +kernel
theorem d142_26 : cod 142 26 = some (.checkcast 298, 29) := by decide +kernel
theorem d142_29 : cod 142 29 = some (.astore_n 3, 30) := by decide +kernel
theorem d142_30 : cod 142 30 = some (.iload_n 2, 31) := by decide +kernel
theorem d142_31 : cod 142 31 = some (.tableswitch 88 0 6 #[41, 47, 53, 59, 64, 69, 74], 72) := by decide +kernel
theorem d142_72 : cod 142 72 = some (.aload_n 0, 73) := by decide +kernel
theorem d142_73 : cod 142 73 = some (.aload_n 3, 74) := by decide +kernel
theorem d142_74 : cod 142 74 = some (.invokevirtual 322, 77) := by decide +kernel
theorem d142_77 : cod 142 77 = some (.ireturn, 78) := by decide +kernel
theorem d142_78 : cod 142 78 = some (.aload_n 0, 79) := by decide +kernel
theorem d142_79 : cod 142 79 = some (.aload_n 3, 80) := by decide +kernel
theorem d142_80 : cod 142 80 = some (.invokevirtual 314, 83) := by decide +kernel
theorem d142_83 : cod 142 83 = some (.ireturn, 84) := by decide +kernel
theorem d142_84 : cod 142 84 = some (.aload_n 0, 85) := by decide +kernel
theorem d142_85 : cod 142 85 = some (.aload_n 3, 86) := by decide +kernel
theorem d142_86 : cod 142 86 = some (.invokevirtual 325, 89) := by decide +kernel
theorem d142_89 : cod 142 89 = some (.ireturn, 90) := by decide +kernel
theorem d142_90 : cod 142 90 = some (.aload_n 3, 91) := by decide +kernel
theorem d142_91 : cod 142 91 = some (.getfield 328, 94) := by decide +kernel
theorem d142_94 : cod 142 94 = some (.ireturn, 95) := by decide +kernel
theorem d142_95 : cod 142 95 = some (.aload_n 3, 96) := by decide +kernel
theorem d142_96 : cod 142 96 = some (.getfield 303, 99) := by decide +kernel
theorem d142_99 : cod 142 99 = some (.ireturn, 100) := by decide +kernel
theorem d142_100 : cod 142 100 = some (.aload_n 3, 101) := by decide +kernel
theorem d142_101 : cod 142 101 = some (.invokevirtual 331, 104) := by decide +kernel
theorem d142_104 : cod 142 104 = some (.ireturn, 105) := by decide +kernel
theorem d142_105 : cod 142 105 = some (.aload_n 0, 106) := by decide +kernel
theorem d142_106 : cod 142 106 = some (.aload_n 3, 107) := by decide +kernel
theorem d142_107 : cod 142 107 = some (.invokevirtual 334, 110) := by decide +kernel
theorem d142_110 : cod 142 110 = some (.ifCond .eq 7, 113) := by decide +kernel
theorem d142_113 : cod 142 113 = some (.iconst 1, 114) := by decide +kernel
theorem d142_114 : cod 142 114 = some (.goto 4, 117) := by decide +kernel
theorem d142_117 : cod 142 117 = some (.iconst 0, 118) := by decide +kernel
theorem d142_118 : cod 142 118 = some (.ireturn, 119) := by decide +kernel
theorem d142_119 : cod 142 119 = some (.aload_n 0, 120) := by decide +kernel
theorem d142_120 : cod 142 120 = some (.aload_n 3, 121) := by decide +kernel
theorem d142_121 : cod 142 121 = some (.getfield 338, 124) := by decide +kernel
theorem d142_124 : cod 142 124 = some (.invokevirtual 341, 127) := by decide +kernel
theorem d142_127 : cod 142 127 = some (.ireturn, 128) := by decide +kernel
theorem d143_0 : cod 143 0 = some (.aload_n 0, 1) := by decide +kernel
theorem d143_1 : cod 143 1 = some (.aload_n 1, 2) := by decide +kernel
theorem d143_2 : cod 143 2 = some (.invokevirtual 571, 5) := by decide +kernel
theorem d143_5 : cod 143 5 = some (.aload_n 0, 6) := by decide +kernel
theorem d143_6 : cod 143 6 = some (.aload_n 1, 7) := by decide +kernel
theorem d143_7 : cod 143 7 = some (.invokevirtual 574, 10) := by decide +kernel
theorem d143_10 : cod 143 10 = some (.ior, 11) := by decide +kernel
theorem d143_11 : cod 143 11 = some (.aload_n 0, 12) := by decide +kernel
theorem d143_12 : cod 143 12 = some (.aload_n 1, 13) := by decide +kernel
theorem d143_13 : cod 143 13 = some (.invokevirtual 577, 16) := by decide +kernel
theorem d143_16 : cod 143 16 = some (.ior, 17) := by decide +kernel
theorem d143_17 : cod 143 17 = some (.aload_n 0, 18) := by decide +kernel
theorem d143_18 : cod 143 18 = some (.aload_n 1, 19) := by decide +kernel
theorem d143_19 : cod 143 19 = some (.invokevirtual 325, 22) := by decide +kernel
theorem d143_22 : cod 143 22 = some (.aload_n 0, 23) := by decide +kernel
theorem d143_23 : cod 143 23 = some (.aload_n 1, 24) := by decide +kernel
theorem d143_24 : cod 143 24 = some (.invokevirtual 314, 27) := by decide +kernel
theorem d143_27 : cod 143 27 = some (.aload_n 1, 28) := by decide +kernel
theorem d143_28 : cod 143 28 = some (.getfield 318, 31) := by decide +kernel
theorem d143_31 : cod 143 31 = some (.invokestatic 580, 34) := by decide +kernel
theorem d143_34 : cod 143 34 = some (.ior, 35) := by decide +kernel
theorem d143_35 : cod 143 35 = some (.ireturn, 36) := by decide +kernel
theorem d144_0 : cod 144 0 = some (.aload_n 0, 1) := by decide +kernel
theorem d144_1 : cod 144 1 = some (.getfield 40, 4) := by decide +kernel
theorem d144_4 : cod 144 4 = some (.aload_n 1, 5) := by decide +kernel
theorem d144_5 : cod 144 5 = some (.getfield 338, 8) := by decide +kernel
theorem d144_8 : cod 144 8 = some (.invokevirtual 132, 11) := by decide +kernel
theorem d144_11 : cod 144 11 = some (.checkcast 290, 14) := by decide +kernel
theorem d144_14 : cod 144 14 = some (.astore_n 2, 15) := by decide +kernel
theorem d144_15 : cod 144 15 = some (.aload_n 2, 16) := by decide +kernel
theorem d144_16 : cod 144 16 = some (.getfield 556, 19) := by decide +kernel
theorem d144_19 : cod 144 19 = some (.aload_n 1, 20) := by decide +kernel
theorem d144_20 : cod 144 20 = some (.getfield 559, 23) := by decide +kernel
theorem d144_23 : cod 144 23 = some (.if_icmp .ne 7, 26) := by decide +kernel
theorem d144_26 : cod 144 26 = some (.iconst 0, 27) := by decide +kernel
theorem d144_27 : cod 144 27 = some (.goto 4, 30) := by decide +kernel
theorem d144_30 : cod 144 30 = some (.iconst 1, 31) := by decide +kernel
theorem d144_31 : cod 144 31 = some (.istore_n 3, 32) := by decide +kernel
theorem d144_32 : cod 144 32 = some (.aload_n 2, 33) := by decide +kernel
theorem d144_33 : cod 144 33 = some (.aload_n 1, 34) := by decide +kernel
theorem d144_34 : cod 144 34 = some (.getfield 328, 37) := by decide +kernel
theorem d144_37 : cod 144 37 = some (.invokevirtual 583, 40) := by decide +kernel
theorem d144_40 : cod 144 40 = some (.ifCond .eq 7, 43) := by decide +kernel
theorem d144_43 : cod 144 43 = some (.iload_n 3, 44) := by decide +kernel
theorem d144_44 : cod 144 44 = some (.goto 6, 47) := by decide +kernel
theorem d144_47 : cod 144 47 = some (.iload_n 3, 48) := by decide +kernel
theorem d144_48 : cod 144 48 = some (.iconst 2, 49) := by decide +kernel
theorem d144_49 : cod 144 49 = some (.ior, 50) := by decide +kernel
theorem d144_50 : cod 144 50 = some (.ireturn, 51) := by decide +kernel
theorem d145_0 : cod 145 0 = some (.iconst 0, 1) := by decide +kernel
theorem d145_1 : cod 145 1 = some (.istore_n 2, 2) := by decide +kernel
theorem d145_2 : cod 145 2 = some (.iconst 0, 3) := by decide +kernel
theorem d145_3 : cod 145 3 = some (.istore_n 3, 4) := by decide +kernel
theorem d145_4 : cod 145 4 = some (.iload_n 3, 5) := by decide +kernel
theorem d145_5 : cod 145 5 = some (.aload_n 0, 6) := by decide +kernel
theorem d145_6 : cod 145 6 = some (.getfield 37, 9) := by decide +kernel
theorem d145_9 : cod 145 9 = some (.invokevirtual 129, 12) := by decide +kernel
theorem d145_12 : cod 145 12 = some (.if_icmp .ge 78, 15) := by decide +kernel
theorem d145_15 : cod 145 15 = some (.aload_n 1, 16) := by decide +kernel
theorem d145_16 : cod 145 16 = some (.getfield 312, 19) := by decide +kernel
theorem d145_19 : cod 145 19 = some (.iload_n 3, 20) := by decide +kernel
theorem d145_20 : cod 145 20 = some (.iaload, 21) := by decide +kernel
theorem d145_21 : cod 145 21 = some (.ifCond .le 28, 24) := by decide +kernel
theorem d145_24 : cod 145 24 = some (.aload_n 0, 25) := by decide +kernel
theorem d145_25 : cod 145 25 = some (.getfield 37, 28) := by decide +kernel
theorem d145_28 : cod 145 28 = some (.iload_n 3, 29) := by decide +kernel
theorem d145_29 : cod 145 29 = some (.invokevirtual 132, 32) := by decide +kernel
theorem d145_32 : cod 145 32 = some (.checkcast 290, 35) := by decide +kernel
theorem d145_35 : cod 145 35 = some (.getfield 586, 38) := by decide +kernel
theorem d145_38 : cod 145 38 = some (.aload_n 1, 39) := by decide +kernel
theorem d145_39 : cod 145 39 = some (.getfield 328, 42) := by decide +kernel
theorem d145_42 : cod 145 42 = some (.if_icmp .le 7, 45) := by decide +kernel
theorem d145_45 : cod 145 45 = some (.iload_n 2, 46) := by decide +kernel
theorem d145_46 : cod 145 46 = some (.iconst 4, 47) := by decide +kernel
theorem d145_47 : cod 145 47 = some (.ior, 48) := by decide +kernel
theorem d145_48 : cod 145 48 = some (.istore_n 2, 49) := by decide +kernel
theorem d145_49 : cod 145 49 = some (.aload_n 1, 50) := by decide +kernel
theorem d145_50 : cod 145 50 = some (.getfield 312, 53) := by decide +kernel
theorem d145_53 : cod 145 53 = some (.iload_n 3, 54) := by decide +kernel
theorem d145_54 : cod 145 54 = some (.iaload, 55) := by decide +kernel
theorem d145_55 : cod 145 55 = some (.ifCond .le 29, 58) := by decide +kernel
theorem d145_58 : cod 145 58 = some (.aload_n 0, 59) := by decide +kernel
theorem d145_59 : cod 145 59 = some (.getfield 37, 62) := by decide +kernel
theorem d145_62 : cod 145 62 = some (.iload_n 3, 63) := by decide +kernel
theorem d145_63 : cod 145 63 = some (.invokevirtual 132, 66) := by decide +kernel
theorem d145_66 : cod 145 66 = some (.checkcast 290, 69) := by decide +kernel
theorem d145_69 : cod 145 69 = some (.getfield 587, 72) := by decide +kernel
theorem d145_72 : cod 145 72 = some (.aload_n 1, 73) := by decide +kernel
theorem d145_73 : cod 145 73 = some (.getfield 328, 76) := by decide +kernel
theorem d145_76 : cod 145 76 = some (.if_icmp .ge 8, 79) := by decide +kernel
theorem d145_79 : cod 145 79 = some (.iload_n 2, 80) := by decide +kernel
theorem d145_80 : cod 145 80 = some (.bipush 8, 82) := by decide +kernel
theorem d145_82 : cod 145 82 = some (.ior, 83) := by decide +kernel
theorem d145_83 : cod 145 83 = some (.istore_n 2, 84) := by decide +kernel
theorem d145_84 : cod 145 84 = some (.iinc 3 1, 87) := by decide +kernel
theorem d145_87 : cod 145 87 = some (.goto (-83), 90) := by decide +kernel
theorem d145_90 : cod 145 90 = some (.iload_n 2, 91) := by decide +kernel
theorem d145_91 : cod 145 91 = some (.ireturn, 92) := by decide +kernel
theorem d146_0 : cod 146 0 = some (.aload_n 0, 1) := by decide +kernel
theorem d146_1 : cod 146 1 = some (.getfield 33, 4) := by decide +kernel
theorem d146_4 : cod 146 4 = some (.aload_n 1, 5) := by decide +kernel
theorem d146_5 : cod 146 5 = some (.getfield 559, 8) := by decide +kernel
theorem d146_8 : cod 146 8 = some (.aload_n 1, 9) := by decide +kernel
theorem d146_9 : cod 146 9 = some (.getfield 562, 12) := by decide +kernel
theorem d146_12 : cod 146 12 = some (.invokevirtual 273, 15) := by decide +kernel
theorem d146_15 : cod 146 15 = some (.istore_n 2, 16) := by decide +kernel
theorem d146_16 : cod 146 16 = some (.iload_n 2, 17) := by decide +kernel
theorem d146_17 : cod 146 17 = some (.iconst (-1), 18) := by decide +kernel
theorem d146_18 : cod 146 18 = some (.if_icmp .eq 16, 21) := by decide +kernel
theorem d146_21 : cod 146 21 = some (.aload_n 1, 22) := by decide +kernel
theorem d146_22 : cod 146 22 = some (.getfield 303, 25) := by decide +kernel
theorem d146_25 : cod 146 25 = some (.aload_n 1, 26) := by decide +kernel
theorem d146_26 : cod 146 26 = some (.getfield 328, 29) := by decide +kernel
theorem d146_29 : cod 146 29 = some (.iload_n 2, 30) := by decide +kernel
theorem d146_30 : cod 146 30 = some (.iadd, 31) := by decide +kernel
theorem d146_31 : cod 146 31 = some (.if_icmp .ge 8, 34) := by decide +kernel
theorem d146_34 : cod 146 34 = some (.bipush 64, 36) := by decide +kernel
theorem d146_36 : cod 146 36 = some (.goto 4, 39) := by decide +kernel
theorem d146_39 : cod 146 39 = some (.iconst 0, 40) := by decide +kernel
theorem d146_40 : cod 146 40 = some (.ireturn, 41) := by decide +kernel
theorem d147_0 : cod 147 0 = some (.aload_n 0, 1) := by decide +kernel
theorem d147_1 : cod 147 1 = some (.getfield 33, 4) := by decide +kernel
theorem d147_4 : cod 147 4 = some (.aload_n 1, 5) := by decide +kernel
theorem d147_5 : cod 147 5 = some (.getfield 328, 8) := by decide +kernel
theorem d147_8 : cod 147 8 = some (.aload_n 0, 9) := by decide +kernel
theorem d147_9 : cod 147 9 = some (.getfield 33, 12) := by decide +kernel
theorem d147_12 : cod 147 12 = some (.aload_n 1, 13) := by decide +kernel
theorem d147_13 : cod 147 13 = some (.getfield 559, 16) := by decide +kernel
theorem d147_16 : cod 147 16 = some (.aload_n 1, 17) := by decide +kernel
theorem d147_17 : cod 147 17 = some (.getfield 562, 20) := by decide +kernel
theorem d147_20 : cod 147 20 = some (.invokevirtual 565, 23) := by decide +kernel
theorem d147_23 : cod 147 23 = some (.aload_n 1, 24) := by decide +kernel
theorem d147_24 : cod 147 24 = some (.getfield 568, 27) := by decide +kernel
theorem d147_27 : cod 147 27 = some (.invokevirtual 286, 30) := by decide +kernel
theorem d147_30 : cod 147 30 = some (.ireturn, 31) := by decide +kernel
theorem d148_0 : cod 148 0 = some (.iload_n 0, 1) := by decide +kernel
theorem d148_1 : cod 148 1 = some (.iconst (-1), 2) := by decide +kernel
theorem d148_2 : cod 148 2 = some (.if_icmp .ne 7, 5) := by decide +kernel
theorem d148_5 : cod 148 5 = some (.sipush 128, 8) := by decide +kernel
theorem d148_8 : cod 148 8 = some (.ireturn, 9) := by decide +kernel
theorem d148_9 : cod 148 9 = some (.iload_n 1, 10) := by decide +kernel
theorem d148_10 : cod 148 10 = some (.iload_n 0, 11) := by decide +kernel
theorem d148_11 : cod 148 11 = some (.if_icmp .le 6, 14) := by decide +kernel
theorem d148_14 : cod 148 14 = some (.bipush 32, 16) := by decide +kernel
theorem d148_16 : cod 148 16 = some (.ireturn, 17) := by decide +kernel
theorem d148_17 : cod 148 17 = some (.iload_n 1, 18) := by decide +kernel
theorem d148_18 : cod 148 18 = some (.iload_n 0, 19) := by decide +kernel
theorem d148_19 : cod 148 19 = some (.if_icmp .ge 12, 22) := by decide +kernel
theorem d148_22 : cod 148 22 = some (.iload_n 2, 23) := by decide +kernel
theorem d148_23 : cod 148 23 = some (.ifCond .ne 8, 26) := by decide +kernel
theorem d148_26 : cod 148 26 = some (.bipush 16, 28) := by decide +kernel
theorem d148_28 : cod 148 28 = some (.goto 4, 31) := by decide +kernel
theorem d148_31 : cod 148 31 = some (.iconst 0, 32) := by decide +kernel
theorem d148_32 : cod 148 32 = some (.ireturn, 33) := by decide +kernel
theorem d149_0 : cod 149 0 = some (.aload_n 0, 1) := by decide +kernel
theorem d149_1 : cod 149 1 = some (.aload_n 1, 2) := by decide +kernel
theorem d149_2 : cod 149 2 = some (.invokevirtual 571, 5) := by decide +kernel
theorem d149_5 : cod 149 5 = some (.aload_n 0, 6) := by decide +kernel
theorem d149_6 : cod 149 6 = some (.aload_n 1, 7) := by decide +kernel
theorem d149_7 : cod 149 7 = some (.invokevirtual 574, 10) := by decide +kernel
theorem d149_10 : cod 149 10 = some (.ior, 11) := by decide +kernel
theorem d149_11 : cod 149 11 = some (.aload_n 0, 12) := by decide +kernel
theorem d149_12 : cod 149 12 = some (.aload_n 1, 13) := by decide +kernel
theorem d149_13 : cod 149 13 = some (.invokevirtual 577, 16) := by decide +kernel
theorem d149_16 : cod 149 16 = some (.ior, 17) := by decide +kernel
theorem d149_17 : cod 149 17 = some (.bipush 71, 19) := by decide +kernel
theorem d149_19 : cod 149 19 = some (.iand, 20) := by decide +kernel
theorem d149_20 : cod 149 20 = some (.ifCond .eq 7, 23) := by decide +kernel
theorem d149_23 : cod 149 23 = some (.iconst 1, 24) := by decide +kernel
theorem d149_24 : cod 149 24 = some (.goto 4, 27) := by decide +kernel
theorem d149_27 : cod 149 27 = some (.iconst 0, 28) := by decide +kernel
theorem d149_28 : cod 149 28 = some (.ireturn, 29) := by decide +kernel
theorem d150_0 : cod 150 0 = some (.iconst 0, 1) := by decide +kernel
theorem d150_1 : cod 150 1 = some (.istore_n 2, 2) := by decide +kernel
theorem d150_2 : cod 150 2 = some (.iconst 0, 3) := by decide +kernel
theorem d150_3 : cod 150 3 = some (.istore_n 3, 4) := by decide +kernel
theorem d150_4 : cod 150 4 = some (.iload_n 3, 5) := by decide +kernel
theorem d150_5 : cod 150 5 = some (.aload_n 0, 6) := by decide +kernel
theorem d150_6 : cod 150 6 = some (.getfield 43, 9) := by decide +kernel
theorem d150_9 : cod 150 9 = some (.invokevirtual 129, 12) := by decide +kernel
theorem d150_12 : cod 150 12 = some (.if_icmp .ge 43, 15) := by decide +kernel
theorem d150_15 : cod 150 15 = some (.aload_n 0, 16) := by decide +kernel
theorem d150_16 : cod 150 16 = some (.getfield 43, 19) := by decide +kernel
theorem d150_19 : cod 150 19 = some (.iload_n 3, 20) := by decide +kernel
theorem d150_20 : cod 150 20 = some (.invokevirtual 132, 23) := by decide +kernel
theorem d150_23 : cod 150 23 = some (.checkcast 298, 26) := by decide +kernel
theorem d150_26 : cod 150 26 = some (.astore 4, 28) := by decide +kernel
theorem d150_28 : cod 150 28 = some (.aload 4, 30) := by decide +kernel
theorem d150_30 : cod 150 30 = some (.getfield 338, 33) := by decide +kernel
theorem d150_33 : cod 150 33 = some (.iload_n 1, 34) := by decide +kernel
theorem d150_34 : cod 150 34 = some (.if_icmp .ne 15, 37) := by decide +kernel
theorem d150_37 : cod 150 37 = some (.aload_n 0, 38) := by decide +kernel
theorem d150_38 : cod 150 38 = some (.aload 4, 40) := by decide +kernel
theorem d150_40 : cod 150 40 = some (.invokevirtual 334, 43) := by decide +kernel
theorem d150_43 : cod 150 43 = some (.ifCond .ne 6, 46) := by decide +kernel
theorem d150_46 : cod 150 46 = some (.iinc 2 1, 49) := by decide +kernel
theorem d150_49 : cod 150 49 = some (.iinc 3 1, 52) := by decide +kernel
theorem d150_52 : cod 150 52 = some (.goto (-48), 55) := by decide +kernel
theorem d150_55 : cod 150 55 = some (.iload_n 2, 56) := by decide +kernel
theorem d150_56 : cod 150 56 = some (.ireturn, 57) := by decide +kernel
theorem d151_0 : cod 151 0 = some (.aload_n 0, 1) := by decide +kernel
theorem d151_1 : cod 151 1 = some (.iload_n 1, 2) := by decide +kernel
theorem d151_2 : cod 151 2 = some (.invokevirtual 306, 5) := by decide +kernel
theorem d151_5 : cod 151 5 = some (.invokestatic 112, 8) := by decide +kernel
theorem d151_8 : cod 151 8 = some (.aload_n 0, 9) := by decide +kernel
theorem d151_9 : cod 151 9 = some (.getfield 43, 12) := by decide +kernel
theorem d151_12 : cod 151 12 = some (.iload_n 1, 13) := by decide +kernel
theorem d151_13 : cod 151 13 = some (.invokevirtual 132, 16) := by decide +kernel
theorem d151_16 : cod 151 16 = some (.checkcast 298, 19) := by decide +kernel
theorem d151_19 : cod 151 19 = some (.astore_n 2, 20) := by decide +kernel
theorem d151_20 : cod 151 20 = some (.aload_n 0, 21) := by decide +kernel
theorem d151_21 : cod 151 21 = some (.aload_n 2, 22) := by decide +kernel
theorem d151_22 : cod 151 22 = some (.invokevirtual 325, 25) := by decide +kernel
theorem d151_25 : cod 151 25 = some (.istore_n 3, 26) := by decide +kernel
theorem d151_26 : cod 151 26 = some (.iload_n 3, 27) := by decide +kernel
theorem d151_27 : cod 151 27 = some (.iconst (-1), 28) := by decide +kernel
theorem d151_28 : cod 151 28 = some (.if_icmp .eq 9, 31) := by decide +kernel
theorem d151_31 : cod 151 31 = some (.iload_n 3, 32) := by decide +kernel
theorem d151_32 : cod 151 32 = some (.bipush 99, 34) := by decide +kernel
theorem d151_34 : cod 151 34 = some (.if_icmp .le 5, 37) := by decide +kernel
theorem d151_37 : cod 151 37 = some (.iconst (-1), 38) := by decide +kernel
theorem d151_38 : cod 151 38 = some (.ireturn, 39) := by decide +kernel
theorem d151_39 : cod 151 39 = some (.aload_n 0, 40) := by decide +kernel
theorem d151_40 : cod 151 40 = some (.getfield 74, 43) := by decide +kernel
theorem d151_43 : cod 151 43 = some (.iconst 0, 44) := by decide +kernel
theorem d151_44 : cod 151 44 = some (.iconst 0, 45) := by decide +kernel
theorem d151_45 : cod 151 45 = some (.iastore, 46) := by decide +kernel
theorem d151_46 : cod 151 46 = some (.iconst 1, 47) := by decide +kernel
theorem d151_47 : cod 151 47 = some (.istore 4, 49) := by decide +kernel
theorem d151_49 : cod 151 49 = some (.iload 4, 51) := by decide +kernel
theorem d151_51 : cod 151 51 = some (.iload_n 3, 52) := by decide +kernel
theorem d151_52 : cod 151 52 = some (.if_icmp .gt 26, 55) := by decide +kernel
theorem d151_55 : cod 151 55 = some (.aload_n 0, 56) := by decide +kernel
theorem d151_56 : cod 151 56 = some (.getfield 74, 59) := by decide +kernel
theorem d151_59 : cod 151 59 = some (.iload 4, 61) := by decide +kernel
theorem d151_61 : cod 151 61 = some (.aload_n 0, 62) := by decide +kernel
theorem d151_62 : cod 151 62 = some (.iload 4, 64) := by decide +kernel
theorem d151_64 : cod 151 64 = some (.aload_n 2, 65) := by decide +kernel
theorem d151_65 : cod 151 65 = some (.getfield 328, 68) := by decide +kernel
theorem d151_68 : cod 151 68 = some (.invokevirtual 344, 71) := by decide +kernel
theorem d151_71 : cod 151 71 = some (.iastore, 72) := by decide +kernel
theorem d151_72 : cod 151 72 = some (.iinc 4 1, 75) := by decide +kernel
theorem d151_75 : cod 151 75 = some (.goto (-26), 78) := by decide +kernel
theorem d151_78 : cod 151 78 = some (.aload_n 0, 79) := by decide +kernel
theorem d151_79 : cod 151 79 = some (.getfield 74, 82) := by decide +kernel
theorem d151_82 : cod 151 82 = some (.iload_n 3, 83) := by decide +kernel
theorem d151_83 : cod 151 83 = some (.iaload, 84) := by decide +kernel
theorem d151_84 : cod 151 84 = some (.sipush 1000, 87) := by decide +kernel
theorem d151_87 : cod 151 87 = some (.if_icmp .ge 12, 90) := by decide +kernel
theorem d151_90 : cod 151 90 = some (.aload_n 0, 91) := by decide +kernel
theorem d151_91 : cod 151 91 = some (.getfield 74, 94) := by decide +kernel
theorem d151_94 : cod 151 94 = some (.iload_n 3, 95) := by decide +kernel
theorem d151_95 : cod 151 95 = some (.iaload, 96) := by decide +kernel
theorem d151_96 : cod 151 96 = some (.goto 4, 99) := by decide +kernel
theorem d151_99 : cod 151 99 = some (.iconst (-1), 100) := by decide +kernel
theorem d151_100 : cod 151 100 = some (.ireturn, 101) := by decide +kernel
theorem d152_0 : cod 152 0 = some (.sipush 1000, 3) := by decide +kernel
theorem d152_3 : cod 152 3 = some (.istore_n 3, 4) := by decide +kernel
theorem d152_4 : cod 152 4 = some (.iconst 0, 5) := by decide +kernel
theorem d152_5 : cod 152 5 = some (.istore 4, 7) := by decide +kernel
theorem d152_7 : cod 152 7 = some (.iload 4, 9) := by decide +kernel
theorem d152_9 : cod 152 9 = some (.aload_n 0, 10) := by decide +kernel
theorem d152_10 : cod 152 10 = some (.getfield 37, 13) := by decide +kernel
theorem d152_13 : cod 152 13 = some (.invokevirtual 129, 16) := by decide +kernel
theorem d152_16 : cod 152 16 = some (.if_icmp .ge 60, 19) := by decide +kernel
theorem d152_19 : cod 152 19 = some (.aload_n 0, 20) := by decide +kernel
theorem d152_20 : cod 152 20 = some (.getfield 37, 23) := by decide +kernel
theorem d152_23 : cod 152 23 = some (.iload 4, 25) := by decide +kernel
theorem d152_25 : cod 152 25 = some (.invokevirtual 132, 28) := by decide +kernel
theorem d152_28 : cod 152 28 = some (.checkcast 290, 31) := by decide +kernel
theorem d152_31 : cod 152 31 = some (.astore 5, 33) := by decide +kernel
theorem d152_33 : cod 152 33 = some (.aload 5, 35) := by decide +kernel
theorem d152_35 : cod 152 35 = some (.getfield 556, 38) := by decide +kernel
theorem d152_38 : cod 152 38 = some (.iload_n 1, 39) := by decide +kernel
theorem d152_39 : cod 152 39 = some (.if_icmp .gt 31, 42) := by decide +kernel
theorem d152_42 : cod 152 42 = some (.aload 5, 44) := by decide +kernel
theorem d152_44 : cod 152 44 = some (.iload_n 2, 45) := by decide +kernel
theorem d152_45 : cod 152 45 = some (.invokevirtual 583, 48) := by decide +kernel
theorem d152_48 : cod 152 48 = some (.ifCond .eq 22, 51) := by decide +kernel
theorem d152_51 : cod 152 51 = some (.iload_n 3, 52) := by decide +kernel
theorem d152_52 : cod 152 52 = some (.aload_n 0, 53) := by decide +kernel
theorem d152_53 : cod 152 53 = some (.getfield 74, 56) := by decide +kernel
theorem d152_56 : cod 152 56 = some (.iload_n 1, 57) := by decide +kernel
theorem d152_57 : cod 152 57 = some (.aload 5, 59) := by decide +kernel
theorem d152_59 : cod 152 59 = some (.getfield 556, 62) := by decide +kernel
theorem d152_62 : cod 152 62 = some (.isub, 63) := by decide +kernel
theorem d152_63 : cod 152 63 = some (.iaload, 64) := by decide +kernel
theorem d152_64 : cod 152 64 = some (.iconst 1, 65) := by decide +kernel
theorem d152_65 : cod 152 65 = some (.iadd, 66) := by decide +kernel
theorem d152_66 : cod 152 66 = some (.invokestatic 588, 69) := by decide +kernel
theorem d152_69 : cod 152 69 = some (.istore_n 3, 70) := by decide +kernel
theorem d152_70 : cod 152 70 = some (.iinc 4 1, 73) := by decide +kernel
theorem d152_73 : cod 152 73 = some (.goto (-66), 76) := by decide +kernel
theorem d152_76 : cod 152 76 = some (.iload_n 3, 77) := by decide +kernel
theorem d152_77 : cod 152 77 = some (.ireturn, 78) := by decide +kernel
theorem d153_0 : cod 153 0 = some (.lload_n 1, 1) := by decide +kernel
theorem d153_1 : cod 153 1 = some (.lstore_n 3, 2) := by decide +kernel
theorem d153_2 : cod 153 2 = some (.iconst 0, 3) := by decide +kernel
theorem d153_3 : cod 153 3 = some (.istore 5, 5) := by decide +kernel
theorem d153_5 : cod 153 5 = some (.iload 5, 7) := by decide +kernel
theorem d153_7 : cod 153 7 = some (.aload_n 0, 8) := by decide +kernel
theorem d153_8 : cod 153 8 = some (.getfield 37, 11) := by decide +kernel
theorem d153_11 : cod 153 11 = some (.invokevirtual 129, 14) := by decide +kernel
theorem d153_14 : cod 153 14 = some (.if_icmp .ge 35, 17) := by decide +kernel
theorem d153_17 : cod 153 17 = some (.lload_n 3, 18) := by decide +kernel
theorem d153_18 : cod 153 18 = some (.aload_n 0, 19) := by decide +kernel
theorem d153_19 : cod 153 19 = some (.iload 5, 21) := by decide +kernel
theorem d153_21 : cod 153 21 = some (.iconst 0, 22) := by decide +kernel
theorem d153_22 : cod 153 22 = some (.invokevirtual 627, 25) := by decide +kernel
theorem d153_25 : cod 153 25 = some (.i2l, 26) := by decide +kernel
theorem d153_26 : cod 153 26 = some (.invokestatic 488, 29) := by decide +kernel
theorem d153_29 : cod 153 29 = some (.lstore_n 3, 30) := by decide +kernel
theorem d153_30 : cod 153 30 = some (.lload_n 3, 31) := by decide +kernel
theorem d153_31 : cod 153 31 = some (.aload_n 0, 32) := by decide +kernel
theorem d153_32 : cod 153 32 = some (.iload 5, 34) := by decide +kernel
theorem d153_34 : cod 153 34 = some (.iconst 1, 35) := by decide +kernel
theorem d153_35 : cod 153 35 = some (.invokevirtual 627, 38) := by decide +kernel
theorem d153_38 : cod 153 38 = some (.i2l, 39) := by decide +kernel
theorem d153_39 : cod 153 39 = some (.invokestatic 488, 42) := by decide +kernel
theorem d153_42 : cod 153 42 = some (.lstore_n 3, 43) := by decide +kernel
theorem d153_43 : cod 153 43 = some (.iinc 5 1, 46) := by decide +kernel
theorem d153_46 : cod 153 46 = some (.goto (-41), 49) := by decide +kernel
theorem d153_49 : cod 153 49 = some (.lload_n 3, 50) := by decide +kernel
theorem d153_50 : cod 153 50 = some (.lreturn, 51) := by decide +kernel
theorem d154_0 : cod 154 0 = some (.aload_n 0, 1) := by decide +kernel
theorem d154_1 : cod 154 1 = some (.iload_n 1, 2) := by decide +kernel
theorem d154_2 : cod 154 2 = some (.invokevirtual 309, 5) := by decide +kernel
theorem d154_5 : cod 154 5 = some (.invokestatic 112, 8) := by decide +kernel
theorem d154_8 : cod 154 8 = some (.iload_n 2, 9) := by decide +kernel
theorem d154_9 : cod 154 9 = some (.ifCond .eq 9, 12) := by decide +kernel
theorem d154_12 : cod 154 12 = some (.aload_n 0, 13) := by decide +kernel
theorem d154_13 : cod 154 13 = some (.iload_n 1, 14) := by decide +kernel
theorem d154_14 : cod 154 14 = some (.invokevirtual 347, 17) := by decide +kernel
theorem d154_17 : cod 154 17 = some (.ireturn, 18) := by decide +kernel
theorem d154_18 : cod 154 18 = some (.iconst 0, 19) := by decide +kernel
theorem d154_19 : cod 154 19 = some (.istore_n 3, 20) := by decide +kernel
theorem d154_20 : cod 154 20 = some (.iconst 0, 21) := by decide +kernel
theorem d154_21 : cod 154 21 = some (.istore 4, 23) := by decide +kernel
theorem d154_23 : cod 154 23 = some (.iload 4, 25) := by decide +kernel
theorem d154_25 : cod 154 25 = some (.aload_n 0, 26) := by decide +kernel
theorem d154_26 : cod 154 26 = some (.getfield 43, 29) := by decide +kernel
theorem d154_29 : cod 154 29 = some (.invokevirtual 129, 32) := by decide +kernel
theorem d154_32 : cod 154 32 = some (.if_icmp .ge 29, 35) := by decide +kernel
theorem d154_35 : cod 154 35 = some (.iload_n 3, 36) := by decide +kernel
theorem d154_36 : cod 154 36 = some (.aload_n 0, 37) := by decide +kernel
theorem d154_37 : cod 154 37 = some (.getfield 43, 40) := by decide +kernel
theorem d154_40 : cod 154 40 = some (.iload 4, 42) := by decide +kernel
theorem d154_42 : cod 154 42 = some (.invokevirtual 132, 45) := by decide +kernel
theorem d154_45 : cod 154 45 = some (.checkcast 298, 48) := by decide +kernel
theorem d154_48 : cod 154 48 = some (.getfield 312, 51) := by decide +kernel
theorem d154_51 : cod 154 51 = some (.iload_n 1, 52) := by decide +kernel
theorem d154_52 : cod 154 52 = some (.iaload, 53) := by decide +kernel
theorem d154_53 : cod 154 53 = some (.iadd, 54) := by decide +kernel
theorem d154_54 : cod 154 54 = some (.istore_n 3, 55) := by decide +kernel
theorem d154_55 : cod 154 55 = some (.iinc 4 1, 58) := by decide +kernel
theorem d154_58 : cod 154 58 = some (.goto (-35), 61) := by decide +kernel
theorem d154_61 : cod 154 61 = some (.iload_n 3, 62) := by decide +kernel
theorem d154_62 : cod 154 62 = some (.ireturn, 63) := by decide +kernel
theorem d155_0 : cod 155 0 = some (.iconst 0, 1) := by decide +kernel
theorem d155_1 : cod 155 1 = some (.istore_n 2, 2) := by decide +kernel
theorem d155_2 : cod 155 2 = some (.iconst 0, 3) := by decide +kernel
theorem d155_3 : cod 155 3 = some (.istore_n 3, 4) := by decide +kernel
theorem d155_4 : cod 155 4 = some (.iconst 0, 5) := by decide +kernel
theorem d155_5 : cod 155 5 = some (.istore 4, 7) := by decide +kernel
theorem d155_7 : cod 155 7 = some (.iload 4, 9) := by decide +kernel
theorem d155_9 : cod 155 9 = some (.aload_n 0, 10) := by decide +kernel
theorem d155_10 : cod 155 10 = some (.getfield 43, 13) := by decide +kernel
theorem d155_13 : cod 155 13 = some (.invokevirtual 129, 16) := by decide +kernel
theorem d155_16 : cod 155 16 = some (.if_icmp .ge 50, 19) := by decide +kernel
theorem d155_19 : cod 155 19 = some (.aload_n 0, 20) := by decide +kernel
theorem d155_20 : cod 155 20 = some (.getfield 43, 23) := by decide +kernel
theorem d155_23 : cod 155 23 = some (.iload 4, 25) := by decide +kernel
theorem d155_25 : cod 155 25 = some (.invokevirtual 132, 28) := by decide +kernel
theorem d155_28 : cod 155 28 = some (.checkcast 298, 31) := by decide +kernel
theorem d155_31 : cod 155 31 = some (.astore 5, 33) := by decide +kernel
theorem d155_33 : cod 155 33 = some (.aload_n 0, 34) := by decide +kernel
theorem d155_34 : cod 155 34 = some (.aload 5, 36) := by decide +kernel
theorem d155_36 : cod 155 36 = some (.invokevirtual 334, 39) := by decide +kernel
theorem d155_39 : cod 155 39 = some (.ifCond .ne 21, 42) := by decide +kernel
theorem d155_42 : cod 155 42 = some (.iload_n 2, 43) := by decide +kernel
theorem d155_43 : cod 155 43 = some (.aload 5, 45) := by decide +kernel
theorem d155_45 : cod 155 45 = some (.getfield 312, 48) := by decide +kernel
theorem d155_48 : cod 155 48 = some (.iload_n 1, 49) := by decide +kernel
theorem d155_49 : cod 155 49 = some (.iaload, 50) := by decide +kernel
theorem d155_50 : cod 155 50 = some (.iadd, 51) := by decide +kernel
theorem d155_51 : cod 155 51 = some (.istore_n 2, 52) := by decide +kernel
theorem d155_52 : cod 155 52 = some (.iload_n 3, 53) := by decide +kernel
theorem d155_53 : cod 155 53 = some (.aload 5, 55) := by decide +kernel
theorem d155_55 : cod 155 55 = some (.invokevirtual 331, 58) := by decide +kernel
theorem d155_58 : cod 155 58 = some (.iadd, 59) := by decide +kernel
theorem d155_59 : cod 155 59 = some (.istore_n 3, 60) := by decide +kernel
theorem d155_60 : cod 155 60 = some (.iinc 4 1, 63) := by decide +kernel
theorem d155_63 : cod 155 63 = some (.goto (-56), 66) := by decide +kernel
theorem d155_66 : cod 155 66 = some (.iload_n 3, 67) := by decide +kernel
theorem d155_67 : cod 155 67 = some (.ifCond .ne 7, 70) := by decide +kernel
theorem d155_70 : cod 155 70 = some (.iconst 0, 71) := by decide +kernel
theorem d155_71 : cod 155 71 = some (.goto 10, 74) := by decide +kernel
theorem d155_74 : cod 155 74 = some (.iload_n 2, 75) := by decide +kernel
theorem d155_75 : cod 155 75 = some (.sipush 1000, 78) := by decide +kernel
theorem d155_78 : cod 155 78 = some (.imul, 79) := by decide +kernel
theorem d155_79 : cod 155 79 = some (.iload_n 3, 80) := by decide +kernel
theorem d155_80 : cod 155 80 = some (.idiv, 81) := by decide +kernel
theorem d155_81 : cod 155 81 = some (.ireturn, 82) := by decide +kernel
theorem d156_0 : cod 156 0 = some (.lload_n 1, 1) := by decide +kernel
theorem d156_1 : cod 156 1 = some (.lstore_n 3, 2) := by decide +kernel
theorem d156_2 : cod 156 2 = some (.iconst 0, 3) := by decide +kernel
theorem d156_3 : cod 156 3 = some (.istore 5, 5) := by decide +kernel
theorem d156_5 : cod 156 5 = some (.iload 5, 7) := by decide +kernel
theorem d156_7 : cod 156 7 = some (.bipush 6, 9) := by decide +kernel
theorem d156_9 : cod 156 9 = some (.if_icmp .gt 21, 12) := by decide +kernel
theorem d156_12 : cod 156 12 = some (.lload_n 3, 13) := by decide +kernel
theorem d156_13 : cod 156 13 = some (.aload_n 0, 14) := by decide +kernel
theorem d156_14 : cod 156 14 = some (.iload 5, 16) := by decide +kernel
theorem d156_16 : cod 156 16 = some (.invokevirtual 630, 19) := by decide +kernel
theorem d156_19 : cod 156 19 = some (.i2l, 20) := by decide +kernel
theorem d156_20 : cod 156 20 = some (.invokestatic 488, 23) := by decide +kernel
theorem d156_23 : cod 156 23 = some (.lstore_n 3, 24) := by decide +kernel
theorem d156_24 : cod 156 24 = some (.iinc 5 1, 27) := by decide +kernel
theorem d156_27 : cod 156 27 = some (.goto (-22), 30) := by decide +kernel
theorem d156_30 : cod 156 30 = some (.iconst 0, 31) := by decide +kernel
theorem d156_31 : cod 156 31 = some (.istore 5, 33) := by decide +kernel
theorem d156_33 : cod 156 33 = some (.iload 5, 35) := by decide +kernel
theorem d156_35 : cod 156 35 = some (.aload_n 0, 36) := by decide +kernel
theorem d156_36 : cod 156 36 = some (.getfield 63, 39) := by decide +kernel
theorem d156_39 : cod 156 39 = some (.getfield 392, 42) := by decide +kernel
theorem d156_42 : cod 156 42 = some (.if_icmp .ge 35, 45) := by decide +kernel
theorem d156_45 : cod 156 45 = some (.lload_n 3, 46) := by decide +kernel
theorem d156_46 : cod 156 46 = some (.aload_n 0, 47) := by decide +kernel
theorem d156_47 : cod 156 47 = some (.iload 5, 49) := by decide +kernel
theorem d156_49 : cod 156 49 = some (.iconst 0, 50) := by decide +kernel
theorem d156_50 : cod 156 50 = some (.invokevirtual 633, 53) := by decide +kernel
theorem d156_53 : cod 156 53 = some (.i2l, 54) := by decide +kernel
theorem d156_54 : cod 156 54 = some (.invokestatic 488, 57) := by decide +kernel
theorem d156_57 : cod 156 57 = some (.lstore_n 3, 58) := by decide +kernel
theorem d156_58 : cod 156 58 = some (.lload_n 3, 59) := by decide +kernel
theorem d156_59 : cod 156 59 = some (.aload_n 0, 60) := by decide +kernel
theorem d156_60 : cod 156 60 = some (.iload 5, 62) := by decide +kernel
theorem d156_62 : cod 156 62 = some (.iconst 1, 63) := by decide +kernel
theorem d156_63 : cod 156 63 = some (.invokevirtual 633, 66) := by decide +kernel
theorem d156_66 : cod 156 66 = some (.i2l, 67) := by decide +kernel
theorem d156_67 : cod 156 67 = some (.invokestatic 488, 70) := by decide +kernel
theorem d156_70 : cod 156 70 = some (.lstore_n 3, 71) := by decide +kernel
theorem d156_71 : cod 156 71 = some (.iinc 5 1, 74) := by decide +kernel
theorem d156_74 : cod 156 74 = some (.goto (-41), 77) := by decide +kernel
theorem d156_77 : cod 156 77 = some (.lload_n 3, 78) := by decide +kernel
theorem d156_78 : cod 156 78 = some (.lreturn, 79) := by decide +kernel
theorem d157_0 : cod 157 0 = some (.iload_n 1, 1) := by decide +kernel
theorem d157_1 : cod 157 1 = some (.iconst 0, 2) := by decide +kernel
theorem d157_2 : cod 157 2 = some (.bipush 6, 4) := by decide +kernel
theorem d157_4 : cod 157 4 = some (.invokestatic 84, 7) := by decide +kernel
theorem d157_7 : cod 157 7 = some (.invokestatic 88, 10) := by decide +kernel
theorem d157_10 : cod 157 10 = some (.aload_n 0, 11) := by decide +kernel
theorem d157_11 : cod 157 11 = some (.getfield 63, 14) := by decide +kernel
theorem d157_14 : cod 157 14 = some (.aload_n 0, 15) := by decide +kernel
theorem d157_15 : cod 157 15 = some (.invokevirtual 412, 18) := by decide +kernel
theorem d157_18 : cod 157 18 = some (.invokevirtual 415, 21) := by decide +kernel
theorem d157_21 : cod 157 21 = some (.iload_n 1, 22) := by decide +kernel
theorem d157_22 : cod 157 22 = some (.tableswitch 86 0 5 #[38, 46, 54, 62, 70, 78], 60) := by decide +kernel
theorem d157_60 : cod 157 60 = some (.aload_n 0, 61) := by decide +kernel
theorem d157_61 : cod 157 61 = some (.getfield 63, 64) := by decide +kernel
theorem d157_64 : cod 157 64 = some (.invokevirtual 418, 67) := by decide +kernel
theorem d157_67 : cod 157 67 = some (.ireturn, 68) := by decide +kernel
theorem d157_68 : cod 157 68 = some (.aload_n 0, 69) := by decide +kernel
theorem d157_69 : cod 157 69 = some (.getfield 63, 72) := by decide +kernel
theorem d157_72 : cod 157 72 = some (.invokevirtual 421, 75) := by decide +kernel
theorem d157_75 : cod 157 75 = some (.ireturn, 76) := by decide +kernel
theorem d157_76 : cod 157 76 = some (.aload_n 0, 77) := by decide +kernel
theorem d157_77 : cod 157 77 = some (.getfield 63, 80) := by decide +kernel
theorem d157_80 : cod 157 80 = some (.invokevirtual 424, 83) := by decide +kernel
theorem d157_83 : cod 157 83 = some (.ireturn, 84) := by decide +kernel
theorem d157_84 : cod 157 84 = some (.aload_n 0, 85) := by decide +kernel
theorem d157_85 : cod 157 85 = some (.getfield 63, 88) := by decide +kernel
theorem d157_88 : cod 157 88 = some (.invokevirtual 427, 91) := by decide +kernel
theorem d157_91 : cod 157 91 = some (.ireturn, 92) := by decide +kernel
theorem d157_92 : cod 157 92 = some (.aload_n 0, 93) := by decide +kernel
theorem d157_93 : cod 157 93 = some (.getfield 63, 96) := by decide +kernel
theorem d157_96 : cod 157 96 = some (.invokevirtual 430, 99) := by decide +kernel
theorem d157_99 : cod 157 99 = some (.ireturn, 100) := by decide +kernel
theorem d157_100 : cod 157 100 = some (.aload_n 0, 101) := by decide +kernel
theorem d157_101 : cod 157 101 = some (.getfield 63, 104) := by decide +kernel
theorem d157_104 : cod 157 104 = some (.invokevirtual 433, 107) := by decide +kernel
theorem d157_107 : cod 157 107 = some (.ireturn, 108) := by decide +kernel
theorem d157_108 : cod 157 108 = some (.aload_n 0, 109) := by decide +kernel
theorem d157_109 : cod 157 109 = some (.getfield 63, 112) := by decide +kernel
theorem d157_112 : cod 157 112 = some (.getfield 392, 115) := by decide +kernel
theorem d157_115 : cod 157 115 = some (.ireturn, 116) := by decide +kernel
theorem d158_0 : cod 158 0 = some (.iconst 0, 1) := by decide +kernel
theorem d158_1 : cod 158 1 = some (.istore_n 1, 2) := by decide +kernel
theorem d158_2 : cod 158 2 = some (.iconst 0, 3) := by decide +kernel
theorem d158_3 : cod 158 3 = some (.istore_n 2, 4) := by decide +kernel
theorem d158_4 : cod 158 4 = some (.iload_n 2, 5) := by decide +kernel
theorem d158_5 : cod 158 5 = some (.aload_n 0, 6) := by decide +kernel
theorem d158_6 : cod 158 6 = some (.getfield 63, 9) := by decide +kernel
theorem d158_9 : cod 158 9 = some (.getfield 392, 12) := by decide +kernel
theorem d158_12 : cod 158 12 = some (.if_icmp .ge 66, 15) := by decide +kernel
theorem d158_15 : cod 158 15 = some (.aload_n 0, 16) := by decide +kernel
theorem d158_16 : cod 158 16 = some (.getfield 63, 19) := by decide +kernel
theorem d158_19 : cod 158 19 = some (.getfield 593, 22) := by decide +kernel
theorem d158_22 : cod 158 22 = some (.iload_n 2, 23) := by decide +kernel
theorem d158_23 : cod 158 23 = some (.iaload, 24) := by decide +kernel
theorem d158_24 : cod 158 24 = some (.istore_n 3, 25) := by decide +kernel
theorem d158_25 : cod 158 25 = some (.aload_n 0, 26) := by decide +kernel
theorem d158_26 : cod 158 26 = some (.getfield 63, 29) := by decide +kernel
theorem d158_29 : cod 158 29 = some (.getfield 595, 32) := by decide +kernel
theorem d158_32 : cod 158 32 = some (.iload_n 2, 33) := by decide +kernel
theorem d158_33 : cod 158 33 = some (.baload, 34) := by decide +kernel
theorem d158_34 : cod 158 34 = some (.ifCond .eq 24, 37) := by decide +kernel
theorem d158_37 : cod 158 37 = some (.aload_n 0, 38) := by decide +kernel
theorem d158_38 : cod 158 38 = some (.aload_n 0, 39) := by decide +kernel
theorem d158_39 : cod 158 39 = some (.getfield 43, 42) := by decide +kernel
theorem d158_42 : cod 158 42 = some (.iload_n 3, 43) := by decide +kernel
theorem d158_43 : cod 158 43 = some (.invokevirtual 132, 46) := by decide +kernel
theorem d158_46 : cod 158 46 = some (.checkcast 298, 49) := by decide +kernel
theorem d158_49 : cod 158 49 = some (.invokevirtual 334, 52) := by decide +kernel
theorem d158_52 : cod 158 52 = some (.ifCond .eq 20, 55) := by decide +kernel
theorem d158_55 : cod 158 55 = some (.goto 11, 58) := by decide +kernel
theorem d158_58 : cod 158 58 = some (.aload_n 0, 59) := by decide +kernel
theorem d158_59 : cod 158 59 = some (.iload_n 3, 60) := by decide +kernel
theorem d158_60 : cod 158 60 = some (.invokevirtual 547, 63) := by decide +kernel
theorem d158_63 : cod 158 63 = some (.ifCond .eq 9, 66) := by decide +kernel
theorem d158_66 : cod 158 66 = some (.iload_n 1, 67) := by decide +kernel
theorem d158_67 : cod 158 67 = some (.iconst 1, 68) := by decide +kernel
theorem d158_68 : cod 158 68 = some (.iload_n 2, 69) := by decide +kernel
theorem d158_69 : cod 158 69 = some (.ishl, 70) := by decide +kernel
theorem d158_70 : cod 158 70 = some (.ior, 71) := by decide +kernel
theorem d158_71 : cod 158 71 = some (.istore_n 1, 72) := by decide +kernel
theorem d158_72 : cod 158 72 = some (.iinc 2 1, 75) := by decide +kernel
theorem d158_75 : cod 158 75 = some (.goto (-71), 78) := by decide +kernel
theorem d158_78 : cod 158 78 = some (.iload_n 1, 79) := by decide +kernel
theorem d158_79 : cod 158 79 = some (.ireturn, 80) := by decide +kernel
theorem d159_0 : cod 159 0 = some (.iload_n 1, 1) := by decide +kernel
theorem d159_1 : cod 159 1 = some (.iconst 0, 2) := by decide +kernel
theorem d159_2 : cod 159 2 = some (.aload_n 0, 3) := by decide +kernel
theorem d159_3 : cod 159 3 = some (.getfield 63, 6) := by decide +kernel
theorem d159_6 : cod 159 6 = some (.getfield 392, 9) := by decide +kernel
theorem d159_9 : cod 159 9 = some (.iconst 1, 10) := by decide +kernel
theorem d159_10 : cod 159 10 = some (.isub, 11) := by decide +kernel
theorem d159_11 : cod 159 11 = some (.invokestatic 84, 14) := by decide +kernel
theorem d159_14 : cod 159 14 = some (.invokestatic 112, 17) := by decide +kernel
theorem d159_17 : cod 159 17 = some (.aload_n 0, 18) := by decide +kernel
theorem d159_18 : cod 159 18 = some (.getfield 63, 21) := by decide +kernel
theorem d159_21 : cod 159 21 = some (.aload_n 0, 22) := by decide +kernel
theorem d159_22 : cod 159 22 = some (.invokevirtual 412, 25) := by decide +kernel
theorem d159_25 : cod 159 25 = some (.invokevirtual 415, 28) := by decide +kernel
theorem d159_28 : cod 159 28 = some (.iload_n 2, 29) := by decide +kernel
theorem d159_29 : cod 159 29 = some (.ifCond .eq 14, 32) := by decide +kernel
theorem d159_32 : cod 159 32 = some (.aload_n 0, 33) := by decide +kernel
theorem d159_33 : cod 159 33 = some (.getfield 63, 36) := by decide +kernel
theorem d159_36 : cod 159 36 = some (.iload_n 1, 37) := by decide +kernel
theorem d159_37 : cod 159 37 = some (.invokevirtual 436, 40) := by decide +kernel
theorem d159_40 : cod 159 40 = some (.goto 11, 43) := by decide +kernel
theorem d159_43 : cod 159 43 = some (.aload_n 0, 44) := by decide +kernel
theorem d159_44 : cod 159 44 = some (.getfield 63, 47) := by decide +kernel
theorem d159_47 : cod 159 47 = some (.iload_n 1, 48) := by decide +kernel
theorem d159_48 : cod 159 48 = some (.invokevirtual 439, 51) := by decide +kernel
theorem d159_51 : cod 159 51 = some (.ireturn, 52) := by decide +kernel
theorem d160_0 : cod 160 0 = some (.iload_n 1, 1) := by decide +kernel
theorem d160_1 : cod 160 1 = some (.iconst 0, 2) := by decide +kernel
theorem d160_2 : cod 160 2 = some (.bipush 40, 4) := by decide +kernel
theorem d160_4 : cod 160 4 = some (.invokestatic 84, 7) := by decide +kernel
theorem d160_7 : cod 160 7 = some (.invokestatic 88, 10) := by decide +kernel
theorem d160_10 : cod 160 10 = some (.aload_n 0, 11) := by decide +kernel
theorem d160_11 : cod 160 11 = some (.iload_n 1, 12) := by decide +kernel
theorem d160_12 : cod 160 12 = some (.invokevirtual 471, 15) := by decide +kernel
theorem d160_15 : cod 160 15 = some (.istore_n 3, 16) := by decide +kernel
theorem d160_16 : cod 160 16 = some (.iload_n 2, 17) := by decide +kernel
theorem d160_17 : cod 160 17 = some (.ifCond .eq 7, 20) := by decide +kernel
theorem d160_20 : cod 160 20 = some (.iload_n 3, 21) := by decide +kernel
theorem d160_21 : cod 160 21 = some (.goto 9, 24) := by decide +kernel
theorem d160_24 : cod 160 24 = some (.aload_n 0, 25) := by decide +kernel
theorem d160_25 : cod 160 25 = some (.getfield 81, 28) := by decide +kernel
theorem d160_28 : cod 160 28 = some (.iload_n 3, 29) := by decide +kernel
theorem d160_29 : cod 160 29 = some (.iaload, 30) := by decide +kernel
theorem d160_30 : cod 160 30 = some (.ireturn, 31) := by decide +kernel
theorem d161_0 : cod 161 0 = some (.iconst 0, 1) := by decide +kernel
theorem d161_1 : cod 161 1 = some (.istore_n 2, 2) := by decide +kernel
theorem d161_2 : cod 161 2 = some (.aload_n 0, 3) := by decide +kernel
theorem d161_3 : cod 161 3 = some (.getfield 78, 6) := by decide +kernel
theorem d161_6 : cod 161 6 = some (.iconst 0, 7) := by decide +kernel
theorem d161_7 : cod 161 7 = some (.iconst 0, 8) := by decide +kernel
theorem d161_8 : cod 161 8 = some (.iastore, 9) := by decide +kernel
theorem d161_9 : cod 161 9 = some (.aload_n 0, 10) := by decide +kernel
theorem d161_10 : cod 161 10 = some (.getfield 81, 13) := by decide +kernel
theorem d161_13 : cod 161 13 = some (.iconst 0, 14) := by decide +kernel
theorem d161_14 : cod 161 14 = some (.iconst 0, 15) := by decide +kernel
theorem d161_15 : cod 161 15 = some (.iastore, 16) := by decide +kernel
theorem d161_16 : cod 161 16 = some (.iconst 0, 17) := by decide +kernel
theorem d161_17 : cod 161 17 = some (.istore_n 3, 18) := by decide +kernel
theorem d161_18 : cod 161 18 = some (.iload_n 3, 19) := by decide +kernel
theorem d161_19 : cod 161 19 = some (.aload_n 0, 20) := by decide +kernel
theorem d161_20 : cod 161 20 = some (.getfield 19, 23) := by decide +kernel
theorem d161_23 : cod 161 23 = some (.invokevirtual 129, 26) := by decide +kernel
theorem d161_26 : cod 161 26 = some (.if_icmp .ge 164, 29) := by decide +kernel
theorem d161_29 : cod 161 29 = some (.aload_n 0, 30) := by decide +kernel
theorem d161_30 : cod 161 30 = some (.getfield 19, 33) := by decide +kernel
theorem d161_33 : cod 161 33 = some (.iload_n 3, 34) := by decide +kernel
theorem d161_34 : cod 161 34 = some (.invokevirtual 132, 37) := by decide +kernel
theorem d161_37 : cod 161 37 = some (.checkcast 136, 40) := by decide +kernel
theorem d161_40 : cod 161 40 = some (.astore 4, 42) := by decide +kernel
theorem d161_42 : cod 161 42 = some (.aload_n 0, 43) := by decide +kernel
theorem d161_43 : cod 161 43 = some (.aload 4, 45) := by decide +kernel
theorem d161_45 : cod 161 45 = some (.invokevirtual 236, 48) := by decide +kernel
theorem d161_48 : cod 161 48 = some (.istore 5, 50) := by decide +kernel
theorem d161_50 : cod 161 50 = some (.aload_n 0, 51) := by decide +kernel
theorem d161_51 : cod 161 51 = some (.aload 4, 53) := by decide +kernel
theorem d161_53 : cod 161 53 = some (.invokevirtual 468, 56) := by decide +kernel
theorem d161_56 : cod 161 56 = some (.istore 6, 58) := by decide +kernel
theorem d161_58 : cod 161 58 = some (.iconst 0, 59) := by decide +kernel
theorem d161_59 : cod 161 59 = some (.istore 7, 61) := by decide +kernel
theorem d161_61 : cod 161 61 = some (.iload 7, 63) := by decide +kernel
theorem d161_63 : cod 161 63 = some (.iconst 1, 64) := by decide +kernel
theorem d161_64 : cod 161 64 = some (.iload_n 3, 65) := by decide +kernel
theorem d161_65 : cod 161 65 = some (.ishl, 66) := by decide +kernel
theorem d161_66 : cod 161 66 = some (.if_icmp .ge 118, 69) := by decide +kernel
theorem d161_69 : cod 161 69 = some (.iload 7, 71) := by decide +kernel
theorem d161_71 : cod 161 71 = some (.iconst 1, 72) := by decide +kernel
theorem d161_72 : cod 161 72 = some (.iload_n 3, 73) := by decide +kernel
theorem d161_73 : cod 161 73 = some (.ishl, 74) := by decide +kernel
theorem d161_74 : cod 161 74 = some (.ior, 75) := by decide +kernel
theorem d161_75 : cod 161 75 = some (.istore 8, 77) := by decide +kernel
theorem d161_77 : cod 161 77 = some (.aload_n 0, 78) := by decide +kernel
theorem d161_78 : cod 161 78 = some (.getfield 78, 81) := by decide +kernel
theorem d161_81 : cod 161 81 = some (.iload 8, 83) := by decide +kernel
theorem d161_83 : cod 161 83 = some (.aload_n 0, 84) := by decide +kernel
theorem d161_84 : cod 161 84 = some (.getfield 78, 87) := by decide +kernel
theorem d161_87 : cod 161 87 = some (.iload 7, 89) := by decide +kernel
theorem d161_89 : cod 161 89 = some (.iaload, 90) := by decide +kernel
theorem d161_90 : cod 161 90 = some (.aload 4, 92) := by decide +kernel
theorem d161_92 : cod 161 92 = some (.invokevirtual 176, 95) := by decide +kernel
theorem d161_95 : cod 161 95 = some (.iadd, 96) := by decide +kernel
theorem d161_96 : cod 161 96 = some (.iastore, 97) := by decide +kernel
theorem d161_97 : cod 161 97 = some (.aload_n 0, 98) := by decide +kernel
theorem d161_98 : cod 161 98 = some (.getfield 81, 101) := by decide +kernel
theorem d161_101 : cod 161 101 = some (.iload 7, 103) := by decide +kernel
theorem d161_103 : cod 161 103 = some (.iaload, 104) := by decide +kernel
theorem d161_104 : cod 161 104 = some (.ifCond .lt 26, 107) := by decide +kernel
theorem d161_107 : cod 161 107 = some (.iload 7, 109) := by decide +kernel
theorem d161_109 : cod 161 109 = some (.iload 5, 111) := by decide +kernel
theorem d161_111 : cod 161 111 = some (.iand, 112) := by decide +kernel
theorem d161_112 : cod 161 112 = some (.ifCond .ne 18, 115) := by decide +kernel
theorem d161_115 : cod 161 115 = some (.aload_n 0, 116) := by decide +kernel
theorem d161_116 : cod 161 116 = some (.getfield 78, 119) := by decide +kernel
theorem d161_119 : cod 161 119 = some (.iload 8, 121) := by decide +kernel
theorem d161_121 : cod 161 121 = some (.iaload, 122) := by decide +kernel
theorem d161_122 : cod 161 122 = some (.iload_n 1, 123) := by decide +kernel
theorem d161_123 : cod 161 123 = some (.if_icmp .gt 7, 126) := by decide +kernel
theorem d161_126 : cod 161 126 = some (.iconst 1, 127) := by decide +kernel
theorem d161_127 : cod 161 127 = some (.goto 4, 130) := by decide +kernel
theorem d161_130 : cod 161 130 = some (.iconst 0, 131) := by decide +kernel
theorem d161_131 : cod 161 131 = some (.istore 9, 133) := by decide +kernel
theorem d161_133 : cod 161 133 = some (.aload_n 0, 134) := by decide +kernel
theorem d161_134 : cod 161 134 = some (.getfield 81, 137) := by decide +kernel
theorem d161_137 : cod 161 137 = some (.iload 8, 139) := by decide +kernel
theorem d161_139 : cod 161 139 = some (.iload 9, 141) := by decide +kernel
theorem d161_141 : cod 161 141 = some (.ifCond .eq 16, 144) := by decide +kernel
theorem d161_144 : cod 161 144 = some (.aload_n 0, 145) := by decide +kernel
theorem d161_145 : cod 161 145 = some (.getfield 81, 148) := by decide +kernel
theorem d161_148 : cod 161 148 = some (.iload 7, 150) := by decide +kernel
theorem d161_150 : cod 161 150 = some (.iaload, 151) := by decide +kernel
theorem d161_151 : cod 161 151 = some (.iload 6, 153) := by decide +kernel
theorem d161_153 : cod 161 153 = some (.iadd, 154) := by decide +kernel
theorem d161_154 : cod 161 154 = some (.goto 4, 157) := by decide +kernel
theorem d161_157 : cod 161 157 = some (.iconst (-1), 158) := by decide +kernel
theorem d161_158 : cod 161 158 = some (.iastore, 159) := by decide +kernel
theorem d161_159 : cod 161 159 = some (.aload_n 0, 160) := by decide +kernel
theorem d161_160 : cod 161 160 = some (.getfield 81, 163) := by decide +kernel
theorem d161_163 : cod 161 163 = some (.iload 8, 165) := by decide +kernel
theorem d161_165 : cod 161 165 = some (.iaload, 166) := by decide +kernel
theorem d161_166 : cod 161 166 = some (.aload_n 0, 167) := by decide +kernel
theorem d161_167 : cod 161 167 = some (.getfield 81, 170) := by decide +kernel
theorem d161_170 : cod 161 170 = some (.iload_n 2, 171) := by decide +kernel
theorem d161_171 : cod 161 171 = some (.iaload, 172) := by decide +kernel
theorem d161_172 : cod 161 172 = some (.if_icmp .le 6, 175) := by decide +kernel
theorem d161_175 : cod 161 175 = some (.iload 8, 177) := by decide +kernel
theorem d161_177 : cod 161 177 = some (.istore_n 2, 178) := by decide +kernel
theorem d161_178 : cod 161 178 = some (.iinc 7 1, 181) := by decide +kernel
theorem d161_181 : cod 161 181 = some (.goto (-120), 184) := by decide +kernel
theorem d161_184 : cod 161 184 = some (.iinc 3 1, 187) := by decide +kernel
theorem d161_187 : cod 161 187 = some (.goto (-169), 190) := by decide +kernel
theorem d161_190 : cod 161 190 = some (.iload_n 2, 191) := by decide +kernel
theorem d161_191 : cod 161 191 = some (.ireturn, 192) := by decide +kernel
theorem d162_0 : cod 162 0 = some (.aload_n 0, 1) := by decide +kernel
theorem d162_1 : cod 162 1 = some (.getfield 63, 4) := by decide +kernel
theorem d162_4 : cod 162 4 = some (.aload_n 0, 5) := by decide +kernel
theorem d162_5 : cod 162 5 = some (.invokevirtual 412, 8) := by decide +kernel
theorem d162_8 : cod 162 8 = some (.invokevirtual 415, 11) := by decide +kernel
theorem d162_11 : cod 162 11 = some (.aload_n 0, 12) := by decide +kernel
theorem d162_12 : cod 162 12 = some (.invokevirtual 474, 15) := by decide +kernel
theorem d162_15 : cod 162 15 = some (.ifCond .eq 44, 18) := by decide +kernel
theorem d162_18 : cod 162 18 = some (.aload_n 0, 19) := by decide +kernel
theorem d162_19 : cod 162 19 = some (.invokevirtual 477, 22) := by decide +kernel
theorem d162_22 : cod 162 22 = some (.ifCond .eq 37, 25) := by decide +kernel
theorem d162_25 : cod 162 25 = some (.aload_n 0, 26) := by decide +kernel
theorem d162_26 : cod 162 26 = some (.getfield 63, 29) := by decide +kernel
theorem d162_29 : cod 162 29 = some (.invokevirtual 480, 32) := by decide +kernel
theorem d162_32 : cod 162 32 = some (.ifCond .eq 27, 35) := by decide +kernel
theorem d162_35 : cod 162 35 = some (.aload_n 0, 36) := by decide +kernel
theorem d162_36 : cod 162 36 = some (.getfield 63, 39) := by decide +kernel
theorem d162_39 : cod 162 39 = some (.invokevirtual 430, 42) := by decide +kernel
theorem d162_42 : cod 162 42 = some (.ifCond .lt 17, 45) := by decide +kernel
theorem d162_45 : cod 162 45 = some (.aload_n 0, 46) := by decide +kernel
theorem d162_46 : cod 162 46 = some (.getfield 56, 49) := by decide +kernel
theorem d162_49 : cod 162 49 = some (.invokevirtual 483, 52) := by decide +kernel
theorem d162_52 : cod 162 52 = some (.ifCond .eq 7, 55) := by decide +kernel
theorem d162_55 : cod 162 55 = some (.iconst 1, 56) := by decide +kernel
theorem d162_56 : cod 162 56 = some (.goto 4, 59) := by decide +kernel
theorem d162_59 : cod 162 59 = some (.iconst 0, 60) := by decide +kernel
theorem d162_60 : cod 162 60 = some (.ireturn, 61) := by decide +kernel
theorem d163_0 : cod 163 0 = some (.iconst 0, 1) := by decide +kernel
theorem d163_1 : cod 163 1 = some (.istore_n 1, 2) := by decide +kernel
theorem d163_2 : cod 163 2 = some (.iload_n 1, 3) := by decide +kernel
theorem d163_3 : cod 163 3 = some (.aload_n 0, 4) := by decide +kernel
theorem d163_4 : cod 163 4 = some (.getfield 19, 7) := by decide +kernel
theorem d163_7 : cod 163 7 = some (.invokevirtual 129, 10) := by decide +kernel
theorem d163_10 : cod 163 10 = some (.if_icmp .ge 57, 13) := by decide +kernel
theorem d163_13 : cod 163 13 = some (.aload_n 0, 14) := by decide +kernel
theorem d163_14 : cod 163 14 = some (.getfield 19, 17) := by decide +kernel
theorem d163_17 : cod 163 17 = some (.iload_n 1, 18) := by decide +kernel
theorem d163_18 : cod 163 18 = some (.invokevirtual 132, 21) := by decide +kernel
theorem d163_21 : cod 163 21 = some (.checkcast 136, 24) := by decide +kernel
theorem d163_24 : cod 163 24 = some (.astore_n 2, 25) := by decide +kernel
theorem d163_25 : cod 163 25 = some (.aload_n 0, 26) := by decide +kernel
theorem d163_26 : cod 163 26 = some (.aload_n 2, 27) := by decide +kernel
theorem d163_27 : cod 163 27 = some (.invokevirtual 233, 30) := by decide +kernel
theorem d163_30 : cod 163 30 = some (.istore_n 3, 31) := by decide +kernel
theorem d163_31 : cod 163 31 = some (.iload_n 3, 32) := by decide +kernel
theorem d163_32 : cod 163 32 = some (.iconst (-1), 33) := by decide +kernel
theorem d163_33 : cod 163 33 = some (.if_icmp .eq 28, 36) := by decide +kernel
theorem d163_36 : cod 163 36 = some (.iload_n 3, 37) := by decide +kernel
theorem d163_37 : cod 163 37 = some (.aload_n 2, 38) := by decide +kernel
theorem d163_38 : cod 163 38 = some (.aload_n 0, 39) := by decide +kernel
theorem d163_39 : cod 163 39 = some (.getfield 25, 42) := by decide +kernel
theorem d163_42 : cod 163 42 = some (.aload_n 2, 43) := by decide +kernel
theorem d163_43 : cod 163 43 = some (.getfield 186, 46) := by decide +kernel
theorem d163_46 : cod 163 46 = some (.aaload, 47) := by decide +kernel
theorem d163_47 : cod 163 47 = some (.getfield 209, 50) := by decide +kernel
theorem d163_50 : cod 163 50 = some (.invokevirtual 544, 53) := by decide +kernel
theorem d163_53 : cod 163 53 = some (.invokestatic 203, 56) := by decide +kernel
theorem d163_56 : cod 163 56 = some (.ifCond .ne 5, 59) := by decide +kernel
theorem d163_59 : cod 163 59 = some (.iconst 0, 60) := by decide +kernel
theorem d163_60 : cod 163 60 = some (.ireturn, 61) := by decide +kernel
theorem d163_61 : cod 163 61 = some (.iinc 1 1, 64) := by decide +kernel
theorem d163_64 : cod 163 64 = some (.goto (-62), 67) := by decide +kernel
theorem d163_67 : cod 163 67 = some (.iconst 1, 68) := by decide +kernel
theorem d163_68 : cod 163 68 = some (.ireturn, 69) := by decide +kernel
theorem d164_0 : cod 164 0 = some (.iconst 0, 1) := by decide +kernel
theorem d164_1 : cod 164 1 = some (.istore_n 1, 2) := by decide +kernel
theorem d164_2 : cod 164 2 = some (.iconst 0, 3) := by decide +kernel
theorem d164_3 : cod 164 3 = some (.istore_n 2, 4) := by decide +kernel
theorem d164_4 : cod 164 4 = some (.iload_n 2, 5) := by decide +kernel
theorem d164_5 : cod 164 5 = some (.aload_n 0, 6) := by decide +kernel
theorem d164_6 : cod 164 6 = some (.getfield 40, 9) := by decide +kernel
theorem d164_9 : cod 164 9 = some (.invokevirtual 129, 12) := by decide +kernel
theorem d164_12 : cod 164 12 = some (.if_icmp .ge 17, 15) := by decide +kernel
theorem d164_15 : cod 164 15 = some (.iload_n 1, 16) := by decide +kernel
theorem d164_16 : cod 164 16 = some (.aload_n 0, 17) := by decide +kernel
theorem d164_17 : cod 164 17 = some (.iload_n 2, 18) := by decide +kernel
theorem d164_18 : cod 164 18 = some (.invokevirtual 341, 21) := by decide +kernel
theorem d164_21 : cod 164 21 = some (.iadd, 22) := by decide +kernel
theorem d164_22 : cod 164 22 = some (.istore_n 1, 23) := by decide +kernel
theorem d164_23 : cod 164 23 = some (.iinc 2 1, 26) := by decide +kernel
theorem d164_26 : cod 164 26 = some (.goto (-22), 29) := by decide +kernel
theorem d164_29 : cod 164 29 = some (.iconst 0, 30) := by decide +kernel
theorem d164_30 : cod 164 30 = some (.istore_n 2, 31) := by decide +kernel
theorem d164_31 : cod 164 31 = some (.iconst 0, 32) := by decide +kernel
theorem d164_32 : cod 164 32 = some (.istore_n 3, 33) := by decide +kernel
theorem d164_33 : cod 164 33 = some (.iload_n 3, 34) := by decide +kernel
theorem d164_34 : cod 164 34 = some (.aload_n 0, 35) := by decide +kernel
theorem d164_35 : cod 164 35 = some (.getfield 43, 38) := by decide +kernel
theorem d164_38 : cod 164 38 = some (.invokevirtual 129, 41) := by decide +kernel
theorem d164_41 : cod 164 41 = some (.if_icmp .ge 30, 44) := by decide +kernel
theorem d164_44 : cod 164 44 = some (.aload_n 0, 45) := by decide +kernel
theorem d164_45 : cod 164 45 = some (.aload_n 0, 46) := by decide +kernel
theorem d164_46 : cod 164 46 = some (.getfield 43, 49) := by decide +kernel
theorem d164_49 : cod 164 49 = some (.iload_n 3, 50) := by decide +kernel
theorem d164_50 : cod 164 50 = some (.invokevirtual 132, 53) := by decide +kernel
theorem d164_53 : cod 164 53 = some (.checkcast 298, 56) := by decide +kernel
theorem d164_56 : cod 164 56 = some (.invokevirtual 334, 59) := by decide +kernel
theorem d164_59 : cod 164 59 = some (.ifCond .ne 6, 62) := by decide +kernel
theorem d164_62 : cod 164 62 = some (.iinc 2 1, 65) := by decide +kernel
theorem d164_65 : cod 164 65 = some (.iinc 3 1, 68) := by decide +kernel
theorem d164_68 : cod 164 68 = some (.goto (-35), 71) := by decide +kernel
theorem d164_71 : cod 164 71 = some (.iload_n 1, 72) := by decide +kernel
theorem d164_72 : cod 164 72 = some (.iload_n 2, 73) := by decide +kernel
theorem d164_73 : cod 164 73 = some (.if_icmp .ne 7, 76) := by decide +kernel
theorem d164_76 : cod 164 76 = some (.iconst 1, 77) := by decide +kernel
theorem d164_77 : cod 164 77 = some (.goto 4, 80) := by decide +kernel
theorem d164_80 : cod 164 80 = some (.iconst 0, 81) := by decide +kernel
theorem d164_81 : cod 164 81 = some (.ireturn, 82) := by decide +kernel
theorem d165_0 : cod 165 0 = some (.aload_n 0, 1) := by decide +kernel
theorem d165_1 : cod 165 1 = some (.invokespecial 1, 4) := by decide +kernel
theorem d165_4 : cod 165 4 = some (.aload_n 0, 5) := by decide +kernel
theorem d165_5 : cod 165 5 = some (.getstatic 39, 8) := by decide +kernel
theorem d165_8 : cod 165 8 = some (.putfield 9, 11) := by decide +kernel
theorem d165_11 : cod 165 11 = some (.return_, 12) := by decide +kernel
theorem d166_0 : cod 166 0 = some (.aload_n 0, 1) := by decide +kernel
theorem d166_1 : cod 166 1 = some (.dup, 2) := by decide +kernel
theorem d166_2 : cod 166 2 = some (.getfield 63, 5) := by decide +kernel
theorem d166_5 : cod 166 5 = some (.iconst 1, 6) := by decide +kernel
theorem d166_6 : cod 166 6 = some (.iadd, 7) := by decide +kernel
theorem d166_7 : cod 166 7 = some (.putfield 63, 10) := by decide +kernel
theorem d166_10 : cod 166 10 = some (.aload_n 0, 11) := by decide +kernel
theorem d166_11 : cod 166 11 = some (.getfield 9, 14) := by decide +kernel
theorem d166_14 : cod 166 14 = some (.astore_n 1, 15) := by decide +kernel
theorem d166_15 : cod 166 15 = some (.aload_n 0, 16) := by decide +kernel
theorem d166_16 : cod 166 16 = some (.getfield 48, 19) := by decide +kernel
theorem d166_19 : cod 166 19 = some (.istore_n 2, 20) := by decide +kernel
theorem d166_20 : cod 166 20 = some (.aload_n 0, 21) := by decide +kernel
theorem d166_21 : cod 166 21 = some (.iconst 0, 22) := by decide +kernel
theorem d166_22 : cod 166 22 = some (.dup_x1, 23) := by decide +kernel
theorem d166_23 : cod 166 23 = some (.putfield 48, 26) := by decide +kernel
theorem d166_26 : cod 166 26 = some (.istore_n 3, 27) := by decide +kernel
theorem d166_27 : cod 166 27 = some (.iload_n 3, 28) := by decide +kernel
theorem d166_28 : cod 166 28 = some (.iload_n 2, 29) := by decide +kernel
theorem d166_29 : cod 166 29 = some (.if_icmp .ge 13, 32) := by decide +kernel
theorem d166_32 : cod 166 32 = some (.aload_n 1, 33) := by decide +kernel
theorem d166_33 : cod 166 33 = some (.iload_n 3, 34) := by decide +kernel
theorem d166_34 : cod 166 34 = some (.aconst_null, 35) := by decide +kernel
theorem d166_35 : cod 166 35 = some (.aastore, 36) := by decide +kernel
theorem d166_36 : cod 166 36 = some (.iinc 3 1, 39) := by decide +kernel
theorem d166_39 : cod 166 39 = some (.goto (-12), 42) := by decide +kernel
theorem d166_42 : cod 166 42 = some (.return_, 43) := by decide +kernel
theorem d167_0 : cod 167 0 = some (.aload_n 0, 1) := by decide +kernel
theorem d167_1 : cod 167 1 = some (.getfield 48, 4) := by decide +kernel
theorem d167_4 : cod 167 4 = some (.ifCond .ne 7, 7) := by decide +kernel
theorem d167_7 : cod 167 7 = some (.iconst 1, 8) := by decide +kernel
theorem d167_8 : cod 167 8 = some (.goto 4, 11) := by decide +kernel
theorem d167_11 : cod 167 11 = some (.iconst 0, 12) := by decide +kernel
theorem d167_12 : cod 167 12 = some (.ireturn, 13) := by decide +kernel
theorem d168_0 : cod 168 0 = some (.aload_n 0, 1) := by decide +kernel
theorem d168_1 : cod 168 1 = some (.getfield 48, 4) := by decide +kernel
theorem d168_4 : cod 168 4 = some (.ireturn, 5) := by decide +kernel
theorem d169_0 : cod 169 0 = some (.aload_n 0, 1) := by decide +kernel
theorem d169_1 : cod 169 1 = some (.dup, 2) := by decide +kernel
theorem d169_2 : cod 169 2 = some (.getfield 63, 5) := by decide +kernel
theorem d169_5 : cod 169 5 = some (.iconst 1, 6) := by decide +kernel
theorem d169_6 : cod 169 6 = some (.iadd, 7) := by decide +kernel
theorem d169_7 : cod 169 7 = some (.putfield 63, 10) := by decide +kernel
theorem d169_10 : cod 169 10 = some (.aload_n 0, 11) := by decide +kernel
theorem d169_11 : cod 169 11 = some (.aload_n 1, 12) := by decide +kernel
theorem d169_12 : cod 169 12 = some (.aload_n 0, 13) := by decide +kernel
theorem d169_13 : cod 169 13 = some (.getfield 9, 16) := by decide +kernel
theorem d169_16 : cod 169 16 = some (.aload_n 0, 17) := by decide +kernel
theorem d169_17 : cod 169 17 = some (.getfield 48, 20) := by decide +kernel
theorem d169_20 : cod 169 20 = some (.invokevirtual 131, 23) := by decide +kernel
theorem d169_23 : cod 169 23 = some (.iconst 1, 24) := by decide +kernel
theorem d169_24 : cod 169 24 = some (.ireturn, 25) := by decide +kernel
theorem d170_0 : cod 170 0 = some (.iload_n 3, 1) := by decide +kernel
theorem d170_1 : cod 170 1 = some (.aload_n 2, 2) := by decide +kernel
theorem d170_2 : cod 170 2 = some (.arraylength, 3) := by decide +kernel
theorem d170_3 : cod 170 3 = some (.if_icmp .ne 8, 6) := by decide +kernel
theorem d170_6 : cod 170 6 = some (.aload_n 0, 7) := by decide +kernel
theorem d170_7 : cod 170 7 = some (.invokevirtual 129, 10) := by decide +kernel
theorem d170_10 : cod 170 10 = some (.astore_n 2, 11) := by decide +kernel
theorem d170_11 : cod 170 11 = some (.aload_n 2, 12) := by decide +kernel
theorem d170_12 : cod 170 12 = some (.iload_n 3, 13) := by decide +kernel
theorem d170_13 : cod 170 13 = some (.aload_n 1, 14) := by decide +kernel
theorem d170_14 : cod 170 14 = some (.aastore, 15) := by decide +kernel
theorem d170_15 : cod 170 15 = some (.aload_n 0, 16) := by decide +kernel
theorem d170_16 : cod 170 16 = some (.iload_n 3, 17) := by decide +kernel
theorem d170_17 : cod 170 17 = some (.iconst 1, 18) := by decide +kernel
theorem d170_18 : cod 170 18 = some (.iadd, 19) := by decide +kernel
theorem d170_19 : cod 170 19 = some (.putfield 48, 22) := by decide +kernel
theorem d170_22 : cod 170 22 = some (.return_, 23) := by decide +kernel
theorem d171_0 : cod 171 0 = some (.aload_n 0, 1) := by decide +kernel
theorem d171_1 : cod 171 1 = some (.aload_n 0, 2) := by decide +kernel
theorem d171_2 : cod 171 2 = some (.getfield 48, 5) := by decide +kernel
theorem d171_5 : cod 171 5 = some (.iconst 1, 6) := by decide +kernel
theorem d171_6 : cod 171 6 = some (.iadd, 7) := by decide +kernel
theorem d171_7 : cod 171 7 = some (.invokevirtual 69, 10) := by decide +kernel
theorem d171_10 : cod 171 10 = some (.areturn, 11) := by decide +kernel
theorem d172_0 : cod 172 0 = some (.aload_n 0, 1) := by decide +kernel
theorem d172_1 : cod 172 1 = some (.getfield 9, 4) := by decide +kernel
theorem d172_4 : cod 172 4 = some (.arraylength, 5) := by decide +kernel
theorem d172_5 : cod 172 5 = some (.istore_n 2, 6) := by decide +kernel
theorem d172_6 : cod 172 6 = some (.iload_n 2, 7) := by decide +kernel
theorem d172_7 : cod 172 7 = some (.ifCond .gt 13, 10) := by decide +kernel
theorem d172_10 : cod 172 10 = some (.aload_n 0, 11) := by decide +kernel
theorem d172_11 : cod 172 11 = some (.getfield 9, 14) := by decide +kernel
theorem d172_14 : cod 172 14 = some (.getstatic 39, 17) := by decide +kernel
theorem d172_17 : cod 172 17 = some (.if_acmp .eq 28, 20) := by decide +kernel
theorem d172_20 : cod 172 20 = some (.iload_n 2, 21) := by decide +kernel
theorem d172_21 : cod 172 21 = some (.iload_n 1, 22) := by decide +kernel
theorem d172_22 : cod 172 22 = some (.iload_n 2, 23) := by decide +kernel
theorem d172_23 : cod 172 23 = some (.isub, 24) := by decide +kernel
theorem d172_24 : cod 172 24 = some (.iload_n 2, 25) := by decide +kernel
theorem d172_25 : cod 172 25 = some (.iconst 1, 26) := by decide +kernel
theorem d172_26 : cod 172 26 = some (.ishr, 27) := by decide +kernel
theorem d172_27 : cod 172 27 = some (.invokestatic 73, 30) := by decide +kernel
theorem d172_30 : cod 172 30 = some (.istore_n 3, 31) := by decide +kernel
theorem d172_31 : cod 172 31 = some (.aload_n 0, 32) := by decide +kernel
theorem d172_32 : cod 172 32 = some (.aload_n 0, 33) := by decide +kernel
theorem d172_33 : cod 172 33 = some (.getfield 9, 36) := by decide +kernel
theorem d172_36 : cod 172 36 = some (.iload_n 3, 37) := by decide +kernel
theorem d172_37 : cod 172 37 = some (.invokestatic 66, 40) := by decide +kernel
theorem d172_40 : cod 172 40 = some (.dup_x1, 41) := by decide +kernel
theorem d172_41 : cod 172 41 = some (.putfield 9, 44) := by decide +kernel
theorem d172_44 : cod 172 44 = some (.areturn, 45) := by decide +kernel
theorem d172_45 : cod 172 45 = some (.aload_n 0, 46) := by decide +kernel
theorem d172_46 : cod 172 46 = some (.bipush 10, 48) := by decide +kernel
theorem d172_48 : cod 172 48 = some (.iload_n 1, 49) := by decide +kernel
theorem d172_49 : cod 172 49 = some (.invokestatic 79, 52) := by decide +kernel
theorem d172_52 : cod 172 52 = some (.anewarray 7, 55) := by decide +kernel
theorem d172_55 : cod 172 55 = some (.dup_x1, 56) := by decide +kernel
theorem d172_56 : cod 172 56 = some (.putfield 9, 59) := by decide +kernel
theorem d172_59 : cod 172 59 = some (.areturn, 60) := by decide +kernel
theorem d173_0 : cod 173 0 = some (.iload_n 1, 1) := by decide +kernel
theorem d173_1 : cod 173 1 = some (.aload_n 0, 2) := by decide +kernel
theorem d173_2 : cod 173 2 = some (.getfield 48, 5) := by decide +kernel
theorem d173_5 : cod 173 5 = some (.invokestatic 118, 8) := by decide +kernel
theorem d173_8 : cod 173 8 = some (.pop, 9) := by decide +kernel
theorem d173_9 : cod 173 9 = some (.aload_n 0, 10) := by decide +kernel
theorem d173_10 : cod 173 10 = some (.iload_n 1, 11) := by decide +kernel
theorem d173_11 : cod 173 11 = some (.invokevirtual 123, 14) := by decide +kernel
theorem d173_14 : cod 173 14 = some (.areturn, 15) := by decide +kernel
theorem d174_0 : cod 174 0 = some (.aload_n 0, 1) := by decide +kernel
theorem d174_1 : cod 174 1 = some (.getfield 9, 4) := by decide +kernel
theorem d174_4 : cod 174 4 = some (.iload_n 1, 5) := by decide +kernel
theorem d174_5 : cod 174 5 = some (.aaload, 6) := by decide +kernel
theorem d174_6 : cod 174 6 = some (.areturn, 7) := by decide +kernel
theorem d175_0 : cod 175 0 = some (.iload_n 0, 1) := by decide +kernel
theorem d175_1 : cod 175 1 = some (.ldc 7, 3) := by decide +kernel
theorem d175_3 : cod 175 3 = some (.iand, 4) := by decide +kernel
theorem d175_4 : cod 175 4 = some (.iload_n 1, 5) := by decide +kernel
theorem d175_5 : cod 175 5 = some (.irem, 6) := by decide +kernel
theorem d175_6 : cod 175 6 = some (.ireturn, 7) := by decide +kernel
theorem d176_0 : cod 176 0 = some (.iload_n 1, 1) := by decide +kernel
theorem d176_1 : cod 176 1 = some (.aload_n 0, 2) := by decide +kernel
theorem d176_2 : cod 176 2 = some (.arraylength, 3) := by decide +kernel
theorem d176_3 : cod 176 3 = some (.if_icmp .ge 9, 6) := by decide +kernel
theorem d176_6 : cod 176 6 = some (.aload_n 0, 7) := by decide +kernel
theorem d176_7 : cod 176 7 = some (.iload_n 1, 8) := by decide +kernel
theorem d176_8 : cod 176 8 = some (.iaload, 9) := by decide +kernel
theorem d176_9 : cod 176 9 = some (.goto 9, 12) := by decide +kernel
theorem d176_12 : cod 176 12 = some (.ldc 8, 14) := by decide +kernel
theorem d176_14 : cod 176 14 = some (.iload_n 1, 15) := by decide +kernel
theorem d176_15 : cod 176 15 = some (.iconst 3, 16) := by decide +kernel
theorem d176_16 : cod 176 16 = some (.iadd, 17) := by decide +kernel
theorem d176_17 : cod 176 17 = some (.imul, 18) := by decide +kernel
theorem d176_18 : cod 176 18 = some (.ireturn, 19) := by decide +kernel
theorem d177_0 : cod 177 0 = some (.iload_n 1, 1) := by decide +kernel
theorem d177_1 : cod 177 1 = some (.bipush 6, 3) := by decide +kernel
theorem d177_3 : cod 177 3 = some (.invokestatic 18, 6) := by decide +kernel
theorem d177_6 : cod 177 6 = some (.istore_n 3, 7) := by decide +kernel
theorem d177_7 : cod 177 7 = some (.iload_n 1, 8) := by decide +kernel
theorem d177_8 : cod 177 8 = some (.iconst 3, 9) := by decide +kernel
theorem d177_9 : cod 177 9 = some (.ishr, 10) := by decide +kernel
theorem d177_10 : cod 177 10 = some (.bipush 6, 12) := by decide +kernel
theorem d177_12 : cod 177 12 = some (.invokestatic 18, 15) := by decide +kernel
theorem d177_15 : cod 177 15 = some (.istore 4, 17) := by decide +kernel
theorem d177_17 : cod 177 17 = some (.iload_n 1, 18) := by decide +kernel
theorem d177_18 : cod 177 18 = some (.iconst 5, 19) := by decide +kernel
theorem d177_19 : cod 177 19 = some (.ishr, 20) := by decide +kernel
theorem d177_20 : cod 177 20 = some (.bipush 8, 22) := by decide +kernel
theorem d177_22 : cod 177 22 = some (.invokestatic 18, 25) := by decide +kernel
theorem d177_25 : cod 177 25 = some (.istore 5, 27) := by decide +kernel
theorem d177_27 : cod 177 27 = some (.iload_n 2, 28) := by decide +kernel
theorem d177_28 : cod 177 28 = some (.tableswitch 557 0 15 #[80, 128, 128, 170, 208, 237, 257, 288, 305, 336, 360, 379, 408, 432, 464, 499], 108) := by decide +kernel
theorem d177_108 : cod 177 108 = some (.aload_n 0, 109) := by decide +kernel
theorem d177_109 : cod 177 109 = some (.iconst 1, 110) := by decide +kernel
theorem d177_110 : cod 177 110 = some (.iload_n 1, 111) := by decide +kernel
theorem d177_111 : cod 177 111 = some (.iconst 3, 112) := by decide +kernel
theorem d177_112 : cod 177 112 = some (.invokestatic 18, 115) := by decide +kernel
theorem d177_115 : cod 177 115 = some (.iadd, 116) := by decide +kernel
theorem d177_116 : cod 177 116 = some (.iconst 1, 117) := by decide +kernel
theorem d177_117 : cod 177 117 = some (.iload_n 1, 118) := by decide +kernel
theorem d177_118 : cod 177 118 = some (.iconst 2, 119) := by decide +kernel
theorem d177_119 : cod 177 119 = some (.ishr, 120) := by decide +kernel
theorem d177_120 : cod 177 120 = some (.iconst 2, 121) := by decide +kernel
theorem d177_121 : cod 177 121 = some (.invokestatic 18, 124) := by decide +kernel
theorem d177_124 : cod 177 124 = some (.iadd, 125) := by decide +kernel
theorem d177_125 : cod 177 125 = some (.iload_n 1, 126) := by decide +kernel
theorem d177_126 : cod 177 126 = some (.iconst 4, 127) := by decide +kernel
theorem d177_127 : cod 177 127 = some (.ishr, 128) := by decide +kernel
theorem d177_128 : cod 177 128 = some (.bipush 6, 130) := by decide +kernel
theorem d177_130 : cod 177 130 = some (.invokestatic 18, 133) := by decide +kernel
theorem d177_133 : cod 177 133 = some (.iload_n 1, 134) := by decide +kernel
theorem d177_134 : cod 177 134 = some (.bipush 6, 136) := by decide +kernel
theorem d177_136 : cod 177 136 = some (.ishr, 137) := by decide +kernel
theorem d177_137 : cod 177 137 = some (.iconst 2, 138) := by decide +kernel
theorem d177_138 : cod 177 138 = some (.invokestatic 18, 141) := by decide +kernel
theorem d177_141 : cod 177 141 = some (.ifCond .ne 7, 144) := by decide +kernel
theorem d177_144 : cod 177 144 = some (.iconst 1, 145) := by decide +kernel
theorem d177_145 : cod 177 145 = some (.goto 4, 148) := by decide +kernel
theorem d177_148 : cod 177 148 = some (.iconst 0, 149) := by decide +kernel
theorem d177_149 : cod 177 149 = some (.invokevirtual 48, 152) := by decide +kernel
theorem d177_152 : cod 177 152 = some (.pop, 153) := by decide +kernel
theorem d177_153 : cod 177 153 = some (.goto 445, 156) := by decide +kernel
theorem d177_156 : cod 177 156 = some (.aload_n 0, 157) := by decide +kernel
theorem d177_157 : cod 177 157 = some (.iconst 1, 158) := by decide +kernel
theorem d177_158 : cod 177 158 = some (.iload_n 1, 159) := by decide +kernel
theorem d177_159 : cod 177 159 = some (.iconst 2, 160) := by decide +kernel
theorem d177_160 : cod 177 160 = some (.invokestatic 18, 163) := by decide +kernel
theorem d177_163 : cod 177 163 = some (.iadd, 164) := by decide +kernel
theorem d177_164 : cod 177 164 = some (.iconst 1, 165) := by decide +kernel
theorem d177_165 : cod 177 165 = some (.iload_n 1, 166) := by decide +kernel
theorem d177_166 : cod 177 166 = some (.iconst 2, 167) := by decide +kernel
theorem d177_167 : cod 177 167 = some (.ishr, 168) := by decide +kernel
theorem d177_168 : cod 177 168 = some (.iconst 2, 169) := by decide +kernel
theorem d177_169 : cod 177 169 = some (.invokestatic 18, 172) := by decide +kernel
theorem d177_172 : cod 177 172 = some (.iadd, 173) := by decide +kernel
theorem d177_173 : cod 177 173 = some (.iload_n 1, 174) := by decide +kernel
theorem d177_174 : cod 177 174 = some (.iconst 3, 175) := by decide +kernel
theorem d177_175 : cod 177 175 = some (.ishr, 176) := by decide +kernel
theorem d177_176 : cod 177 176 = some (.bipush 20, 178) := by decide +kernel
theorem d177_178 : cod 177 178 = some (.invokestatic 18, 181) := by decide +kernel
theorem d177_181 : cod 177 181 = some (.iload 5, 183) := by decide +kernel
theorem d177_183 : cod 177 183 = some (.iload_n 1, 184) := by decide +kernel
theorem d177_184 : cod 177 184 = some (.iconst 4, 185) := by decide +kernel
theorem d177_185 : cod 177 185 = some (.ishr, 186) := by decide +kernel
theorem d177_186 : cod 177 186 = some (.bipush 6, 188) := by decide +kernel
theorem d177_188 : cod 177 188 = some (.invokestatic 18, 191) := by decide +kernel
theorem d177_191 : cod 177 191 = some (.invokevirtual 52, 194) := by decide +kernel
theorem d177_194 : cod 177 194 = some (.pop, 195) := by decide +kernel
theorem d177_195 : cod 177 195 = some (.goto 403, 198) := by decide +kernel
theorem d177_198 : cod 177 198 = some (.aload_n 0, 199) := by decide +kernel
theorem d177_199 : cod 177 199 = some (.iload_n 3, 200) := by decide +kernel
theorem d177_200 : cod 177 200 = some (.iload_n 1, 201) := by decide +kernel
theorem d177_201 : cod 177 201 = some (.iconst 3, 202) := by decide +kernel
theorem d177_202 : cod 177 202 = some (.ishr, 203) := by decide +kernel
theorem d177_203 : cod 177 203 = some (.iconst 3, 204) := by decide +kernel
theorem d177_204 : cod 177 204 = some (.invokestatic 18, 207) := by decide +kernel
theorem d177_207 : cod 177 207 = some (.iload_n 1, 208) := by decide +kernel
theorem d177_208 : cod 177 208 = some (.iconst 4, 209) := by decide +kernel
theorem d177_209 : cod 177 209 = some (.ishr, 210) := by decide +kernel
theorem d177_210 : cod 177 210 = some (.sipush 1024, 213) := by decide +kernel
theorem d177_213 : cod 177 213 = some (.invokestatic 18, 216) := by decide +kernel
theorem d177_216 : cod 177 216 = some (.iload_n 1, 217) := by decide +kernel
theorem d177_217 : cod 177 217 = some (.iconst 2, 218) := by decide +kernel
theorem d177_218 : cod 177 218 = some (.invokestatic 18, 221) := by decide +kernel
theorem d177_221 : cod 177 221 = some (.ifCond .ne 7, 224) := by decide +kernel
theorem d177_224 : cod 177 224 = some (.iconst 1, 225) := by decide +kernel
theorem d177_225 : cod 177 225 = some (.goto 4, 228) := by decide +kernel
theorem d177_228 : cod 177 228 = some (.iconst 0, 229) := by decide +kernel
theorem d177_229 : cod 177 229 = some (.invokevirtual 56, 232) := by decide +kernel
theorem d177_232 : cod 177 232 = some (.pop, 233) := by decide +kernel
theorem d177_233 : cod 177 233 = some (.goto 365, 236) := by decide +kernel
theorem d177_236 : cod 177 236 = some (.aload_n 0, 237) := by decide +kernel
theorem d177_237 : cod 177 237 = some (.iload_n 3, 238) := by decide +kernel
theorem d177_238 : cod 177 238 = some (.iload_n 1, 239) := by decide +kernel
theorem d177_239 : cod 177 239 = some (.iconst 3, 240) := by decide +kernel
theorem d177_240 : cod 177 240 = some (.ishr, 241) := by decide +kernel
theorem d177_241 : cod 177 241 = some (.iconst 4, 242) := by decide +kernel
theorem d177_242 : cod 177 242 = some (.invokestatic 18, 245) := by decide +kernel
theorem d177_245 : cod 177 245 = some (.bipush 10, 247) := by decide +kernel
theorem d177_247 : cod 177 247 = some (.iload_n 1, 248) := by decide +kernel
theorem d177_248 : cod 177 248 = some (.iconst 5, 249) := by decide +kernel
theorem d177_249 : cod 177 249 = some (.ishr, 250) := by decide +kernel
theorem d177_250 : cod 177 250 = some (.iconst 2, 251) := by decide +kernel
theorem d177_251 : cod 177 251 = some (.invokestatic 18, 254) := by decide +kernel
theorem d177_254 : cod 177 254 = some (.iadd, 255) := by decide +kernel
theorem d177_255 : cod 177 255 = some (.sipush 200, 258) := by decide +kernel
theorem d177_258 : cod 177 258 = some (.invokevirtual 59, 261) := by decide +kernel
theorem d177_261 : cod 177 261 = some (.pop, 262) := by decide +kernel
theorem d177_262 : cod 177 262 = some (.goto 336, 265) := by decide +kernel
theorem d177_265 : cod 177 265 = some (.aload_n 0, 266) := by decide +kernel
theorem d177_266 : cod 177 266 = some (.iload_n 3, 267) := by decide +kernel
theorem d177_267 : cod 177 267 = some (.iload 4, 269) := by decide +kernel
theorem d177_269 : cod 177 269 = some (.iload_n 1, 270) := by decide +kernel
theorem d177_270 : cod 177 270 = some (.bipush 6, 272) := by decide +kernel
theorem d177_272 : cod 177 272 = some (.ishr, 273) := by decide +kernel
theorem d177_273 : cod 177 273 = some (.bipush 10, 275) := by decide +kernel
theorem d177_275 : cod 177 275 = some (.invokestatic 18, 278) := by decide +kernel
theorem d177_278 : cod 177 278 = some (.invokevirtual 62, 281) := by decide +kernel
theorem d177_281 : cod 177 281 = some (.pop, 282) := by decide +kernel
theorem d177_282 : cod 177 282 = some (.goto 316, 285) := by decide +kernel
theorem d177_285 : cod 177 285 = some (.aload_n 0, 286) := by decide +kernel
theorem d177_286 : cod 177 286 = some (.iload_n 3, 287) := by decide +kernel
theorem d177_287 : cod 177 287 = some (.iload 4, 289) := by decide +kernel
theorem d177_289 : cod 177 289 = some (.iconst 1, 290) := by decide +kernel
theorem d177_290 : cod 177 290 = some (.iload_n 1, 291) := by decide +kernel
theorem d177_291 : cod 177 291 = some (.bipush 6, 293) := by decide +kernel
theorem d177_293 : cod 177 293 = some (.ishr, 294) := by decide +kernel
theorem d177_294 : cod 177 294 = some (.iconst 2, 295) := by decide +kernel
theorem d177_295 : cod 177 295 = some (.invokestatic 18, 298) := by decide +kernel
theorem d177_298 : cod 177 298 = some (.iadd, 299) := by decide +kernel
theorem d177_299 : cod 177 299 = some (.iconst 0, 300) := by decide +kernel
theorem d177_300 : cod 177 300 = some (.iload_n 1, 301) := by decide +kernel
theorem d177_301 : cod 177 301 = some (.iconst 2, 302) := by decide +kernel
theorem d177_302 : cod 177 302 = some (.ishr, 303) := by decide +kernel
theorem d177_303 : cod 177 303 = some (.sipush 600, 306) := by decide +kernel
theorem d177_306 : cod 177 306 = some (.invokestatic 18, 309) := by decide +kernel
theorem d177_309 : cod 177 309 = some (.invokevirtual 65, 312) := by decide +kernel
theorem d177_312 : cod 177 312 = some (.pop, 313) := by decide +kernel
theorem d177_313 : cod 177 313 = some (.goto 285, 316) := by decide +kernel
theorem d177_316 : cod 177 316 = some (.aload_n 0, 317) := by decide +kernel
theorem d177_317 : cod 177 317 = some (.iload_n 3, 318) := by decide +kernel
theorem d177_318 : cod 177 318 = some (.iconst 0, 319) := by decide +kernel
theorem d177_319 : cod 177 319 = some (.iload_n 1, 320) := by decide +kernel
theorem d177_320 : cod 177 320 = some (.iconst 3, 321) := by decide +kernel
theorem d177_321 : cod 177 321 = some (.ishr, 322) := by decide +kernel
theorem d177_322 : cod 177 322 = some (.iconst 5, 323) := by decide +kernel
theorem d177_323 : cod 177 323 = some (.invokestatic 18, 326) := by decide +kernel
theorem d177_326 : cod 177 326 = some (.invokevirtual 68, 329) := by decide +kernel
theorem d177_329 : cod 177 329 = some (.pop, 330) := by decide +kernel
theorem d177_330 : cod 177 330 = some (.goto 268, 333) := by decide +kernel
theorem d177_333 : cod 177 333 = some (.aload_n 0, 334) := by decide +kernel
theorem d177_334 : cod 177 334 = some (.iload_n 3, 335) := by decide +kernel
theorem d177_335 : cod 177 335 = some (.iload_n 1, 336) := by decide +kernel
theorem d177_336 : cod 177 336 = some (.iconst 3, 337) := by decide +kernel
theorem d177_337 : cod 177 337 = some (.ishr, 338) := by decide +kernel
theorem d177_338 : cod 177 338 = some (.sipush 700, 341) := by decide +kernel
theorem d177_341 : cod 177 341 = some (.invokestatic 18, 344) := by decide +kernel
theorem d177_344 : cod 177 344 = some (.iload_n 1, 345) := by decide +kernel
theorem d177_345 : cod 177 345 = some (.iconst 2, 346) := by decide +kernel
theorem d177_346 : cod 177 346 = some (.invokestatic 18, 349) := by decide +kernel
theorem d177_349 : cod 177 349 = some (.ifCond .ne 7, 352) := by decide +kernel
theorem d177_352 : cod 177 352 = some (.iconst 1, 353) := by decide +kernel
theorem d177_353 : cod 177 353 = some (.goto 4, 356) := by decide +kernel
theorem d177_356 : cod 177 356 = some (.iconst 0, 357) := by decide +kernel
theorem d177_357 : cod 177 357 = some (.invokevirtual 71, 360) := by decide +kernel
theorem d177_360 : cod 177 360 = some (.pop, 361) := by decide +kernel
theorem d177_361 : cod 177 361 = some (.goto 237, 364) := by decide +kernel
theorem d177_364 : cod 177 364 = some (.aload_n 0, 365) := by decide +kernel
theorem d177_365 : cod 177 365 = some (.iload_n 1, 366) := by decide +kernel
theorem d177_366 : cod 177 366 = some (.iconst 5, 367) := by decide +kernel
theorem d177_367 : cod 177 367 = some (.invokestatic 18, 370) := by decide +kernel
theorem d177_370 : cod 177 370 = some (.iload 5, 372) := by decide +kernel
theorem d177_372 : cod 177 372 = some (.iload_n 1, 373) := by decide +kernel
theorem d177_373 : cod 177 373 = some (.bipush 6, 375) := by decide +kernel
theorem d177_375 : cod 177 375 = some (.ishr, 376) := by decide +kernel
theorem d177_376 : cod 177 376 = some (.bipush 17, 378) := by decide +kernel
theorem d177_378 : cod 177 378 = some (.invokestatic 18, 381) := by decide +kernel
theorem d177_381 : cod 177 381 = some (.invokevirtual 75, 384) := by decide +kernel
theorem d177_384 : cod 177 384 = some (.pop, 385) := by decide +kernel
theorem d177_385 : cod 177 385 = some (.goto 213, 388) := by decide +kernel
theorem d177_388 : cod 177 388 = some (.aload_n 0, 389) := by decide +kernel
theorem d177_389 : cod 177 389 = some (.iload_n 3, 390) := by decide +kernel
theorem d177_390 : cod 177 390 = some (.iload 5, 392) := by decide +kernel
theorem d177_392 : cod 177 392 = some (.iload_n 1, 393) := by decide +kernel
theorem d177_393 : cod 177 393 = some (.bipush 6, 395) := by decide +kernel
theorem d177_395 : cod 177 395 = some (.ishr, 396) := by decide +kernel
theorem d177_396 : cod 177 396 = some (.iconst 3, 397) := by decide +kernel
theorem d177_397 : cod 177 397 = some (.invokestatic 18, 400) := by decide +kernel
theorem d177_400 : cod 177 400 = some (.invokevirtual 78, 403) := by decide +kernel
theorem d177_403 : cod 177 403 = some (.pop, 404) := by decide +kernel
theorem d177_404 : cod 177 404 = some (.goto 194, 407) := by decide +kernel
theorem d177_407 : cod 177 407 = some (.aload_n 0, 408) := by decide +kernel
theorem d177_408 : cod 177 408 = some (.iload_n 3, 409) := by decide +kernel
theorem d177_409 : cod 177 409 = some (.iload_n 1, 410) := by decide +kernel
theorem d177_410 : cod 177 410 = some (.iconst 3, 411) := by decide +kernel
theorem d177_411 : cod 177 411 = some (.ishr, 412) := by decide +kernel
theorem d177_412 : cod 177 412 = some (.iconst 5, 413) := by decide +kernel
theorem d177_413 : cod 177 413 = some (.invokestatic 18, 416) := by decide +kernel
theorem d177_416 : cod 177 416 = some (.iload_n 1, 417) := by decide +kernel
theorem d177_417 : cod 177 417 = some (.iconst 2, 418) := by decide +kernel
theorem d177_418 : cod 177 418 = some (.invokestatic 18, 421) := by decide +kernel
theorem d177_421 : cod 177 421 = some (.ifCond .ne 7, 424) := by decide +kernel
theorem d177_424 : cod 177 424 = some (.iconst 1, 425) := by decide +kernel
theorem d177_425 : cod 177 425 = some (.goto 4, 428) := by decide +kernel
theorem d177_428 : cod 177 428 = some (.iconst 0, 429) := by decide +kernel
theorem d177_429 : cod 177 429 = some (.invokevirtual 81, 432) := by decide +kernel
theorem d177_432 : cod 177 432 = some (.pop, 433) := by decide +kernel
theorem d177_433 : cod 177 433 = some (.goto 165, 436) := by decide +kernel
theorem d177_436 : cod 177 436 = some (.aload_n 0, 437) := by decide +kernel
theorem d177_437 : cod 177 437 = some (.iload_n 3, 438) := by decide +kernel
theorem d177_438 : cod 177 438 = some (.iload_n 1, 439) := by decide +kernel
theorem d177_439 : cod 177 439 = some (.iconst 3, 440) := by decide +kernel
theorem d177_440 : cod 177 440 = some (.ishr, 441) := by decide +kernel
theorem d177_441 : cod 177 441 = some (.iconst 2, 442) := by decide +kernel
theorem d177_442 : cod 177 442 = some (.invokestatic 18, 445) := by decide +kernel
theorem d177_445 : cod 177 445 = some (.ifCond .ne 7, 448) := by decide +kernel
theorem d177_448 : cod 177 448 = some (.iconst 1, 449) := by decide +kernel
theorem d177_449 : cod 177 449 = some (.goto 4, 452) := by decide +kernel
theorem d177_452 : cod 177 452 = some (.iconst 0, 453) := by decide +kernel
theorem d177_453 : cod 177 453 = some (.invokevirtual 84, 456) := by decide +kernel
theorem d177_456 : cod 177 456 = some (.pop, 457) := by decide +kernel
theorem d177_457 : cod 177 457 = some (.goto 141, 460) := by decide +kernel
theorem d177_460 : cod 177 460 = some (.aload_n 0, 461) := by decide +kernel
theorem d177_461 : cod 177 461 = some (.iload_n 1, 462) := by decide +kernel
theorem d177_462 : cod 177 462 = some (.iconst 3, 463) := by decide +kernel
theorem d177_463 : cod 177 463 = some (.ishr, 464) := by decide +kernel
theorem d177_464 : cod 177 464 = some (.iconst 2, 465) := by decide +kernel
theorem d177_465 : cod 177 465 = some (.invokestatic 18, 468) := by decide +kernel
theorem d177_468 : cod 177 468 = some (.ifCond .ne 7, 471) := by decide +kernel
theorem d177_471 : cod 177 471 = some (.iconst 1, 472) := by decide +kernel
theorem d177_472 : cod 177 472 = some (.goto 4, 475) := by decide +kernel
theorem d177_475 : cod 177 475 = some (.iconst 0, 476) := by decide +kernel
theorem d177_476 : cod 177 476 = some (.iload_n 3, 477) := by decide +kernel
theorem d177_477 : cod 177 477 = some (.iload_n 1, 478) := by decide +kernel
theorem d177_478 : cod 177 478 = some (.iconst 4, 479) := by decide +kernel
theorem d177_479 : cod 177 479 = some (.ishr, 480) := by decide +kernel
theorem d177_480 : cod 177 480 = some (.bipush 50, 482) := by decide +kernel
theorem d177_482 : cod 177 482 = some (.invokestatic 18, 485) := by decide +kernel
theorem d177_485 : cod 177 485 = some (.invokevirtual 88, 488) := by decide +kernel
theorem d177_488 : cod 177 488 = some (.pop, 489) := by decide +kernel
theorem d177_489 : cod 177 489 = some (.goto 109, 492) := by decide +kernel
theorem d177_492 : cod 177 492 = some (.aload_n 0, 493) := by decide +kernel
theorem d177_493 : cod 177 493 = some (.iload_n 1, 494) := by decide +kernel
theorem d177_494 : cod 177 494 = some (.bipush 10, 496) := by decide +kernel
theorem d177_496 : cod 177 496 = some (.invokestatic 18, 499) := by decide +kernel
theorem d177_499 : cod 177 499 = some (.iconst 1, 500) := by decide +kernel
theorem d177_500 : cod 177 500 = some (.iload_n 1, 501) := by decide +kernel
theorem d177_501 : cod 177 501 = some (.iconst 3, 502) := by decide +kernel
theorem d177_502 : cod 177 502 = some (.ishr, 503) := by decide +kernel
theorem d177_503 : cod 177 503 = some (.bipush 15, 505) := by decide +kernel
theorem d177_505 : cod 177 505 = some (.invokestatic 18, 508) := by decide +kernel
theorem d177_508 : cod 177 508 = some (.iadd, 509) := by decide +kernel
theorem d177_509 : cod 177 509 = some (.iconst 1, 510) := by decide +kernel
theorem d177_510 : cod 177 510 = some (.iload_n 1, 511) := by decide +kernel
theorem d177_511 : cod 177 511 = some (.iconst 5, 512) := by decide +kernel
theorem d177_512 : cod 177 512 = some (.ishr, 513) := by decide +kernel
theorem d177_513 : cod 177 513 = some (.sipush 200, 516) := by decide +kernel
theorem d177_516 : cod 177 516 = some (.invokestatic 18, 519) := by decide +kernel
theorem d177_519 : cod 177 519 = some (.iadd, 520) := by decide +kernel
theorem d177_520 : cod 177 520 = some (.invokevirtual 92, 523) := by decide +kernel
theorem d177_523 : cod 177 523 = some (.pop, 524) := by decide +kernel
theorem d177_524 : cod 177 524 = some (.goto 74, 527) := by decide +kernel
theorem d177_527 : cod 177 527 = some (.aload_n 0, 528) := by decide +kernel
theorem d177_528 : cod 177 528 = some (.iload 5, 530) := by decide +kernel
theorem d177_530 : cod 177 530 = some (.iload_n 1, 531) := by decide +kernel
theorem d177_531 : cod 177 531 = some (.bipush 100, 533) := by decide +kernel
theorem d177_533 : cod 177 533 = some (.invokestatic 18, 536) := by decide +kernel
theorem d177_536 : cod 177 536 = some (.iload_n 1, 537) := by decide +kernel
theorem d177_537 : cod 177 537 = some (.iconst 2, 538) := by decide +kernel
theorem d177_538 : cod 177 538 = some (.ishr, 539) := by decide +kernel
theorem d177_539 : cod 177 539 = some (.bipush 100, 541) := by decide +kernel
theorem d177_541 : cod 177 541 = some (.invokestatic 18, 544) := by decide +kernel
theorem d177_544 : cod 177 544 = some (.iload_n 1, 545) := by decide +kernel
theorem d177_545 : cod 177 545 = some (.iconst 4, 546) := by decide +kernel
theorem d177_546 : cod 177 546 = some (.ishr, 547) := by decide +kernel
theorem d177_547 : cod 177 547 = some (.bipush 100, 549) := by decide +kernel
theorem d177_549 : cod 177 549 = some (.invokestatic 18, 552) := by decide +kernel
theorem d177_552 : cod 177 552 = some (.invokevirtual 95, 555) := by decide +kernel
theorem d177_555 : cod 177 555 = some (.pop, 556) := by decide +kernel
theorem d177_556 : cod 177 556 = some (.aload_n 0, 557) := by decide +kernel
theorem d177_557 : cod 177 557 = some (.iload_n 3, 558) := by decide +kernel
theorem d177_558 : cod 177 558 = some (.iload_n 1, 559) := by decide +kernel
theorem d177_559 : cod 177 559 = some (.iconst 1, 560) := by decide +kernel
theorem d177_560 : cod 177 560 = some (.ishr, 561) := by decide +kernel
theorem d177_561 : cod 177 561 = some (.bipush 100, 563) := by decide +kernel
theorem d177_563 : cod 177 563 = some (.invokestatic 18, 566) := by decide +kernel
theorem d177_566 : cod 177 566 = some (.bipush 50, 568) := by decide +kernel
theorem d177_568 : cod 177 568 = some (.bipush 50, 570) := by decide +kernel
theorem d177_570 : cod 177 570 = some (.iload_n 1, 571) := by decide +kernel
theorem d177_571 : cod 177 571 = some (.iconst 3, 572) := by decide +kernel
theorem d177_572 : cod 177 572 = some (.ishr, 573) := by decide +kernel
theorem d177_573 : cod 177 573 = some (.bipush 51, 575) := by decide +kernel
theorem d177_575 : cod 177 575 = some (.invokestatic 18, 578) := by decide +kernel
theorem d177_578 : cod 177 578 = some (.invokevirtual 98, 581) := by decide +kernel
theorem d177_581 : cod 177 581 = some (.pop, 582) := by decide +kernel
theorem d177_582 : cod 177 582 = some (.goto 16, 585) := by decide +kernel
theorem d177_585 : cod 177 585 = some (.aload_n 0, 586) := by decide +kernel
theorem d177_586 : cod 177 586 = some (.iconst 1, 587) := by decide +kernel
theorem d177_587 : cod 177 587 = some (.iload_n 1, 588) := by decide +kernel
theorem d177_588 : cod 177 588 = some (.bipush 30, 590) := by decide +kernel
theorem d177_590 : cod 177 590 = some (.invokestatic 18, 593) := by decide +kernel
theorem d177_593 : cod 177 593 = some (.iadd, 594) := by decide +kernel
theorem d177_594 : cod 177 594 = some (.invokevirtual 101, 597) := by decide +kernel
theorem d177_597 : cod 177 597 = some (.pop, 598) := by decide +kernel
theorem d177_598 : cod 177 598 = some (.goto 12, 601) := by decide +kernel
theorem d177_601 : cod 177 601 = some (.astore 6, 603) := by decide +kernel
theorem d177_603 : cod 177 603 = some (.return_, 604) := by decide +kernel
theorem d177_604 : cod 177 604 = some (.astore 6, 606) := by decide +kernel
theorem d177_606 : cod 177 606 = some (.return_, 607) := by decide +kernel
theorem d177_607 : cod 177 607 = some (.astore 6, 609) := by decide +kernel
theorem d177_609 : cod 177 609 = some (.return_, 610) := by decide +kernel
theorem d177_610 : cod 177 610 = some (.return_, 611) := by decide +kernel
theorem d178_0 : cod 178 0 = some (.aload_n 0, 1) := by decide +kernel
theorem d178_1 : cod 178 1 = some (.invokevirtual 110, 4) := by decide +kernel
theorem d178_4 : cod 178 4 = some (.lstore_n 1, 5) := by decide +kernel
theorem d178_5 : cod 178 5 = some (.aload_n 0, 6) := by decide +kernel
theorem d178_6 : cod 178 6 = some (.invokevirtual 114, 9) := by decide +kernel
theorem d178_9 : cod 178 9 = some (.ifCond .eq 24, 12) := by decide +kernel
theorem d178_12 : cod 178 12 = some (.aload_n 0, 13) := by decide +kernel
theorem d178_13 : cod 178 13 = some (.iconst 4, 14) := by decide +kernel
theorem d178_14 : cod 178 14 = some (.invokevirtual 118, 17) := by decide +kernel
theorem d178_17 : cod 178 17 = some (.ifCond .lt 16, 20) := by decide +kernel
theorem d178_20 : cod 178 20 = some (.aload_n 0, 21) := by decide +kernel
theorem d178_21 : cod 178 21 = some (.iconst 1, 22) := by decide +kernel
theorem d178_22 : cod 178 22 = some (.invokevirtual 118, 25) := by decide +kernel
theorem d178_25 : cod 178 25 = some (.aload_n 0, 26) := by decide +kernel
theorem d178_26 : cod 178 26 = some (.iconst 5, 27) := by decide +kernel
theorem d178_27 : cod 178 27 = some (.invokevirtual 118, 30) := by decide +kernel
theorem d178_30 : cod 178 30 = some (.if_icmp .le 5, 33) := by decide +kernel
theorem d178_33 : cod 178 33 = some (.iconst 0, 34) := by decide +kernel
theorem d178_34 : cod 178 34 = some (.ireturn, 35) := by decide +kernel
theorem d178_35 : cod 178 35 = some (.iconst 0, 36) := by decide +kernel
theorem d178_36 : cod 178 36 = some (.istore_n 3, 37) := by decide +kernel
theorem d178_37 : cod 178 37 = some (.iconst 0, 38) := by decide +kernel
theorem d178_38 : cod 178 38 = some (.istore 4, 40) := by decide +kernel
theorem d178_40 : cod 178 40 = some (.iload 4, 42) := by decide +kernel
theorem d178_42 : cod 178 42 = some (.bipush 6, 44) := by decide +kernel
theorem d178_44 : cod 178 44 = some (.if_icmp .ge 19, 47) := by decide +kernel
theorem d178_47 : cod 178 47 = some (.iload_n 3, 48) := by decide +kernel
theorem d178_48 : cod 178 48 = some (.aload_n 0, 49) := by decide +kernel
theorem d178_49 : cod 178 49 = some (.iload 4, 51) := by decide +kernel
theorem d178_51 : cod 178 51 = some (.iconst 4, 52) := by decide +kernel
theorem d178_52 : cod 178 52 = some (.invokevirtual 121, 55) := by decide +kernel
theorem d178_55 : cod 178 55 = some (.iadd, 56) := by decide +kernel
theorem d178_56 : cod 178 56 = some (.istore_n 3, 57) := by decide +kernel
theorem d178_57 : cod 178 57 = some (.iinc 4 1, 60) := by decide +kernel
theorem d178_60 : cod 178 60 = some (.goto (-20), 63) := by decide +kernel
theorem d178_63 : cod 178 63 = some (.aload_n 0, 64) := by decide +kernel
theorem d178_64 : cod 178 64 = some (.bipush 9, 66) := by decide +kernel
theorem d178_66 : cod 178 66 = some (.iconst 1, 67) := by decide +kernel
theorem d178_67 : cod 178 67 = some (.invokevirtual 124, 70) := by decide +kernel
theorem d178_70 : cod 178 70 = some (.istore 4, 72) := by decide +kernel
theorem d178_72 : cod 178 72 = some (.iconst 0, 73) := by decide +kernel
theorem d178_73 : cod 178 73 = some (.istore 5, 75) := by decide +kernel
theorem d178_75 : cod 178 75 = some (.bipush 9, 77) := by decide +kernel
theorem d178_77 : cod 178 77 = some (.istore 6, 79) := by decide +kernel
theorem d178_79 : cod 178 79 = some (.iconst 0, 80) := by decide +kernel
theorem d178_80 : cod 178 80 = some (.istore 7, 82) := by decide +kernel
theorem d178_82 : cod 178 82 = some (.iload 7, 84) := by decide +kernel
theorem d178_84 : cod 178 84 = some (.iload_n 3, 85) := by decide +kernel
theorem d178_85 : cod 178 85 = some (.if_icmp .ge 192, 88) := by decide +kernel
theorem d178_88 : cod 178 88 = some (.aload_n 0, 89) := by decide +kernel
theorem d178_89 : cod 178 89 = some (.iload 7, 91) := by decide +kernel
theorem d178_91 : cod 178 91 = some (.iconst 0, 92) := by decide +kernel
theorem d178_92 : cod 178 92 = some (.invokevirtual 127, 95) := by decide +kernel
theorem d178_95 : cod 178 95 = some (.istore 8, 97) := by decide +kernel
theorem d178_97 : cod 178 97 = some (.aload_n 0, 98) := by decide +kernel
theorem d178_98 : cod 178 98 = some (.iload 7, 100) := by decide +kernel
theorem d178_100 : cod 178 100 = some (.iconst 4, 101) := by decide +kernel
theorem d178_101 : cod 178 101 = some (.invokevirtual 127, 104) := by decide +kernel
theorem d178_104 : cod 178 104 = some (.istore 9, 106) := by decide +kernel
theorem d178_106 : cod 178 106 = some (.aload_n 0, 107) := by decide +kernel
theorem d178_107 : cod 178 107 = some (.iload 7, 109) := by decide +kernel
theorem d178_109 : cod 178 109 = some (.iconst 3, 110) := by decide +kernel
theorem d178_110 : cod 178 110 = some (.invokevirtual 127, 113) := by decide +kernel
theorem d178_113 : cod 178 113 = some (.iconst 1, 114) := by decide +kernel
theorem d178_114 : cod 178 114 = some (.if_icmp .ne 7, 117) := by decide +kernel
theorem d178_117 : cod 178 117 = some (.iconst 1, 118) := by decide +kernel
theorem d178_118 : cod 178 118 = some (.goto 4, 121) := by decide +kernel
theorem d178_121 : cod 178 121 = some (.iconst 0, 122) := by decide +kernel
theorem d178_122 : cod 178 122 = some (.iload 9, 124) := by decide +kernel
theorem d178_124 : cod 178 124 = some (.ifCond .lt 7, 127) := by decide +kernel
theorem d178_127 : cod 178 127 = some (.iconst 1, 128) := by decide +kernel
theorem d178_128 : cod 178 128 = some (.goto 4, 131) := by decide +kernel
theorem d178_131 : cod 178 131 = some (.iconst 0, 132) := by decide +kernel
theorem d178_132 : cod 178 132 = some (.if_icmp .ne 45, 135) := by decide +kernel
theorem d178_135 : cod 178 135 = some (.aload_n 0, 136) := by decide +kernel
theorem d178_136 : cod 178 136 = some (.iload 8, 138) := by decide +kernel
theorem d178_138 : cod 178 138 = some (.iconst 0, 139) := by decide +kernel
theorem d178_139 : cod 178 139 = some (.invokevirtual 121, 142) := by decide +kernel
theorem d178_142 : cod 178 142 = some (.ifCond .ne 7, 145) := by decide +kernel
theorem d178_145 : cod 178 145 = some (.iconst 1, 146) := by decide +kernel
theorem d178_146 : cod 178 146 = some (.goto 4, 149) := by decide +kernel
theorem d178_149 : cod 178 149 = some (.iconst 0, 150) := by decide +kernel
theorem d178_150 : cod 178 150 = some (.aload_n 0, 151) := by decide +kernel
theorem d178_151 : cod 178 151 = some (.iload 7, 153) := by decide +kernel
theorem d178_153 : cod 178 153 = some (.iconst 3, 154) := by decide +kernel
theorem d178_154 : cod 178 154 = some (.invokevirtual 127, 157) := by decide +kernel
theorem d178_157 : cod 178 157 = some (.ifCond .ne 7, 160) := by decide +kernel
theorem d178_160 : cod 178 160 = some (.iconst 1, 161) := by decide +kernel
theorem d178_161 : cod 178 161 = some (.goto 4, 164) := by decide +kernel
theorem d178_164 : cod 178 164 = some (.iconst 0, 165) := by decide +kernel
theorem d178_165 : cod 178 165 = some (.if_icmp .ne 12, 168) := by decide +kernel
theorem d178_168 : cod 178 168 = some (.aload_n 0, 169) := by decide +kernel
theorem d178_169 : cod 178 169 = some (.iload 7, 171) := by decide +kernel
theorem d178_171 : cod 178 171 = some (.invokevirtual 130, 174) := by decide +kernel
theorem d178_174 : cod 178 174 = some (.ifCond .ge 5, 177) := by decide +kernel
theorem d178_177 : cod 178 177 = some (.iconst 0, 178) := by decide +kernel
theorem d178_178 : cod 178 178 = some (.ireturn, 179) := by decide +kernel
theorem d178_179 : cod 178 179 = some (.iload 9, 181) := by decide +kernel
theorem d178_181 : cod 178 181 = some (.ifCond .lt 20, 184) := by decide +kernel
theorem d178_184 : cod 178 184 = some (.aload_n 0, 185) := by decide +kernel
theorem d178_185 : cod 178 185 = some (.iload 8, 187) := by decide +kernel
theorem d178_187 : cod 178 187 = some (.iconst 3, 188) := by decide +kernel
theorem d178_188 : cod 178 188 = some (.invokevirtual 121, 191) := by decide +kernel
theorem d178_191 : cod 178 191 = some (.iload 9, 193) := by decide +kernel
theorem d178_193 : cod 178 193 = some (.ishr, 194) := by decide +kernel
theorem d178_194 : cod 178 194 = some (.iconst 1, 195) := by decide +kernel
theorem d178_195 : cod 178 195 = some (.iand, 196) := by decide +kernel
theorem d178_196 : cod 178 196 = some (.ifCond .ne 5, 199) := by decide +kernel
theorem d178_199 : cod 178 199 = some (.iconst 0, 200) := by decide +kernel
theorem d178_200 : cod 178 200 = some (.ireturn, 201) := by decide +kernel
theorem d178_201 : cod 178 201 = some (.aload_n 0, 202) := by decide +kernel
theorem d178_202 : cod 178 202 = some (.iload 7, 204) := by decide +kernel
theorem d178_204 : cod 178 204 = some (.iconst 2, 205) := by decide +kernel
theorem d178_205 : cod 178 205 = some (.invokevirtual 133, 208) := by decide +kernel
theorem d178_208 : cod 178 208 = some (.iconst 1, 209) := by decide +kernel
theorem d178_209 : cod 178 209 = some (.if_icmp .ne 12, 212) := by decide +kernel
theorem d178_212 : cod 178 212 = some (.aload_n 0, 213) := by decide +kernel
theorem d178_213 : cod 178 213 = some (.iload 7, 215) := by decide +kernel
theorem d178_215 : cod 178 215 = some (.invokevirtual 130, 218) := by decide +kernel
theorem d178_218 : cod 178 218 = some (.ifCond .gt 15, 221) := by decide +kernel
theorem d178_221 : cod 178 221 = some (.aload_n 0, 222) := by decide +kernel
theorem d178_222 : cod 178 222 = some (.iload 7, 224) := by decide +kernel
theorem d178_224 : cod 178 224 = some (.iconst 0, 225) := by decide +kernel
theorem d178_225 : cod 178 225 = some (.invokevirtual 136, 228) := by decide +kernel
theorem d178_228 : cod 178 228 = some (.bipush (-45), 230) := by decide +kernel
theorem d178_230 : cod 178 230 = some (.if_icmp .ge 5, 233) := by decide +kernel
theorem d178_233 : cod 178 233 = some (.iconst 0, 234) := by decide +kernel
theorem d178_234 : cod 178 234 = some (.ireturn, 235) := by decide +kernel
theorem d178_235 : cod 178 235 = some (.iload 4, 237) := by decide +kernel
theorem d178_237 : cod 178 237 = some (.iload 7, 239) := by decide +kernel
theorem d178_239 : cod 178 239 = some (.ishr, 240) := by decide +kernel
theorem d178_240 : cod 178 240 = some (.iconst 1, 241) := by decide +kernel
theorem d178_241 : cod 178 241 = some (.iand, 242) := by decide +kernel
theorem d178_242 : cod 178 242 = some (.ifCond .ne 6, 245) := by decide +kernel
theorem d178_245 : cod 178 245 = some (.goto 26, 248) := by decide +kernel
theorem d178_248 : cod 178 248 = some (.iload 5, 250) := by decide +kernel
theorem d178_250 : cod 178 250 = some (.aload_n 0, 251) := by decide +kernel
theorem d178_251 : cod 178 251 = some (.iload 7, 253) := by decide +kernel
theorem d178_253 : cod 178 253 = some (.invokevirtual 130, 256) := by decide +kernel
theorem d178_256 : cod 178 256 = some (.iadd, 257) := by decide +kernel
theorem d178_257 : cod 178 257 = some (.istore 5, 259) := by decide +kernel
theorem d178_259 : cod 178 259 = some (.iload 6, 261) := by decide +kernel
theorem d178_261 : cod 178 261 = some (.aload_n 0, 262) := by decide +kernel
theorem d178_262 : cod 178 262 = some (.iload 7, 264) := by decide +kernel
theorem d178_264 : cod 178 264 = some (.iconst 1, 265) := by decide +kernel
theorem d178_265 : cod 178 265 = some (.invokevirtual 127, 268) := by decide +kernel
theorem d178_268 : cod 178 268 = some (.isub, 269) := by decide +kernel
theorem d178_269 : cod 178 269 = some (.istore 6, 271) := by decide +kernel
theorem d178_271 : cod 178 271 = some (.iinc 7 1, 274) := by decide +kernel
theorem d178_274 : cod 178 274 = some (.goto (-192), 277) := by decide +kernel
theorem d178_277 : cod 178 277 = some (.iload 4, 279) := by decide +kernel
theorem d178_279 : cod 178 279 = some (.iload_n 3, 280) := by decide +kernel
theorem d178_280 : cod 178 280 = some (.ishr, 281) := by decide +kernel
theorem d178_281 : cod 178 281 = some (.ifCond .ne 45, 284) := by decide +kernel
theorem d178_284 : cod 178 284 = some (.iload 5, 286) := by decide +kernel
theorem d178_286 : cod 178 286 = some (.aload_n 0, 287) := by decide +kernel
theorem d178_287 : cod 178 287 = some (.bipush 9, 289) := by decide +kernel
theorem d178_289 : cod 178 289 = some (.iconst 0, 290) := by decide +kernel
theorem d178_290 : cod 178 290 = some (.invokevirtual 124, 293) := by decide +kernel
theorem d178_293 : cod 178 293 = some (.if_icmp .ne 33, 296) := by decide +kernel
theorem d178_296 : cod 178 296 = some (.iload 6, 298) := by decide +kernel
theorem d178_298 : cod 178 298 = some (.ifCond .lt 28, 301) := by decide +kernel
theorem d178_301 : cod 178 301 = some (.aload_n 0, 302) := by decide +kernel
theorem d178_302 : cod 178 302 = some (.bipush 8, 304) := by decide +kernel
theorem d178_304 : cod 178 304 = some (.iconst 0, 305) := by decide +kernel
theorem d178_305 : cod 178 305 = some (.invokevirtual 124, 308) := by decide +kernel
theorem d178_308 : cod 178 308 = some (.iload 5, 310) := by decide +kernel
theorem d178_310 : cod 178 310 = some (.if_icmp .gt 16, 313) := by decide +kernel
theorem d178_313 : cod 178 313 = some (.aload_n 0, 314) := by decide +kernel
theorem d178_314 : cod 178 314 = some (.invokevirtual 110, 317) := by decide +kernel
theorem d178_317 : cod 178 317 = some (.lload_n 1, 318) := by decide +kernel
theorem d178_318 : cod 178 318 = some (.lcmp, 319) := by decide +kernel
theorem d178_319 : cod 178 319 = some (.ifCond .ne 7, 322) := by decide +kernel
theorem d178_322 : cod 178 322 = some (.iconst 1, 323) := by decide +kernel
theorem d178_323 : cod 178 323 = some (.goto 4, 326) := by decide +kernel
theorem d178_326 : cod 178 326 = some (.iconst 0, 327) := by decide +kernel
theorem d178_327 : cod 178 327 = some (.ireturn, 328) := by decide +kernel
theorem d179_0 : cod 179 0 = some (.aload_n 0, 1) := by decide +kernel
theorem d179_1 : cod 179 1 = some (.invokespecial 1, 4) := by decide +kernel
theorem d179_4 : cod 179 4 = some (.aload_n 0, 5) := by decide +kernel
theorem d179_5 : cod 179 5 = some (.iconst 0, 6) := by decide +kernel
theorem d179_6 : cod 179 6 = some (.putfield 7, 9) := by decide +kernel
theorem d179_9 : cod 179 9 = some (.return_, 10) := by decide +kernel
theorem d180_0 : cod 180 0 = some (.aload_n 0, 1) := by decide +kernel
theorem d180_1 : cod 180 1 = some (.invokespecial 1, 4) := by decide +kernel
theorem d180_4 : cod 180 4 = some (.return_, 5) := by decide +kernel
theorem d181_0 : cod 181 0 = some (.iconst 0, 1) := by decide +kernel
theorem d181_1 : cod 181 1 = some (.istore_n 2, 2) := by decide +kernel
theorem d181_2 : cod 181 2 = some (.aload_n 0, 3) := by decide +kernel
theorem d181_3 : cod 181 3 = some (.arraylength, 4) := by decide +kernel
theorem d181_4 : cod 181 4 = some (.istore_n 3, 5) := by decide +kernel
theorem d181_5 : cod 181 5 = some (.iload_n 2, 6) := by decide +kernel
theorem d181_6 : cod 181 6 = some (.iload_n 3, 7) := by decide +kernel
theorem d181_7 : cod 181 7 = some (.if_icmp .ge 13, 10) := by decide +kernel
theorem d181_10 : cod 181 10 = some (.aload_n 0, 11) := by decide +kernel
theorem d181_11 : cod 181 11 = some (.iload_n 2, 12) := by decide +kernel
theorem d181_12 : cod 181 12 = some (.iload_n 1, 13) := by decide +kernel
theorem d181_13 : cod 181 13 = some (.iastore, 14) := by decide +kernel
theorem d181_14 : cod 181 14 = some (.iinc 2 1, 17) := by decide +kernel
theorem d181_17 : cod 181 17 = some (.goto (-12), 20) := by decide +kernel
theorem d181_20 : cod 181 20 = some (.return_, 21) := by decide +kernel
theorem d182_0 : cod 182 0 = some (.aload_n 0, 1) := by decide +kernel
theorem d182_1 : cod 182 1 = some (.iload_n 1, 2) := by decide +kernel
theorem d182_2 : cod 182 2 = some (.aload_n 0, 3) := by decide +kernel
theorem d182_3 : cod 182 3 = some (.invokevirtual 86, 6) := by decide +kernel
theorem d182_6 : cod 182 6 = some (.invokestatic 300, 9) := by decide +kernel
theorem d182_9 : cod 182 9 = some (.areturn, 10) := by decide +kernel
theorem d183_0 : cod 183 0 = some (.iconst 0, 1) := by decide +kernel
theorem d183_1 : cod 183 1 = some (.istore_n 3, 2) := by decide +kernel
theorem d183_2 : cod 183 2 = some (.aload_n 0, 3) := by decide +kernel
theorem d183_3 : cod 183 3 = some (.arraylength, 4) := by decide +kernel
theorem d183_4 : cod 183 4 = some (.istore 4, 6) := by decide +kernel
theorem d183_6 : cod 183 6 = some (.iload_n 3, 7) := by decide +kernel
theorem d183_7 : cod 183 7 = some (.iload 4, 9) := by decide +kernel
theorem d183_9 : cod 183 9 = some (.if_icmp .ge 13, 12) := by decide +kernel
theorem d183_12 : cod 183 12 = some (.aload_n 0, 13) := by decide +kernel
theorem d183_13 : cod 183 13 = some (.iload_n 3, 14) := by decide +kernel
theorem d183_14 : cod 183 14 = some (.lload_n 1, 15) := by decide +kernel
theorem d183_15 : cod 183 15 = some (.lastore, 16) := by decide +kernel
theorem d183_16 : cod 183 16 = some (.iinc 3 1, 19) := by decide +kernel
theorem d183_19 : cod 183 19 = some (.goto (-13), 22) := by decide +kernel
theorem d183_22 : cod 183 22 = some (.return_, 23) := by decide +kernel
theorem d184_0 : cod 184 0 = some (.iload_n 0, 1) := by decide +kernel
theorem d184_1 : cod 184 1 = some (.iload_n 1, 2) := by decide +kernel
theorem d184_2 : cod 184 2 = some (.aconst_null, 3) := by decide +kernel
theorem d184_3 : cod 184 3 = some (.invokestatic 105, 6) := by decide +kernel
theorem d184_6 : cod 184 6 = some (.ireturn, 7) := by decide +kernel
theorem d185_0 : cod 185 0 = some (.iload_n 0, 1) := by decide +kernel
theorem d185_1 : cod 185 1 = some (.ifCond .lt 8, 4) := by decide +kernel
theorem d185_4 : cod 185 4 = some (.iload_n 0, 5) := by decide +kernel
theorem d185_5 : cod 185 5 = some (.iload_n 1, 6) := by decide +kernel
theorem d185_6 : cod 185 6 = some (.if_icmp .lt 10, 9) := by decide +kernel
theorem d185_9 : cod 185 9 = some (.aload_n 2, 10) := by decide +kernel
theorem d185_10 : cod 185 10 = some (.iload_n 0, 11) := by decide +kernel
theorem d185_11 : cod 185 11 = some (.iload_n 1, 12) := by decide +kernel
theorem d185_12 : cod 185 12 = some (.invokestatic 95, 15) := by decide +kernel
theorem d185_15 : cod 185 15 = some (.athrow, 16) := by decide +kernel
theorem d185_16 : cod 185 16 = some (.iload_n 0, 17) := by decide +kernel
theorem d185_17 : cod 185 17 = some (.ireturn, 18) := by decide +kernel
theorem d186_0 : cod 186 0 = some (.iload_n 0, 1) := by decide +kernel
theorem d186_1 : cod 186 1 = some (.iload_n 0, 2) := by decide +kernel
theorem d186_2 : cod 186 2 = some (.iconst 1, 3) := by decide +kernel
theorem d186_3 : cod 186 3 = some (.iushr, 4) := by decide +kernel
theorem d186_4 : cod 186 4 = some (.ldc_w 265, 7) := by decide +kernel
theorem d186_7 : cod 186 7 = some (.iand, 8) := by decide +kernel
theorem d186_8 : cod 186 8 = some (.isub, 9) := by decide +kernel
theorem d186_9 : cod 186 9 = some (.istore_n 0, 10) := by decide +kernel
theorem d186_10 : cod 186 10 = some (.iload_n 0, 11) := by decide +kernel
theorem d186_11 : cod 186 11 = some (.ldc_w 266, 14) := by decide +kernel
theorem d186_14 : cod 186 14 = some (.iand, 15) := by decide +kernel
theorem d186_15 : cod 186 15 = some (.iload_n 0, 16) := by decide +kernel
theorem d186_16 : cod 186 16 = some (.iconst 2, 17) := by decide +kernel
theorem d186_17 : cod 186 17 = some (.iushr, 18) := by decide +kernel
theorem d186_18 : cod 186 18 = some (.ldc_w 266, 21) := by decide +kernel
theorem d186_21 : cod 186 21 = some (.iand, 22) := by decide +kernel
theorem d186_22 : cod 186 22 = some (.iadd, 23) := by decide +kernel
theorem d186_23 : cod 186 23 = some (.istore_n 0, 24) := by decide +kernel
theorem d186_24 : cod 186 24 = some (.iload_n 0, 25) := by decide +kernel
theorem d186_25 : cod 186 25 = some (.iload_n 0, 26) := by decide +kernel
theorem d186_26 : cod 186 26 = some (.iconst 4, 27) := by decide +kernel
theorem d186_27 : cod 186 27 = some (.iushr, 28) := by decide +kernel
theorem d186_28 : cod 186 28 = some (.iadd, 29) := by decide +kernel
theorem d186_29 : cod 186 29 = some (.ldc_w 267, 32) := by decide +kernel
theorem d186_32 : cod 186 32 = some (.iand, 33) := by decide +kernel
theorem d186_33 : cod 186 33 = some (.istore_n 0, 34) := by decide +kernel
theorem d186_34 : cod 186 34 = some (.iload_n 0, 35) := by decide +kernel
theorem d186_35 : cod 186 35 = some (.iload_n 0, 36) := by decide +kernel
theorem d186_36 : cod 186 36 = some (.bipush 8, 38) := by decide +kernel
theorem d186_38 : cod 186 38 = some (.iushr, 39) := by decide +kernel
theorem d186_39 : cod 186 39 = some (.iadd, 40) := by decide +kernel
theorem d186_40 : cod 186 40 = some (.istore_n 0, 41) := by decide +kernel
theorem d186_41 : cod 186 41 = some (.iload_n 0, 42) := by decide +kernel
theorem d186_42 : cod 186 42 = some (.iload_n 0, 43) := by decide +kernel
theorem d186_43 : cod 186 43 = some (.bipush 16, 45) := by decide +kernel
theorem d186_45 : cod 186 45 = some (.iushr, 46) := by decide +kernel
theorem d186_46 : cod 186 46 = some (.iadd, 47) := by decide +kernel
theorem d186_47 : cod 186 47 = some (.istore_n 0, 48) := by decide +kernel
theorem d186_48 : cod 186 48 = some (.iload_n 0, 49) := by decide +kernel
theorem d186_49 : cod 186 49 = some (.bipush 63, 51) := by decide +kernel
theorem d186_51 : cod 186 51 = some (.iand, 52) := by decide +kernel
theorem d186_52 : cod 186 52 = some (.ireturn, 53) := by decide +kernel
theorem d187_0 : cod 187 0 = some (.lload_n 0, 1) := by decide +kernel
theorem d187_1 : cod 187 1 = some (.lload_n 0, 2) := by decide +kernel
theorem d187_2 : cod 187 2 = some (.iconst 1, 3) := by decide +kernel
theorem d187_3 : cod 187 3 = some (.lushr, 4) := by decide +kernel
theorem d187_4 : cod 187 4 = some (.ldc2_w 314, 7) := by decide +kernel
theorem d187_7 : cod 187 7 = some (.land, 8) := by decide +kernel
theorem d187_8 : cod 187 8 = some (.lsub, 9) := by decide +kernel
theorem d187_9 : cod 187 9 = some (.lstore_n 0, 10) := by decide +kernel
theorem d187_10 : cod 187 10 = some (.lload_n 0, 11) := by decide +kernel
theorem d187_11 : cod 187 11 = some (.ldc2_w 316, 14) := by decide +kernel
theorem d187_14 : cod 187 14 = some (.land, 15) := by decide +kernel
theorem d187_15 : cod 187 15 = some (.lload_n 0, 16) := by decide +kernel
theorem d187_16 : cod 187 16 = some (.iconst 2, 17) := by decide +kernel
theorem d187_17 : cod 187 17 = some (.lushr, 18) := by decide +kernel
theorem d187_18 : cod 187 18 = some (.ldc2_w 316, 21) := by decide +kernel
theorem d187_21 : cod 187 21 = some (.land, 22) := by decide +kernel
theorem d187_22 : cod 187 22 = some (.ladd, 23) := by decide +kernel
theorem d187_23 : cod 187 23 = some (.lstore_n 0, 24) := by decide +kernel
theorem d187_24 : cod 187 24 = some (.lload_n 0, 25) := by decide +kernel
theorem d187_25 : cod 187 25 = some (.lload_n 0, 26) := by decide +kernel
theorem d187_26 : cod 187 26 = some (.iconst 4, 27) := by decide +kernel
theorem d187_27 : cod 187 27 = some (.lushr, 28) := by decide +kernel
theorem d187_28 : cod 187 28 = some (.ladd, 29) := by decide +kernel
theorem d187_29 : cod 187 29 = some (.ldc2_w 318, 32) := by decide +kernel
theorem d187_32 : cod 187 32 = some (.land, 33) := by decide +kernel
theorem d187_33 : cod 187 33 = some (.lstore_n 0, 34) := by decide +kernel
theorem d187_34 : cod 187 34 = some (.lload_n 0, 35) := by decide +kernel
theorem d187_35 : cod 187 35 = some (.lload_n 0, 36) := by decide +kernel
theorem d187_36 : cod 187 36 = some (.bipush 8, 38) := by decide +kernel
theorem d187_38 : cod 187 38 = some (.lushr, 39) := by decide +kernel
theorem d187_39 : cod 187 39 = some (.ladd, 40) := by decide +kernel
theorem d187_40 : cod 187 40 = some (.lstore_n 0, 41) := by decide +kernel
theorem d187_41 : cod 187 41 = some (.lload_n 0, 42) := by decide +kernel
theorem d187_42 : cod 187 42 = some (.lload_n 0, 43) := by decide +kernel
theorem d187_43 : cod 187 43 = some (.bipush 16, 45) := by decide +kernel
theorem d187_45 : cod 187 45 = some (.lushr, 46) := by decide +kernel
theorem d187_46 : cod 187 46 = some (.ladd, 47) := by decide +kernel
theorem d187_47 : cod 187 47 = some (.lstore_n 0, 48) := by decide +kernel
theorem d187_48 : cod 187 48 = some (.lload_n 0, 49) := by decide +kernel
theorem d187_49 : cod 187 49 = some (.lload_n 0, 50) := by decide +kernel
theorem d187_50 : cod 187 50 = some (.bipush 32, 52) := by decide +kernel
theorem d187_52 : cod 187 52 = some (.lushr, 53) := by decide +kernel
theorem d187_53 : cod 187 53 = some (.ladd, 54) := by decide +kernel
theorem d187_54 : cod 187 54 = some (.lstore_n 0, 55) := by decide +kernel
theorem d187_55 : cod 187 55 = some (.lload_n 0, 56) := by decide +kernel
theorem d187_56 : cod 187 56 = some (.l2i, 57) := by decide +kernel
theorem d187_57 : cod 187 57 = some (.bipush 127, 59) := by decide +kernel
theorem d187_59 : cod 187 59 = some (.iand, 60) := by decide +kernel
theorem d187_60 : cod 187 60 = some (.ireturn, 61) := by decide +kernel
theorem d188_0 : cod 188 0 = some (.iload_n 0, 1) := by decide +kernel
theorem d188_1 : cod 188 1 = some (.iload_n 1, 2) := by decide +kernel
theorem d188_2 : cod 188 2 = some (.if_icmp .gt 7, 5) := by decide +kernel
theorem d188_5 : cod 188 5 = some (.iload_n 0, 6) := by decide +kernel
theorem d188_6 : cod 188 6 = some (.goto 4, 9) := by decide +kernel
theorem d188_9 : cod 188 9 = some (.iload_n 1, 10) := by decide +kernel
theorem d188_10 : cod 188 10 = some (.ireturn, 11) := by decide +kernel
theorem d189_0 : cod 189 0 = some (.iload_n 0, 1) := by decide +kernel
theorem d189_1 : cod 189 1 = some (.iload_n 1, 2) := by decide +kernel
theorem d189_2 : cod 189 2 = some (.if_icmp .lt 7, 5) := by decide +kernel
theorem d189_5 : cod 189 5 = some (.iload_n 0, 6) := by decide +kernel
theorem d189_6 : cod 189 6 = some (.goto 4, 9) := by decide +kernel
theorem d189_9 : cod 189 9 = some (.iload_n 1, 10) := by decide +kernel
theorem d189_10 : cod 189 10 = some (.ireturn, 11) := by decide +kernel
theorem d190_0 : cod 190 0 = some (.iload_n 0, 1) := by decide +kernel
theorem d190_1 : cod 190 1 = some (.ifCond .ge 8, 4) := by decide +kernel
theorem d190_4 : cod 190 4 = some (.iload_n 0, 5) := by decide +kernel
theorem d190_5 : cod 190 5 = some (.ineg, 6) := by decide +kernel
theorem d190_6 : cod 190 6 = some (.goto 4, 9) := by decide +kernel
theorem d190_9 : cod 190 9 = some (.iload_n 0, 10) := by decide +kernel
theorem d190_10 : cod 190 10 = some (.ireturn, 11) := by decide +kernel
theorem d191_0 : cod 191 0 = some (.iload_n 0, 1) := by decide +kernel
theorem d191_1 : cod 191 1 = some (.iload_n 1, 2) := by decide +kernel
theorem d191_2 : cod 191 2 = some (.iload_n 2, 3) := by decide +kernel
theorem d191_3 : cod 191 3 = some (.invokestatic 194, 6) := by decide +kernel
theorem d191_6 : cod 191 6 = some (.iadd, 7) := by decide +kernel
theorem d191_7 : cod 191 7 = some (.istore_n 3, 8) := by decide +kernel
theorem d191_8 : cod 191 8 = some (.iconst 0, 9) := by decide +kernel
theorem d191_9 : cod 191 9 = some (.iload_n 3, 10) := by decide +kernel
theorem d191_10 : cod 191 10 = some (.if_icmp .ge 11, 13) := by decide +kernel
theorem d191_13 : cod 191 13 = some (.iload_n 3, 14) := by decide +kernel
theorem d191_14 : cod 191 14 = some (.ldc 200, 16) := by decide +kernel
theorem d191_16 : cod 191 16 = some (.if_icmp .gt 5, 19) := by decide +kernel
theorem d191_19 : cod 191 19 = some (.iload_n 3, 20) := by decide +kernel
theorem d191_20 : cod 191 20 = some (.ireturn, 21) := by decide +kernel
theorem d191_21 : cod 191 21 = some (.iload_n 0, 22) := by decide +kernel
theorem d191_22 : cod 191 22 = some (.iload_n 1, 23) := by decide +kernel
theorem d191_23 : cod 191 23 = some (.invokestatic 201, 26) := by decide +kernel
theorem d191_26 : cod 191 26 = some (.ireturn, 27) := by decide +kernel
theorem d192_0 : cod 192 0 = some (.iload_n 0, 1) := by decide +kernel
theorem d192_1 : cod 192 1 = some (.iload_n 1, 2) := by decide +kernel
theorem d192_2 : cod 192 2 = some (.iadd, 3) := by decide +kernel
theorem d192_3 : cod 192 3 = some (.istore_n 2, 4) := by decide +kernel
theorem d192_4 : cod 192 4 = some (.iload_n 2, 5) := by decide +kernel
theorem d192_5 : cod 192 5 = some (.ifCond .ge 44, 8) := by decide +kernel
theorem d192_8 : cod 192 8 = some (.new 204, 11) := by decide +kernel
theorem d192_11 : cod 192 11 = some (.dup, 12) := by decide +kernel
theorem d192_12 : cod 192 12 = some (.new 89, 15) := by decide +kernel
theorem d192_15 : cod 192 15 = some (.dup, 16) := by decide +kernel
theorem d192_16 : cod 192 16 = some (.invokespecial 91, 19) := by decide +kernel
theorem d192_19 : cod 192 19 = some (.ldc 206, 21) := by decide +kernel
theorem d192_21 : cod 192 21 = some (.invokevirtual 94, 24) := by decide +kernel
theorem d192_24 : cod 192 24 = some (.iload_n 0, 25) := by decide +kernel
theorem d192_25 : cod 192 25 = some (.invokevirtual 98, 28) := by decide +kernel
theorem d192_28 : cod 192 28 = some (.ldc 208, 30) := by decide +kernel
theorem d192_30 : cod 192 30 = some (.invokevirtual 94, 33) := by decide +kernel
theorem d192_33 : cod 192 33 = some (.iload_n 1, 34) := by decide +kernel
theorem d192_34 : cod 192 34 = some (.invokevirtual 98, 37) := by decide +kernel
theorem d192_37 : cod 192 37 = some (.ldc 210, 39) := by decide +kernel
theorem d192_39 : cod 192 39 = some (.invokevirtual 94, 42) := by decide +kernel
theorem d192_42 : cod 192 42 = some (.invokevirtual 101, 45) := by decide +kernel
theorem d192_45 : cod 192 45 = some (.invokespecial 212, 48) := by decide +kernel
theorem d192_48 : cod 192 48 = some (.athrow, 49) := by decide +kernel
theorem d192_49 : cod 192 49 = some (.iload_n 2, 50) := by decide +kernel
theorem d192_50 : cod 192 50 = some (.ldc 200, 52) := by decide +kernel
theorem d192_52 : cod 192 52 = some (.if_icmp .gt 6, 55) := by decide +kernel
theorem d192_55 : cod 192 55 = some (.ldc 200, 57) := by decide +kernel
theorem d192_57 : cod 192 57 = some (.ireturn, 58) := by decide +kernel
theorem d192_58 : cod 192 58 = some (.iload_n 2, 59) := by decide +kernel
theorem d192_59 : cod 192 59 = some (.ireturn, 60) := by decide +kernel
theorem d193_0 : cod 193 0 = some (.new 9, 3) := by decide +kernel
theorem d193_3 : cod 193 3 = some (.dup, 4) := by decide +kernel
theorem d193_4 : cod 193 4 = some (.invokespecial 11, 7) := by decide +kernel
theorem d193_7 : cod 193 7 = some (.astore_n 1, 8) := by decide +kernel
theorem d193_8 : cod 193 8 = some (.aload_n 1, 9) := by decide +kernel
theorem d193_9 : cod 193 9 = some (.iconst 2, 10) := by decide +kernel
theorem d193_10 : cod 193 10 = some (.aload_n 0, 11) := by decide +kernel
theorem d193_11 : cod 193 11 = some (.iconst 1, 12) := by decide +kernel
theorem d193_12 : cod 193 12 = some (.invokestatic 12, 15) := by decide +kernel
theorem d193_15 : cod 193 15 = some (.iconst 5, 16) := by decide +kernel
theorem d193_16 : cod 193 16 = some (.invokestatic 18, 19) := by decide +kernel
theorem d193_19 : cod 193 19 = some (.iadd, 20) := by decide +kernel
theorem d193_20 : cod 193 20 = some (.iconst 2, 21) := by decide +kernel
theorem d193_21 : cod 193 21 = some (.aload_n 0, 22) := by decide +kernel
theorem d193_22 : cod 193 22 = some (.iconst 2, 23) := by decide +kernel
theorem d193_23 : cod 193 23 = some (.invokestatic 12, 26) := by decide +kernel
theorem d193_26 : cod 193 26 = some (.iconst 3, 27) := by decide +kernel
theorem d193_27 : cod 193 27 = some (.invokestatic 18, 30) := by decide +kernel
theorem d193_30 : cod 193 30 = some (.iadd, 31) := by decide +kernel
theorem d193_31 : cod 193 31 = some (.invokevirtual 22, 34) := by decide +kernel
theorem d193_34 : cod 193 34 = some (.pop, 35) := by decide +kernel
theorem d193_35 : cod 193 35 = some (.aload_n 1, 36) := by decide +kernel
theorem d193_36 : cod 193 36 = some (.aload_n 0, 37) := by decide +kernel
theorem d193_37 : cod 193 37 = some (.iconst 3, 38) := by decide +kernel
theorem d193_38 : cod 193 38 = some (.invokestatic 12, 41) := by decide +kernel
theorem d193_41 : cod 193 41 = some (.bipush 100, 43) := by decide +kernel
theorem d193_43 : cod 193 43 = some (.invokestatic 18, 46) := by decide +kernel
theorem d193_46 : cod 193 46 = some (.invokevirtual 25, 49) := by decide +kernel
theorem d193_49 : cod 193 49 = some (.pop, 50) := by decide +kernel
theorem d193_50 : cod 193 50 = some (.aload_n 1, 51) := by decide +kernel
theorem d193_51 : cod 193 51 = some (.iconst 0, 52) := by decide +kernel
theorem d193_52 : cod 193 52 = some (.iconst 1, 53) := by decide +kernel
theorem d193_53 : cod 193 53 = some (.iconst 2, 54) := by decide +kernel
theorem d193_54 : cod 193 54 = some (.iconst 1, 55) := by decide +kernel
theorem d193_55 : cod 193 55 = some (.aload_n 0, 56) := by decide +kernel
theorem d193_56 : cod 193 56 = some (.iconst 4, 57) := by decide +kernel
theorem d193_57 : cod 193 57 = some (.invokestatic 12, 60) := by decide +kernel
theorem d193_60 : cod 193 60 = some (.bipush 20, 62) := by decide +kernel
theorem d193_62 : cod 193 62 = some (.invokestatic 18, 65) := by decide +kernel
theorem d193_65 : cod 193 65 = some (.iadd, 66) := by decide +kernel
theorem d193_66 : cod 193 66 = some (.invokevirtual 29, 69) := by decide +kernel
theorem d193_69 : cod 193 69 = some (.pop, 70) := by decide +kernel
theorem d193_70 : cod 193 70 = some (.aload_n 1, 71) := by decide +kernel
theorem d193_71 : cod 193 71 = some (.iconst 0, 72) := by decide +kernel
theorem d193_72 : cod 193 72 = some (.iconst 0, 73) := by decide +kernel
theorem d193_73 : cod 193 73 = some (.sipush 999, 76) := by decide +kernel
theorem d193_76 : cod 193 76 = some (.invokevirtual 33, 79) := by decide +kernel
theorem d193_79 : cod 193 79 = some (.pop, 80) := by decide +kernel
theorem d193_80 : cod 193 80 = some (.aload_n 1, 81) := by decide +kernel
theorem d193_81 : cod 193 81 = some (.iconst 1, 82) := by decide +kernel
theorem d193_82 : cod 193 82 = some (.aload_n 0, 83) := by decide +kernel
theorem d193_83 : cod 193 83 = some (.iconst 5, 84) := by decide +kernel
theorem d193_84 : cod 193 84 = some (.invokestatic 12, 87) := by decide +kernel
theorem d193_87 : cod 193 87 = some (.bipush 9, 89) := by decide +kernel
theorem d193_89 : cod 193 89 = some (.invokestatic 18, 92) := by decide +kernel
theorem d193_92 : cod 193 92 = some (.iadd, 93) := by decide +kernel
theorem d193_93 : cod 193 93 = some (.iconst 0, 94) := by decide +kernel
theorem d193_94 : cod 193 94 = some (.sipush 500, 97) := by decide +kernel
theorem d193_97 : cod 193 97 = some (.invokevirtual 37, 100) := by decide +kernel
theorem d193_100 : cod 193 100 = some (.pop, 101) := by decide +kernel
theorem d193_101 : cod 193 101 = some (.iconst 0, 102) := by decide +kernel
theorem d193_102 : cod 193 102 = some (.istore_n 2, 103) := by decide +kernel
theorem d193_103 : cod 193 103 = some (.iload_n 2, 104) := by decide +kernel
theorem d193_104 : cod 193 104 = some (.bipush 50, 106) := by decide +kernel
theorem d193_106 : cod 193 106 = some (.if_icmp .ge 54, 109) := by decide +kernel
theorem d193_109 : cod 193 109 = some (.aload_n 0, 110) := by decide +kernel
theorem d193_110 : cod 193 110 = some (.iload_n 2, 111) := by decide +kernel
theorem d193_111 : cod 193 111 = some (.bipush 16, 113) := by decide +kernel
theorem d193_113 : cod 193 113 = some (.irem, 114) := by decide +kernel
theorem d193_114 : cod 193 114 = some (.invokestatic 12, 117) := by decide +kernel
theorem d193_117 : cod 193 117 = some (.bipush 37, 119) := by decide +kernel
theorem d193_119 : cod 193 119 = some (.iload_n 2, 120) := by decide +kernel
theorem d193_120 : cod 193 120 = some (.imul, 121) := by decide +kernel
theorem d193_121 : cod 193 121 = some (.iadd, 122) := by decide +kernel
theorem d193_122 : cod 193 122 = some (.istore_n 3, 123) := by decide +kernel
theorem d193_123 : cod 193 123 = some (.aload_n 1, 124) := by decide +kernel
theorem d193_124 : cod 193 124 = some (.iload_n 3, 125) := by decide +kernel
theorem d193_125 : cod 193 125 = some (.iconst 2, 126) := by decide +kernel
theorem d193_126 : cod 193 126 = some (.ishr, 127) := by decide +kernel
theorem d193_127 : cod 193 127 = some (.iload_n 3, 128) := by decide +kernel
theorem d193_128 : cod 193 128 = some (.bipush 17, 130) := by decide +kernel
theorem d193_130 : cod 193 130 = some (.invokestatic 18, 133) := by decide +kernel
theorem d193_133 : cod 193 133 = some (.invokestatic 40, 136) := by decide +kernel
theorem d193_136 : cod 193 136 = some (.iload_n 2, 137) := by decide +kernel
theorem d193_137 : cod 193 137 = some (.bipush 8, 139) := by decide +kernel
theorem d193_139 : cod 193 139 = some (.irem, 140) := by decide +kernel
theorem d193_140 : cod 193 140 = some (.bipush 7, 142) := by decide +kernel
theorem d193_142 : cod 193 142 = some (.if_icmp .ne 12, 145) := by decide +kernel
theorem d193_145 : cod 193 145 = some (.aload_n 1, 146) := by decide +kernel
theorem d193_146 : cod 193 146 = some (.invokestatic 44, 149) := by decide +kernel
theorem d193_149 : cod 193 149 = some (.ifCond .ne 5, 152) := by decide +kernel
theorem d193_152 : cod 193 152 = some (.iconst 0, 153) := by decide +kernel
theorem d193_153 : cod 193 153 = some (.ireturn, 154) := by decide +kernel
theorem d193_154 : cod 193 154 = some (.iinc 2 1, 157) := by decide +kernel
theorem d193_157 : cod 193 157 = some (.goto (-54), 160) := by decide +kernel
theorem d193_160 : cod 193 160 = some (.iconst 1, 161) := by decide +kernel
theorem d193_161 : cod 193 161 = some (.ireturn, 162) := by decide +kernel
