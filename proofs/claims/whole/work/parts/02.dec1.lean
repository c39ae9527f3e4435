theorem dX0_has_0 : decode cX0_has 0 = .ok (.iload_n 0, 1) := by decide +kernel
theorem dX0_has_1 : decode cX0_has 1 = .ok (.iload_n 1, 1) := by decide +kernel
theorem dX0_has_2 : decode cX0_has 2 = .ok (.iushr, 1) := by decide +kernel
theorem dX0_has_3 : decode cX0_has 3 = .ok (.iconst 1, 1) := by decide +kernel
theorem dX0_has_4 : decode cX0_has 4 = .ok (.iand, 1) := by decide +kernel
theorem dX0_has_5 : decode cX0_has 5 = .ok (.ifCond .eq 7, 3) := by decide +kernel
theorem dX0_has_8 : decode cX0_has 8 = .ok (.iconst 1, 1) := by decide +kernel
theorem dX0_has_9 : decode cX0_has 9 = .ok (.goto 4, 3) := by decide +kernel
theorem dX0_has_12 : decode cX0_has 12 = .ok (.iconst 0, 1) := by decide +kernel
theorem dX0_has_13 : decode cX0_has 13 = .ok (.ireturn, 1) := by decide +kernel
theorem dX0_spread_0 : decode cX0_spread 0 = .ok (.iload_n 0, 1) := by decide +kernel
theorem dX0_spread_1 : decode cX0_spread 1 = .ok (.bipush 6, 2) := by decide +kernel
theorem dX0_spread_3 : decode cX0_spread 3 = .ok (.ishl, 1) := by decide +kernel
theorem dX0_spread_4 : decode cX0_spread 4 = .ok (.iload_n 0, 1) := by decide +kernel
theorem dX0_spread_5 : decode cX0_spread 5 = .ok (.bipush 6, 2) := by decide +kernel
theorem dX0_spread_7 : decode cX0_spread 7 = .ok (.iushr, 1) := by decide +kernel
theorem dX0_spread_8 : decode cX0_spread 8 = .ok (.ior, 1) := by decide +kernel
theorem dX0_spread_9 : decode cX0_spread 9 = .ok (.istore_n 1, 1) := by decide +kernel
theorem dX0_spread_10 : decode cX0_spread 10 = .ok (.iload_n 0, 1) := by decide +kernel
theorem dX0_spread_11 : decode cX0_spread 11 = .ok (.ldc 11, 2) := by decide +kernel
theorem dX0_spread_13 : decode cX0_spread 13 = .ok (.iand, 1) := by decide +kernel
theorem dX0_spread_14 : decode cX0_spread 14 = .ok (.iconst 1, 1) := by decide +kernel
theorem dX0_spread_15 : decode cX0_spread 15 = .ok (.ishl, 1) := by decide +kernel
theorem dX0_spread_16 : decode cX0_spread 16 = .ok (.iload_n 0, 1) := by decide +kernel
theorem dX0_spread_17 : decode cX0_spread 17 = .ok (.ldc 12, 2) := by decide +kernel
theorem dX0_spread_19 : decode cX0_spread 19 = .ok (.iand, 1) := by decide +kernel
theorem dX0_spread_20 : decode cX0_spread 20 = .ok (.iconst 1, 1) := by decide +kernel
theorem dX0_spread_21 : decode cX0_spread 21 = .ok (.iushr, 1) := by decide +kernel
theorem dX0_spread_22 : decode cX0_spread 22 = .ok (.ior, 1) := by decide +kernel
theorem dX0_spread_23 : decode cX0_spread 23 = .ok (.istore_n 2, 1) := by decide +kernel
theorem dX0_spread_24 : decode cX0_spread 24 = .ok (.iload_n 0, 1) := by decide +kernel
theorem dX0_spread_25 : decode cX0_spread 25 = .ok (.iload_n 1, 1) := by decide +kernel
theorem dX0_spread_26 : decode cX0_spread 26 = .ok (.ior, 1) := by decide +kernel
theorem dX0_spread_27 : decode cX0_spread 27 = .ok (.iload_n 2, 1) := by decide +kernel
theorem dX0_spread_28 : decode cX0_spread 28 = .ok (.ior, 1) := by decide +kernel
theorem dX0_spread_29 : decode cX0_spread 29 = .ok (.ldc 13, 2) := by decide +kernel
theorem dX0_spread_31 : decode cX0_spread 31 = .ok (.iand, 1) := by decide +kernel
theorem dX0_spread_32 : decode cX0_spread 32 = .ok (.ireturn, 1) := by decide +kernel
theorem dX0_partAround_0 : decode cX0_partAround 0 = .ok (.iload_n 0, 1) := by decide +kernel
theorem dX0_partAround_1 : decode cX0_partAround 1 = .ok (.iload_n 1, 1) := by decide +kernel
theorem dX0_partAround_2 : decode cX0_partAround 2 = .ok (.iand, 1) := by decide +kernel
theorem dX0_partAround_3 : decode cX0_partAround 3 = .ok (.istore_n 2, 1) := by decide +kernel
theorem dX0_partAround_4 : decode cX0_partAround 4 = .ok (.iconst 0, 1) := by decide +kernel
theorem dX0_partAround_5 : decode cX0_partAround 5 = .ok (.istore_n 3, 1) := by decide +kernel
theorem dX0_partAround_6 : decode cX0_partAround 6 = .ok (.iload_n 3, 1) := by decide +kernel
theorem dX0_partAround_7 : decode cX0_partAround 7 = .ok (.bipush 30, 2) := by decide +kernel
theorem dX0_partAround_9 : decode cX0_partAround 9 = .ok (.if_icmp .ge 16, 3) := by decide +kernel
theorem dX0_partAround_12 : decode cX0_partAround 12 = .ok (.iload_n 2, 1) := by decide +kernel
theorem dX0_partAround_13 : decode cX0_partAround 13 = .ok (.invokestatic 14, 3) := by decide +kernel
theorem dX0_partAround_16 : decode cX0_partAround 16 = .ok (.iload_n 1, 1) := by decide +kernel
theorem dX0_partAround_17 : decode cX0_partAround 17 = .ok (.iand, 1) := by decide +kernel
theorem dX0_partAround_18 : decode cX0_partAround 18 = .ok (.istore_n 2, 1) := by decide +kernel
theorem dX0_partAround_19 : decode cX0_partAround 19 = .ok (.iinc 3 1, 3) := by decide +kernel
theorem dX0_partAround_22 : decode cX0_partAround 22 = .ok (.goto (-16), 3) := by decide +kernel
theorem dX0_partAround_25 : decode cX0_partAround 25 = .ok (.iload_n 2, 1) := by decide +kernel
theorem dX0_partAround_26 : decode cX0_partAround 26 = .ok (.ireturn, 1) := by decide +kernel
theorem dX0_partsOf_0 : decode cX0_partsOf 0 = .ok (.iconst 0, 1) := by decide +kernel
theorem dX0_partsOf_1 : decode cX0_partsOf 1 = .ok (.istore_n 1, 1) := by decide +kernel
theorem dX0_partsOf_2 : decode cX0_partsOf 2 = .ok (.iload_n 0, 1) := by decide +kernel
theorem dX0_partsOf_3 : decode cX0_partsOf 3 = .ok (.istore_n 2, 1) := by decide +kernel
theorem dX0_partsOf_4 : decode cX0_partsOf 4 = .ok (.iconst 0, 1) := by decide +kernel
theorem dX0_partsOf_5 : decode cX0_partsOf 5 = .ok (.istore_n 3, 1) := by decide +kernel
theorem dX0_partsOf_6 : decode cX0_partsOf 6 = .ok (.iload_n 3, 1) := by decide +kernel
theorem dX0_partsOf_7 : decode cX0_partsOf 7 = .ok (.bipush 30, 2) := by decide +kernel
theorem dX0_partsOf_9 : decode cX0_partsOf 9 = .ok (.if_icmp .ge 29, 3) := by decide +kernel
theorem dX0_partsOf_12 : decode cX0_partsOf 12 = .ok (.iload_n 2, 1) := by decide +kernel
theorem dX0_partsOf_13 : decode cX0_partsOf 13 = .ok (.ifCond .eq 25, 3) := by decide +kernel
theorem dX0_partsOf_16 : decode cX0_partsOf 16 = .ok (.iload_n 2, 1) := by decide +kernel
theorem dX0_partsOf_17 : decode cX0_partsOf 17 = .ok (.iload_n 2, 1) := by decide +kernel
theorem dX0_partsOf_18 : decode cX0_partsOf 18 = .ok (.iload_n 2, 1) := by decide +kernel
theorem dX0_partsOf_19 : decode cX0_partsOf 19 = .ok (.ineg, 1) := by decide +kernel
theorem dX0_partsOf_20 : decode cX0_partsOf 20 = .ok (.iand, 1) := by decide +kernel
theorem dX0_partsOf_21 : decode cX0_partsOf 21 = .ok (.iload_n 2, 1) := by decide +kernel
theorem dX0_partsOf_22 : decode cX0_partsOf 22 = .ok (.invokestatic 18, 3) := by decide +kernel
theorem dX0_partsOf_25 : decode cX0_partsOf 25 = .ok (.iconst (-1), 1) := by decide +kernel
theorem dX0_partsOf_26 : decode cX0_partsOf 26 = .ok (.ixor, 1) := by decide +kernel
theorem dX0_partsOf_27 : decode cX0_partsOf 27 = .ok (.iand, 1) := by decide +kernel
theorem dX0_partsOf_28 : decode cX0_partsOf 28 = .ok (.istore_n 2, 1) := by decide +kernel
theorem dX0_partsOf_29 : decode cX0_partsOf 29 = .ok (.iinc 1 1, 3) := by decide +kernel
theorem dX0_partsOf_32 : decode cX0_partsOf 32 = .ok (.iinc 3 1, 3) := by decide +kernel
theorem dX0_partsOf_35 : decode cX0_partsOf 35 = .ok (.goto (-29), 3) := by decide +kernel
theorem dX0_partsOf_38 : decode cX0_partsOf 38 = .ok (.iload_n 1, 1) := by decide +kernel
theorem dX0_partsOf_39 : decode cX0_partsOf 39 = .ok (.ireturn, 1) := by decide +kernel
theorem dX0_beside_0 : decode cX0_beside 0 = .ok (.iload_n 0, 1) := by decide +kernel
theorem dX0_beside_1 : decode cX0_beside 1 = .ok (.bipush 6, 2) := by decide +kernel
theorem dX0_beside_3 : decode cX0_beside 3 = .ok (.irem, 1) := by decide +kernel
theorem dX0_beside_4 : decode cX0_beside 4 = .ok (.istore_n 2, 1) := by decide +kernel
theorem dX0_beside_5 : decode cX0_beside 5 = .ok (.iload_n 1, 1) := by decide +kernel
theorem dX0_beside_6 : decode cX0_beside 6 = .ok (.tableswitch 92 0 3 #[30, 49, 63, 79], 30) := by decide +kernel
theorem dX0_beside_36 : decode cX0_beside 36 = .ok (.iload_n 0, 1) := by decide +kernel
theorem dX0_beside_37 : decode cX0_beside 37 = .ok (.bipush 6, 2) := by decide +kernel
theorem dX0_beside_39 : decode cX0_beside 39 = .ok (.iadd, 1) := by decide +kernel
theorem dX0_beside_40 : decode cX0_beside 40 = .ok (.bipush 30, 2) := by decide +kernel
theorem dX0_beside_42 : decode cX0_beside 42 = .ok (.if_icmp .ge 10, 3) := by decide +kernel
theorem dX0_beside_45 : decode cX0_beside 45 = .ok (.iload_n 0, 1) := by decide +kernel
theorem dX0_beside_46 : decode cX0_beside 46 = .ok (.bipush 6, 2) := by decide +kernel
theorem dX0_beside_48 : decode cX0_beside 48 = .ok (.iadd, 1) := by decide +kernel
theorem dX0_beside_49 : decode cX0_beside 49 = .ok (.goto 5, 3) := by decide +kernel
theorem dX0_beside_52 : decode cX0_beside 52 = .ok (.ldc 22, 2) := by decide +kernel
theorem dX0_beside_54 : decode cX0_beside 54 = .ok (.ireturn, 1) := by decide +kernel
theorem dX0_beside_55 : decode cX0_beside 55 = .ok (.iload_n 2, 1) := by decide +kernel
theorem dX0_beside_56 : decode cX0_beside 56 = .ok (.iconst 5, 1) := by decide +kernel
theorem dX0_beside_57 : decode cX0_beside 57 = .ok (.if_icmp .ge 9, 3) := by decide +kernel
theorem dX0_beside_60 : decode cX0_beside 60 = .ok (.iload_n 0, 1) := by decide +kernel
theorem dX0_beside_61 : decode cX0_beside 61 = .ok (.iconst 1, 1) := by decide +kernel
theorem dX0_beside_62 : decode cX0_beside 62 = .ok (.iadd, 1) := by decide +kernel
theorem dX0_beside_63 : decode cX0_beside 63 = .ok (.goto 5, 3) := by decide +kernel
theorem dX0_beside_66 : decode cX0_beside 66 = .ok (.ldc 22, 2) := by decide +kernel
theorem dX0_beside_68 : decode cX0_beside 68 = .ok (.ireturn, 1) := by decide +kernel
theorem dX0_beside_69 : decode cX0_beside 69 = .ok (.iload_n 0, 1) := by decide +kernel
theorem dX0_beside_70 : decode cX0_beside 70 = .ok (.bipush 6, 2) := by decide +kernel
theorem dX0_beside_72 : decode cX0_beside 72 = .ok (.if_icmp .lt 10, 3) := by decide +kernel
theorem dX0_beside_75 : decode cX0_beside 75 = .ok (.iload_n 0, 1) := by decide +kernel
theorem dX0_beside_76 : decode cX0_beside 76 = .ok (.bipush 6, 2) := by decide +kernel
theorem dX0_beside_78 : decode cX0_beside 78 = .ok (.isub, 1) := by decide +kernel
theorem dX0_beside_79 : decode cX0_beside 79 = .ok (.goto 5, 3) := by decide +kernel
theorem dX0_beside_82 : decode cX0_beside 82 = .ok (.ldc 22, 2) := by decide +kernel
theorem dX0_beside_84 : decode cX0_beside 84 = .ok (.ireturn, 1) := by decide +kernel
theorem dX0_beside_85 : decode cX0_beside 85 = .ok (.iload_n 2, 1) := by decide +kernel
theorem dX0_beside_86 : decode cX0_beside 86 = .ok (.ifCond .le 9, 3) := by decide +kernel
theorem dX0_beside_89 : decode cX0_beside 89 = .ok (.iload_n 0, 1) := by decide +kernel
theorem dX0_beside_90 : decode cX0_beside 90 = .ok (.iconst 1, 1) := by decide +kernel
theorem dX0_beside_91 : decode cX0_beside 91 = .ok (.isub, 1) := by decide +kernel
theorem dX0_beside_92 : decode cX0_beside 92 = .ok (.goto 5, 3) := by decide +kernel
theorem dX0_beside_95 : decode cX0_beside 95 = .ok (.ldc 22, 2) := by decide +kernel
theorem dX0_beside_97 : decode cX0_beside 97 = .ok (.ireturn, 1) := by decide +kernel
theorem dX0_beside_98 : decode cX0_beside 98 = .ok (.ldc 22, 2) := by decide +kernel
theorem dX0_beside_100 : decode cX0_beside 100 = .ok (.ireturn, 1) := by decide +kernel
theorem dX0_firstBeside_0 : decode cX0_firstBeside 0 = .ok (.iconst 0, 1) := by decide +kernel
theorem dX0_firstBeside_1 : decode cX0_firstBeside 1 = .ok (.istore_n 2, 1) := by decide +kernel
theorem dX0_firstBeside_2 : decode cX0_firstBeside 2 = .ok (.iload_n 2, 1) := by decide +kernel
theorem dX0_firstBeside_3 : decode cX0_firstBeside 3 = .ok (.iconst 4, 1) := by decide +kernel
theorem dX0_firstBeside_4 : decode cX0_firstBeside 4 = .ok (.if_icmp .ge 31, 3) := by decide +kernel
theorem dX0_firstBeside_7 : decode cX0_firstBeside 7 = .ok (.iload_n 0, 1) := by decide +kernel
theorem dX0_firstBeside_8 : decode cX0_firstBeside 8 = .ok (.iload_n 2, 1) := by decide +kernel
theorem dX0_firstBeside_9 : decode cX0_firstBeside 9 = .ok (.invokestatic 23, 3) := by decide +kernel
theorem dX0_firstBeside_12 : decode cX0_firstBeside 12 = .ok (.istore_n 3, 1) := by decide +kernel
theorem dX0_firstBeside_13 : decode cX0_firstBeside 13 = .ok (.iload_n 3, 1) := by decide +kernel
theorem dX0_firstBeside_14 : decode cX0_firstBeside 14 = .ok (.ldc 22, 2) := by decide +kernel
theorem dX0_firstBeside_16 : decode cX0_firstBeside 16 = .ok (.if_icmp .eq 13, 3) := by decide +kernel
theorem dX0_firstBeside_19 : decode cX0_firstBeside 19 = .ok (.iload_n 1, 1) := by decide +kernel
theorem dX0_firstBeside_20 : decode cX0_firstBeside 20 = .ok (.iload_n 3, 1) := by decide +kernel
theorem dX0_firstBeside_21 : decode cX0_firstBeside 21 = .ok (.invokestatic 26, 3) := by decide +kernel
theorem dX0_firstBeside_24 : decode cX0_firstBeside 24 = .ok (.ifCond .eq 5, 3) := by decide +kernel
theorem dX0_firstBeside_27 : decode cX0_firstBeside 27 = .ok (.iload_n 3, 1) := by decide +kernel
theorem dX0_firstBeside_28 : decode cX0_firstBeside 28 = .ok (.ireturn, 1) := by decide +kernel
theorem dX0_firstBeside_29 : decode cX0_firstBeside 29 = .ok (.iinc 2 1, 3) := by decide +kernel
theorem dX0_firstBeside_32 : decode cX0_firstBeside 32 = .ok (.goto (-30), 3) := by decide +kernel
theorem dX0_firstBeside_35 : decode cX0_firstBeside 35 = .ok (.ldc 22, 2) := by decide +kernel
theorem dX0_firstBeside_37 : decode cX0_firstBeside 37 = .ok (.ireturn, 1) := by decide +kernel
theorem dX1_init_0 : decode cX1_init 0 = .ok (.aload_n 0, 1) := by decide +kernel
theorem dX1_init_1 : decode cX1_init 1 = .ok (.invokespecial 3, 3) := by decide +kernel
theorem dX1_init_4 : decode cX1_init 4 = .ok (.aload_n 0, 1) := by decide +kernel
theorem dX1_init_5 : decode cX1_init 5 = .ok (.bipush 30, 2) := by decide +kernel
theorem dX1_init_7 : decode cX1_init 7 = .ok (.newarray .int, 2) := by decide +kernel
theorem dX1_init_9 : decode cX1_init 9 = .ok (.putfield 9, 3) := by decide +kernel
theorem dX1_init_12 : decode cX1_init 12 = .ok (.aload_n 0, 1) := by decide +kernel
theorem dX1_init_13 : decode cX1_init 13 = .ok (.bipush 30, 2) := by decide +kernel
theorem dX1_init_15 : decode cX1_init 15 = .ok (.newarray .int, 2) := by decide +kernel
theorem dX1_init_17 : decode cX1_init 17 = .ok (.putfield 15, 3) := by decide +kernel
theorem dX1_init_20 : decode cX1_init 20 = .ok (.aload_n 0, 1) := by decide +kernel
theorem dX1_init_21 : decode cX1_init 21 = .ok (.bipush 30, 2) := by decide +kernel
theorem dX1_init_23 : decode cX1_init 23 = .ok (.newarray .int, 2) := by decide +kernel
theorem dX1_init_25 : decode cX1_init 25 = .ok (.putfield 18, 3) := by decide +kernel
theorem dX1_init_28 : decode cX1_init 28 = .ok (.aload_n 0, 1) := by decide +kernel
theorem dX1_init_29 : decode cX1_init 29 = .ok (.bipush 30, 2) := by decide +kernel
theorem dX1_init_31 : decode cX1_init 31 = .ok (.newarray .int, 2) := by decide +kernel
theorem dX1_init_33 : decode cX1_init 33 = .ok (.putfield 21, 3) := by decide +kernel
theorem dX1_init_36 : decode cX1_init 36 = .ok (.aload_n 0, 1) := by decide +kernel
theorem dX1_init_37 : decode cX1_init 37 = .ok (.bipush 6, 2) := by decide +kernel
theorem dX1_init_39 : decode cX1_init 39 = .ok (.newarray .int, 2) := by decide +kernel
theorem dX1_init_41 : decode cX1_init 41 = .ok (.dup, 1) := by decide +kernel
theorem dX1_init_42 : decode cX1_init 42 = .ok (.iconst 0, 1) := by decide +kernel
theorem dX1_init_43 : decode cX1_init 43 = .ok (.iconst 2, 1) := by decide +kernel
theorem dX1_init_44 : decode cX1_init 44 = .ok (.iastore, 1) := by decide +kernel
theorem dX1_init_45 : decode cX1_init 45 = .ok (.dup, 1) := by decide +kernel
theorem dX1_init_46 : decode cX1_init 46 = .ok (.iconst 1, 1) := by decide +kernel
theorem dX1_init_47 : decode cX1_init 47 = .ok (.bipush 8, 2) := by decide +kernel
theorem dX1_init_49 : decode cX1_init 49 = .ok (.iastore, 1) := by decide +kernel
theorem dX1_init_50 : decode cX1_init 50 = .ok (.dup, 1) := by decide +kernel
theorem dX1_init_51 : decode cX1_init 51 = .ok (.iconst 2, 1) := by decide +kernel
theorem dX1_init_52 : decode cX1_init 52 = .ok (.iconst 3, 1) := by decide +kernel
theorem dX1_init_53 : decode cX1_init 53 = .ok (.iastore, 1) := by decide +kernel
theorem dX1_init_54 : decode cX1_init 54 = .ok (.dup, 1) := by decide +kernel
theorem dX1_init_55 : decode cX1_init 55 = .ok (.iconst 3, 1) := by decide +kernel
theorem dX1_init_56 : decode cX1_init 56 = .ok (.iconst 0, 1) := by decide +kernel
theorem dX1_init_57 : decode cX1_init 57 = .ok (.iastore, 1) := by decide +kernel
theorem dX1_init_58 : decode cX1_init 58 = .ok (.dup, 1) := by decide +kernel
theorem dX1_init_59 : decode cX1_init 59 = .ok (.iconst 4, 1) := by decide +kernel
theorem dX1_init_60 : decode cX1_init 60 = .ok (.bipush 20, 2) := by decide +kernel
theorem dX1_init_62 : decode cX1_init 62 = .ok (.iastore, 1) := by decide +kernel
theorem dX1_init_63 : decode cX1_init 63 = .ok (.dup, 1) := by decide +kernel
theorem dX1_init_64 : decode cX1_init 64 = .ok (.iconst 5, 1) := by decide +kernel
theorem dX1_init_65 : decode cX1_init 65 = .ok (.iconst 1, 1) := by decide +kernel
theorem dX1_init_66 : decode cX1_init 66 = .ok (.iastore, 1) := by decide +kernel
theorem dX1_init_67 : decode cX1_init 67 = .ok (.putfield 24, 3) := by decide +kernel
theorem dX1_init_70 : decode cX1_init 70 = .ok (.aload_n 0, 1) := by decide +kernel
theorem dX1_init_71 : decode cX1_init 71 = .ok (.bipush 8, 2) := by decide +kernel
theorem dX1_init_73 : decode cX1_init 73 = .ok (.newarray .int, 2) := by decide +kernel
theorem dX1_init_75 : decode cX1_init 75 = .ok (.putfield 27, 3) := by decide +kernel
theorem dX1_init_78 : decode cX1_init 78 = .ok (.aload_n 0, 1) := by decide +kernel
theorem dX1_init_79 : decode cX1_init 79 = .ok (.bipush 8, 2) := by decide +kernel
theorem dX1_init_81 : decode cX1_init 81 = .ok (.newarray .int, 2) := by decide +kernel
theorem dX1_init_83 : decode cX1_init 83 = .ok (.putfield 30, 3) := by decide +kernel
theorem dX1_init_86 : decode cX1_init 86 = .ok (.aload_n 0, 1) := by decide +kernel
theorem dX1_init_87 : decode cX1_init 87 = .ok (.iconst 1, 1) := by decide +kernel
theorem dX1_init_88 : decode cX1_init 88 = .ok (.putfield 33, 3) := by decide +kernel
theorem dX1_init_91 : decode cX1_init 91 = .ok (.aload_n 0, 1) := by decide +kernel
theorem dX1_init_92 : decode cX1_init 92 = .ok (.aload_n 1, 1) := by decide +kernel
theorem dX1_init_93 : decode cX1_init 93 = .ok (.putfield 37, 3) := by decide +kernel
theorem dX1_init_96 : decode cX1_init 96 = .ok (.aload_n 0, 1) := by decide +kernel
theorem dX1_init_97 : decode cX1_init 97 = .ok (.getfield 21, 3) := by decide +kernel
theorem dX1_init_100 : decode cX1_init 100 = .ok (.ldc 41, 2) := by decide +kernel
theorem dX1_init_102 : decode cX1_init 102 = .ok (.invokestatic 42, 3) := by decide +kernel
theorem dX1_init_105 : decode cX1_init 105 = .ok (.return_, 1) := by decide +kernel
theorem dX1_becomeLike_0 : decode cX1_becomeLike 0 = .ok (.aload_n 1, 1) := by decide +kernel
theorem dX1_becomeLike_1 : decode cX1_becomeLike 1 = .ok (.getfield 9, 3) := by decide +kernel
theorem dX1_becomeLike_4 : decode cX1_becomeLike 4 = .ok (.iconst 0, 1) := by decide +kernel
theorem dX1_becomeLike_5 : decode cX1_becomeLike 5 = .ok (.aload_n 0, 1) := by decide +kernel
theorem dX1_becomeLike_6 : decode cX1_becomeLike 6 = .ok (.getfield 9, 3) := by decide +kernel
theorem dX1_becomeLike_9 : decode cX1_becomeLike 9 = .ok (.iconst 0, 1) := by decide +kernel
theorem dX1_becomeLike_10 : decode cX1_becomeLike 10 = .ok (.bipush 30, 2) := by decide +kernel
theorem dX1_becomeLike_12 : decode cX1_becomeLike 12 = .ok (.invokestatic 48, 3) := by decide +kernel
theorem dX1_becomeLike_15 : decode cX1_becomeLike 15 = .ok (.aload_n 1, 1) := by decide +kernel
theorem dX1_becomeLike_16 : decode cX1_becomeLike 16 = .ok (.getfield 15, 3) := by decide +kernel
theorem dX1_becomeLike_19 : decode cX1_becomeLike 19 = .ok (.iconst 0, 1) := by decide +kernel
theorem dX1_becomeLike_20 : decode cX1_becomeLike 20 = .ok (.aload_n 0, 1) := by decide +kernel
theorem dX1_becomeLike_21 : decode cX1_becomeLike 21 = .ok (.getfield 15, 3) := by decide +kernel
theorem dX1_becomeLike_24 : decode cX1_becomeLike 24 = .ok (.iconst 0, 1) := by decide +kernel
theorem dX1_becomeLike_25 : decode cX1_becomeLike 25 = .ok (.bipush 30, 2) := by decide +kernel
theorem dX1_becomeLike_27 : decode cX1_becomeLike 27 = .ok (.invokestatic 48, 3) := by decide +kernel
theorem dX1_becomeLike_30 : decode cX1_becomeLike 30 = .ok (.aload_n 1, 1) := by decide +kernel
theorem dX1_becomeLike_31 : decode cX1_becomeLike 31 = .ok (.getfield 18, 3) := by decide +kernel
theorem dX1_becomeLike_34 : decode cX1_becomeLike 34 = .ok (.iconst 0, 1) := by decide +kernel
theorem dX1_becomeLike_35 : decode cX1_becomeLike 35 = .ok (.aload_n 0, 1) := by decide +kernel
theorem dX1_becomeLike_36 : decode cX1_becomeLike 36 = .ok (.getfield 18, 3) := by decide +kernel
theorem dX1_becomeLike_39 : decode cX1_becomeLike 39 = .ok (.iconst 0, 1) := by decide +kernel
theorem dX1_becomeLike_40 : decode cX1_becomeLike 40 = .ok (.bipush 30, 2) := by decide +kernel
theorem dX1_becomeLike_42 : decode cX1_becomeLike 42 = .ok (.invokestatic 48, 3) := by decide +kernel
theorem dX1_becomeLike_45 : decode cX1_becomeLike 45 = .ok (.aload_n 1, 1) := by decide +kernel
theorem dX1_becomeLike_46 : decode cX1_becomeLike 46 = .ok (.getfield 21, 3) := by decide +kernel
theorem dX1_becomeLike_49 : decode cX1_becomeLike 49 = .ok (.iconst 0, 1) := by decide +kernel
theorem dX1_becomeLike_50 : decode cX1_becomeLike 50 = .ok (.aload_n 0, 1) := by decide +kernel
theorem dX1_becomeLike_51 : decode cX1_becomeLike 51 = .ok (.getfield 21, 3) := by decide +kernel
theorem dX1_becomeLike_54 : decode cX1_becomeLike 54 = .ok (.iconst 0, 1) := by decide +kernel
theorem dX1_becomeLike_55 : decode cX1_becomeLike 55 = .ok (.bipush 30, 2) := by decide +kernel
theorem dX1_becomeLike_57 : decode cX1_becomeLike 57 = .ok (.invokestatic 48, 3) := by decide +kernel
theorem dX1_becomeLike_60 : decode cX1_becomeLike 60 = .ok (.aload_n 1, 1) := by decide +kernel
theorem dX1_becomeLike_61 : decode cX1_becomeLike 61 = .ok (.getfield 24, 3) := by decide +kernel
theorem dX1_becomeLike_64 : decode cX1_becomeLike 64 = .ok (.iconst 0, 1) := by decide +kernel
theorem dX1_becomeLike_65 : decode cX1_becomeLike 65 = .ok (.aload_n 0, 1) := by decide +kernel
theorem dX1_becomeLike_66 : decode cX1_becomeLike 66 = .ok (.getfield 24, 3) := by decide +kernel
theorem dX1_becomeLike_69 : decode cX1_becomeLike 69 = .ok (.iconst 0, 1) := by decide +kernel
theorem dX1_becomeLike_70 : decode cX1_becomeLike 70 = .ok (.aload_n 0, 1) := by decide +kernel
theorem dX1_becomeLike_71 : decode cX1_becomeLike 71 = .ok (.getfield 24, 3) := by decide +kernel
theorem dX1_becomeLike_74 : decode cX1_becomeLike 74 = .ok (.arraylength, 1) := by decide +kernel
theorem dX1_becomeLike_75 : decode cX1_becomeLike 75 = .ok (.invokestatic 48, 3) := by decide +kernel
theorem dX1_becomeLike_78 : decode cX1_becomeLike 78 = .ok (.aload_n 1, 1) := by decide +kernel
theorem dX1_becomeLike_79 : decode cX1_becomeLike 79 = .ok (.getfield 27, 3) := by decide +kernel
theorem dX1_becomeLike_82 : decode cX1_becomeLike 82 = .ok (.iconst 0, 1) := by decide +kernel
theorem dX1_becomeLike_83 : decode cX1_becomeLike 83 = .ok (.aload_n 0, 1) := by decide +kernel
theorem dX1_becomeLike_84 : decode cX1_becomeLike 84 = .ok (.getfield 27, 3) := by decide +kernel
theorem dX1_becomeLike_87 : decode cX1_becomeLike 87 = .ok (.iconst 0, 1) := by decide +kernel
theorem dX1_becomeLike_88 : decode cX1_becomeLike 88 = .ok (.bipush 8, 2) := by decide +kernel
theorem dX1_becomeLike_90 : decode cX1_becomeLike 90 = .ok (.invokestatic 48, 3) := by decide +kernel
theorem dX1_becomeLike_93 : decode cX1_becomeLike 93 = .ok (.aload_n 1, 1) := by decide +kernel
theorem dX1_becomeLike_94 : decode cX1_becomeLike 94 = .ok (.getfield 30, 3) := by decide +kernel
theorem dX1_becomeLike_97 : decode cX1_becomeLike 97 = .ok (.iconst 0, 1) := by decide +kernel
theorem dX1_becomeLike_98 : decode cX1_becomeLike 98 = .ok (.aload_n 0, 1) := by decide +kernel
theorem dX1_becomeLike_99 : decode cX1_becomeLike 99 = .ok (.getfield 30, 3) := by decide +kernel
theorem dX1_becomeLike_102 : decode cX1_becomeLike 102 = .ok (.iconst 0, 1) := by decide +kernel
theorem dX1_becomeLike_103 : decode cX1_becomeLike 103 = .ok (.bipush 8, 2) := by decide +kernel
theorem dX1_becomeLike_105 : decode cX1_becomeLike 105 = .ok (.invokestatic 48, 3) := by decide +kernel
theorem dX1_becomeLike_108 : decode cX1_becomeLike 108 = .ok (.aload_n 0, 1) := by decide +kernel
theorem dX1_becomeLike_109 : decode cX1_becomeLike 109 = .ok (.aload_n 1, 1) := by decide +kernel
theorem dX1_becomeLike_110 : decode cX1_becomeLike 110 = .ok (.getfield 54, 3) := by decide +kernel
theorem dX1_becomeLike_113 : decode cX1_becomeLike 113 = .ok (.putfield 54, 3) := by decide +kernel
theorem dX1_becomeLike_116 : decode cX1_becomeLike 116 = .ok (.aload_n 0, 1) := by decide +kernel
theorem dX1_becomeLike_117 : decode cX1_becomeLike 117 = .ok (.aload_n 1, 1) := by decide +kernel
theorem dX1_becomeLike_118 : decode cX1_becomeLike 118 = .ok (.getfield 57, 3) := by decide +kernel
theorem dX1_becomeLike_121 : decode cX1_becomeLike 121 = .ok (.putfield 57, 3) := by decide +kernel
theorem dX1_becomeLike_124 : decode cX1_becomeLike 124 = .ok (.aload_n 0, 1) := by decide +kernel
theorem dX1_becomeLike_125 : decode cX1_becomeLike 125 = .ok (.aload_n 1, 1) := by decide +kernel
theorem dX1_becomeLike_126 : decode cX1_becomeLike 126 = .ok (.getfield 60, 3) := by decide +kernel
theorem dX1_becomeLike_129 : decode cX1_becomeLike 129 = .ok (.putfield 60, 3) := by decide +kernel
theorem dX1_becomeLike_132 : decode cX1_becomeLike 132 = .ok (.aload_n 0, 1) := by decide +kernel
theorem dX1_becomeLike_133 : decode cX1_becomeLike 133 = .ok (.aload_n 1, 1) := by decide +kernel
theorem dX1_becomeLike_134 : decode cX1_becomeLike 134 = .ok (.getfield 33, 3) := by decide +kernel
theorem dX1_becomeLike_137 : decode cX1_becomeLike 137 = .ok (.putfield 33, 3) := by decide +kernel
theorem dX1_becomeLike_140 : decode cX1_becomeLike 140 = .ok (.aload_n 0, 1) := by decide +kernel
theorem dX1_becomeLike_141 : decode cX1_becomeLike 141 = .ok (.aload_n 1, 1) := by decide +kernel
theorem dX1_becomeLike_142 : decode cX1_becomeLike 142 = .ok (.getfield 63, 3) := by decide +kernel
theorem dX1_becomeLike_145 : decode cX1_becomeLike 145 = .ok (.putfield 63, 3) := by decide +kernel
theorem dX1_becomeLike_148 : decode cX1_becomeLike 148 = .ok (.return_, 1) := by decide +kernel
theorem dX1_changeKind_0 : decode cX1_changeKind 0 = .ok (.aload_n 0, 1) := by decide +kernel
theorem dX1_changeKind_1 : decode cX1_changeKind 1 = .ok (.getfield 9, 3) := by decide +kernel
theorem dX1_changeKind_4 : decode cX1_changeKind 4 = .ok (.iload_n 1, 1) := by decide +kernel
theorem dX1_changeKind_5 : decode cX1_changeKind 5 = .ok (.iaload, 1) := by decide +kernel
theorem dX1_changeKind_6 : decode cX1_changeKind 6 = .ok (.istore_n 3, 1) := by decide +kernel
theorem dX1_changeKind_7 : decode cX1_changeKind 7 = .ok (.aload_n 0, 1) := by decide +kernel
theorem dX1_changeKind_8 : decode cX1_changeKind 8 = .ok (.getfield 9, 3) := by decide +kernel
theorem dX1_changeKind_11 : decode cX1_changeKind 11 = .ok (.iload_n 1, 1) := by decide +kernel
theorem dX1_changeKind_12 : decode cX1_changeKind 12 = .ok (.iload_n 2, 1) := by decide +kernel
theorem dX1_changeKind_13 : decode cX1_changeKind 13 = .ok (.iastore, 1) := by decide +kernel
theorem dX1_changeKind_14 : decode cX1_changeKind 14 = .ok (.iload_n 3, 1) := by decide +kernel
theorem dX1_changeKind_15 : decode cX1_changeKind 15 = .ok (.ireturn, 1) := by decide +kernel
theorem dX1_draw_0 : decode cX1_draw 0 = .ok (.aload_n 0, 1) := by decide +kernel
theorem dX1_draw_1 : decode cX1_draw 1 = .ok (.aload_n 0, 1) := by decide +kernel
theorem dX1_draw_2 : decode cX1_draw 2 = .ok (.getfield 33, 3) := by decide +kernel
theorem dX1_draw_5 : decode cX1_draw 5 = .ok (.ldc 66, 2) := by decide +kernel
theorem dX1_draw_7 : decode cX1_draw 7 = .ok (.imul, 1) := by decide +kernel
theorem dX1_draw_8 : decode cX1_draw 8 = .ok (.sipush 12345, 3) := by decide +kernel
theorem dX1_draw_11 : decode cX1_draw 11 = .ok (.iadd, 1) := by decide +kernel
theorem dX1_draw_12 : decode cX1_draw 12 = .ok (.putfield 33, 3) := by decide +kernel
theorem dX1_draw_15 : decode cX1_draw 15 = .ok (.aload_n 0, 1) := by decide +kernel
theorem dX1_draw_16 : decode cX1_draw 16 = .ok (.getfield 33, 3) := by decide +kernel
theorem dX1_draw_19 : decode cX1_draw 19 = .ok (.bipush 8, 2) := by decide +kernel
theorem dX1_draw_21 : decode cX1_draw 21 = .ok (.iushr, 1) := by decide +kernel
theorem dX1_draw_22 : decode cX1_draw 22 = .ok (.ireturn, 1) := by decide +kernel
theorem dX1_drawIsland_0 : decode cX1_drawIsland 0 = .ok (.iconst 0, 1) := by decide +kernel
theorem dX1_drawIsland_1 : decode cX1_drawIsland 1 = .ok (.istore_n 1, 1) := by decide +kernel
theorem dX1_drawIsland_2 : decode cX1_drawIsland 2 = .ok (.iload_n 1, 1) := by decide +kernel
theorem dX1_drawIsland_3 : decode cX1_drawIsland 3 = .ok (.bipush 30, 2) := by decide +kernel
theorem dX1_drawIsland_5 : decode cX1_drawIsland 5 = .ok (.if_icmp .ge 68, 3) := by decide +kernel
theorem dX1_drawIsland_8 : decode cX1_drawIsland 8 = .ok (.aload_n 0, 1) := by decide +kernel
theorem dX1_drawIsland_9 : decode cX1_drawIsland 9 = .ok (.getfield 9, 3) := by decide +kernel
theorem dX1_drawIsland_12 : decode cX1_drawIsland 12 = .ok (.iload_n 1, 1) := by decide +kernel
theorem dX1_drawIsland_13 : decode cX1_drawIsland 13 = .ok (.aload_n 0, 1) := by decide +kernel
theorem dX1_drawIsland_14 : decode cX1_drawIsland 14 = .ok (.invokevirtual 67, 3) := by decide +kernel
theorem dX1_drawIsland_17 : decode cX1_drawIsland 17 = .ok (.bipush 6, 2) := by decide +kernel
theorem dX1_drawIsland_19 : decode cX1_drawIsland 19 = .ok (.irem, 1) := by decide +kernel
theorem dX1_drawIsland_20 : decode cX1_drawIsland 20 = .ok (.iastore, 1) := by decide +kernel
theorem dX1_drawIsland_21 : decode cX1_drawIsland 21 = .ok (.aload_n 0, 1) := by decide +kernel
theorem dX1_drawIsland_22 : decode cX1_drawIsland 22 = .ok (.getfield 15, 3) := by decide +kernel
theorem dX1_drawIsland_25 : decode cX1_drawIsland 25 = .ok (.iload_n 1, 1) := by decide +kernel
theorem dX1_drawIsland_26 : decode cX1_drawIsland 26 = .ok (.aload_n 0, 1) := by decide +kernel
theorem dX1_drawIsland_27 : decode cX1_drawIsland 27 = .ok (.invokevirtual 67, 3) := by decide +kernel
theorem dX1_drawIsland_30 : decode cX1_drawIsland 30 = .ok (.bipush 21, 2) := by decide +kernel
theorem dX1_drawIsland_32 : decode cX1_drawIsland 32 = .ok (.irem, 1) := by decide +kernel
theorem dX1_drawIsland_33 : decode cX1_drawIsland 33 = .ok (.iastore, 1) := by decide +kernel
theorem dX1_drawIsland_34 : decode cX1_drawIsland 34 = .ok (.aload_n 0, 1) := by decide +kernel
theorem dX1_drawIsland_35 : decode cX1_drawIsland 35 = .ok (.invokevirtual 67, 3) := by decide +kernel
theorem dX1_drawIsland_38 : decode cX1_drawIsland 38 = .ok (.bipush 9, 2) := by decide +kernel
theorem dX1_drawIsland_40 : decode cX1_drawIsland 40 = .ok (.irem, 1) := by decide +kernel
theorem dX1_drawIsland_41 : decode cX1_drawIsland 41 = .ok (.istore_n 2, 1) := by decide +kernel
theorem dX1_drawIsland_42 : decode cX1_drawIsland 42 = .ok (.aload_n 0, 1) := by decide +kernel
theorem dX1_drawIsland_43 : decode cX1_drawIsland 43 = .ok (.getfield 21, 3) := by decide +kernel
theorem dX1_drawIsland_46 : decode cX1_drawIsland 46 = .ok (.iload_n 1, 1) := by decide +kernel
theorem dX1_drawIsland_47 : decode cX1_drawIsland 47 = .ok (.iload_n 2, 1) := by decide +kernel
theorem dX1_drawIsland_48 : decode cX1_drawIsland 48 = .ok (.bipush 8, 2) := by decide +kernel
theorem dX1_drawIsland_50 : decode cX1_drawIsland 50 = .ok (.if_icmp .ne 8, 3) := by decide +kernel
theorem dX1_drawIsland_53 : decode cX1_drawIsland 53 = .ok (.ldc 41, 2) := by decide +kernel
theorem dX1_drawIsland_55 : decode cX1_drawIsland 55 = .ok (.goto 4, 3) := by decide +kernel
theorem dX1_drawIsland_58 : decode cX1_drawIsland 58 = .ok (.iload_n 2, 1) := by decide +kernel
theorem dX1_drawIsland_59 : decode cX1_drawIsland 59 = .ok (.iastore, 1) := by decide +kernel
theorem dX1_drawIsland_60 : decode cX1_drawIsland 60 = .ok (.aload_n 0, 1) := by decide +kernel
theorem dX1_drawIsland_61 : decode cX1_drawIsland 61 = .ok (.getfield 18, 3) := by decide +kernel
theorem dX1_drawIsland_64 : decode cX1_drawIsland 64 = .ok (.iload_n 1, 1) := by decide +kernel
theorem dX1_drawIsland_65 : decode cX1_drawIsland 65 = .ok (.iconst 0, 1) := by decide +kernel
theorem dX1_drawIsland_66 : decode cX1_drawIsland 66 = .ok (.iastore, 1) := by decide +kernel
theorem dX1_drawIsland_67 : decode cX1_drawIsland 67 = .ok (.iinc 1 1, 3) := by decide +kernel
theorem dX1_drawIsland_70 : decode cX1_drawIsland 70 = .ok (.goto (-68), 3) := by decide +kernel
theorem dX1_drawIsland_73 : decode cX1_drawIsland 73 = .ok (.return_, 1) := by decide +kernel
theorem dX1_topOf_0 : decode cX1_topOf 0 = .ok (.aload_n 0, 1) := by decide +kernel
theorem dX1_topOf_1 : decode cX1_topOf 1 = .ok (.getfield 9, 3) := by decide +kernel
theorem dX1_topOf_4 : decode cX1_topOf 4 = .ok (.iload_n 1, 1) := by decide +kernel
theorem dX1_topOf_5 : decode cX1_topOf 5 = .ok (.iaload, 1) := by decide +kernel
theorem dX1_topOf_6 : decode cX1_topOf 6 = .ok (.aload_n 0, 1) := by decide +kernel
theorem dX1_topOf_7 : decode cX1_topOf 7 = .ok (.getfield 15, 3) := by decide +kernel
theorem dX1_topOf_10 : decode cX1_topOf 10 = .ok (.iload_n 1, 1) := by decide +kernel
theorem dX1_topOf_11 : decode cX1_topOf 11 = .ok (.iaload, 1) := by decide +kernel
theorem dX1_topOf_12 : decode cX1_topOf 12 = .ok (.aload_n 0, 1) := by decide +kernel
theorem dX1_topOf_13 : decode cX1_topOf 13 = .ok (.getfield 24, 3) := by decide +kernel
theorem dX1_topOf_16 : decode cX1_topOf 16 = .ok (.iconst 5, 1) := by decide +kernel
theorem dX1_topOf_17 : decode cX1_topOf 17 = .ok (.iaload, 1) := by decide +kernel
theorem dX1_topOf_18 : decode cX1_topOf 18 = .ok (.invokestatic 71, 3) := by decide +kernel
theorem dX1_topOf_21 : decode cX1_topOf 21 = .ok (.ireturn, 1) := by decide +kernel
theorem dX1_roomOf_0 : decode cX1_roomOf 0 = .ok (.aload_n 0, 1) := by decide +kernel
theorem dX1_roomOf_1 : decode cX1_roomOf 1 = .ok (.getfield 37, 3) := by decide +kernel
theorem dX1_roomOf_4 : decode cX1_roomOf 4 = .ok (.iconst 2, 1) := by decide +kernel
theorem dX1_roomOf_5 : decode cX1_roomOf 5 = .ok (.aload_n 0, 1) := by decide +kernel
theorem dX1_roomOf_6 : decode cX1_roomOf 6 = .ok (.getfield 63, 3) := by decide +kernel
theorem dX1_roomOf_9 : decode cX1_roomOf 9 = .ok (.invokevirtual 77, 3) := by decide +kernel
theorem dX1_roomOf_12 : decode cX1_roomOf 12 = .ok (.istore_n 2, 1) := by decide +kernel
theorem dX1_roomOf_13 : decode cX1_roomOf 13 = .ok (.iload_n 2, 1) := by decide +kernel
theorem dX1_roomOf_14 : decode cX1_roomOf 14 = .ok (.ldc 41, 2) := by decide +kernel
theorem dX1_roomOf_16 : decode cX1_roomOf 16 = .ok (.if_icmp .ne 8, 3) := by decide +kernel
theorem dX1_roomOf_19 : decode cX1_roomOf 19 = .ok (.bipush 10, 2) := by decide +kernel
theorem dX1_roomOf_21 : decode cX1_roomOf 21 = .ok (.goto 29, 3) := by decide +kernel
theorem dX1_roomOf_24 : decode cX1_roomOf 24 = .ok (.aload_n 0, 1) := by decide +kernel
theorem dX1_roomOf_25 : decode cX1_roomOf 25 = .ok (.getfield 37, 3) := by decide +kernel
theorem dX1_roomOf_28 : decode cX1_roomOf 28 = .ok (.iload_n 2, 1) := by decide +kernel
theorem dX1_roomOf_29 : decode cX1_roomOf 29 = .ok (.aload_n 0, 1) := by decide +kernel
theorem dX1_roomOf_30 : decode cX1_roomOf 30 = .ok (.iload_n 1, 1) := by decide +kernel
theorem dX1_roomOf_31 : decode cX1_roomOf 31 = .ok (.invokevirtual 83, 3) := by decide +kernel
theorem dX1_roomOf_34 : decode cX1_roomOf 34 = .ok (.aload_n 0, 1) := by decide +kernel
theorem dX1_roomOf_35 : decode cX1_roomOf 35 = .ok (.getfield 15, 3) := by decide +kernel
theorem dX1_roomOf_38 : decode cX1_roomOf 38 = .ok (.iload_n 1, 1) := by decide +kernel
theorem dX1_roomOf_39 : decode cX1_roomOf 39 = .ok (.iaload, 1) := by decide +kernel
theorem dX1_roomOf_40 : decode cX1_roomOf 40 = .ok (.iconst 0, 1) := by decide +kernel
theorem dX1_roomOf_41 : decode cX1_roomOf 41 = .ok (.invokevirtual 86, 3) := by decide +kernel
theorem dX1_roomOf_44 : decode cX1_roomOf 44 = .ok (.iconst 0, 1) := by decide +kernel
theorem dX1_roomOf_45 : decode cX1_roomOf 45 = .ok (.bipush 99, 2) := by decide +kernel
theorem dX1_roomOf_47 : decode cX1_roomOf 47 = .ok (.invokestatic 90, 3) := by decide +kernel
theorem dX1_roomOf_50 : decode cX1_roomOf 50 = .ok (.istore_n 3, 1) := by decide +kernel
theorem dX1_roomOf_51 : decode cX1_roomOf 51 = .ok (.aload_n 0, 1) := by decide +kernel
theorem dX1_roomOf_52 : decode cX1_roomOf 52 = .ok (.getfield 9, 3) := by decide +kernel
theorem dX1_roomOf_55 : decode cX1_roomOf 55 = .ok (.iload_n 1, 1) := by decide +kernel
theorem dX1_roomOf_56 : decode cX1_roomOf 56 = .ok (.iaload, 1) := by decide +kernel
theorem dX1_roomOf_57 : decode cX1_roomOf 57 = .ok (.iload_n 3, 1) := by decide +kernel
theorem dX1_roomOf_58 : decode cX1_roomOf 58 = .ok (.aload_n 0, 1) := by decide +kernel
theorem dX1_roomOf_59 : decode cX1_roomOf 59 = .ok (.getfield 18, 3) := by decide +kernel
theorem dX1_roomOf_62 : decode cX1_roomOf 62 = .ok (.iload_n 1, 1) := by decide +kernel
theorem dX1_roomOf_63 : decode cX1_roomOf 63 = .ok (.iaload, 1) := by decide +kernel
theorem dX1_roomOf_64 : decode cX1_roomOf 64 = .ok (.invokestatic 93, 3) := by decide +kernel
theorem dX1_roomOf_67 : decode cX1_roomOf 67 = .ok (.ireturn, 1) := by decide +kernel
theorem dX1_growthOf_0 : decode cX1_growthOf 0 = .ok (.aload_n 0, 1) := by decide +kernel
theorem dX1_growthOf_1 : decode cX1_growthOf 1 = .ok (.getfield 37, 3) := by decide +kernel
theorem dX1_growthOf_4 : decode cX1_growthOf 4 = .ok (.iconst 1, 1) := by decide +kernel
theorem dX1_growthOf_5 : decode cX1_growthOf 5 = .ok (.aload_n 0, 1) := by decide +kernel
theorem dX1_growthOf_6 : decode cX1_growthOf 6 = .ok (.getfield 63, 3) := by decide +kernel
theorem dX1_growthOf_9 : decode cX1_growthOf 9 = .ok (.invokevirtual 77, 3) := by decide +kernel
theorem dX1_growthOf_12 : decode cX1_growthOf 12 = .ok (.istore_n 2, 1) := by decide +kernel
theorem dX1_growthOf_13 : decode cX1_growthOf 13 = .ok (.iload_n 2, 1) := by decide +kernel
theorem dX1_growthOf_14 : decode cX1_growthOf 14 = .ok (.ldc 41, 2) := by decide +kernel
theorem dX1_growthOf_16 : decode cX1_growthOf 16 = .ok (.if_icmp .ne 7, 3) := by decide +kernel
theorem dX1_growthOf_19 : decode cX1_growthOf 19 = .ok (.iconst 1, 1) := by decide +kernel
theorem dX1_growthOf_20 : decode cX1_growthOf 20 = .ok (.goto 30, 3) := by decide +kernel
theorem dX1_growthOf_23 : decode cX1_growthOf 23 = .ok (.aload_n 0, 1) := by decide +kernel
theorem dX1_growthOf_24 : decode cX1_growthOf 24 = .ok (.getfield 37, 3) := by decide +kernel
theorem dX1_growthOf_27 : decode cX1_growthOf 27 = .ok (.iload_n 2, 1) := by decide +kernel
theorem dX1_growthOf_28 : decode cX1_growthOf 28 = .ok (.aload_n 0, 1) := by decide +kernel
theorem dX1_growthOf_29 : decode cX1_growthOf 29 = .ok (.getfield 18, 3) := by decide +kernel
theorem dX1_growthOf_32 : decode cX1_growthOf 32 = .ok (.iload_n 1, 1) := by decide +kernel
theorem dX1_growthOf_33 : decode cX1_growthOf 33 = .ok (.iaload, 1) := by decide +kernel
theorem dX1_growthOf_34 : decode cX1_growthOf 34 = .ok (.aload_n 0, 1) := by decide +kernel
theorem dX1_growthOf_35 : decode cX1_growthOf 35 = .ok (.getfield 15, 3) := by decide +kernel
theorem dX1_growthOf_38 : decode cX1_growthOf 38 = .ok (.iload_n 1, 1) := by decide +kernel
theorem dX1_growthOf_39 : decode cX1_growthOf 39 = .ok (.iaload, 1) := by decide +kernel
theorem dX1_growthOf_40 : decode cX1_growthOf 40 = .ok (.iconst 0, 1) := by decide +kernel
theorem dX1_growthOf_41 : decode cX1_growthOf 41 = .ok (.invokevirtual 86, 3) := by decide +kernel
theorem dX1_growthOf_44 : decode cX1_growthOf 44 = .ok (.iconst 0, 1) := by decide +kernel
theorem dX1_growthOf_45 : decode cX1_growthOf 45 = .ok (.bipush 9, 2) := by decide +kernel
theorem dX1_growthOf_47 : decode cX1_growthOf 47 = .ok (.invokestatic 90, 3) := by decide +kernel
theorem dX1_growthOf_50 : decode cX1_growthOf 50 = .ok (.ireturn, 1) := by decide +kernel
theorem dX1_levelAt_0 : decode cX1_levelAt 0 = .ok (.aload_n 0, 1) := by decide +kernel
theorem dX1_levelAt_1 : decode cX1_levelAt 1 = .ok (.getfield 57, 3) := by decide +kernel
theorem dX1_levelAt_4 : decode cX1_levelAt 4 = .ok (.iload_n 1, 1) := by decide +kernel
theorem dX1_levelAt_5 : decode cX1_levelAt 5 = .ok (.iadd, 1) := by decide +kernel
theorem dX1_levelAt_6 : decode cX1_levelAt 6 = .ok (.istore_n 2, 1) := by decide +kernel
theorem dX1_levelAt_7 : decode cX1_levelAt 7 = .ok (.aload_n 0, 1) := by decide +kernel
theorem dX1_levelAt_8 : decode cX1_levelAt 8 = .ok (.getfield 37, 3) := by decide +kernel
theorem dX1_levelAt_11 : decode cX1_levelAt 11 = .ok (.iconst 0, 1) := by decide +kernel
theorem dX1_levelAt_12 : decode cX1_levelAt 12 = .ok (.aload_n 0, 1) := by decide +kernel
theorem dX1_levelAt_13 : decode cX1_levelAt 13 = .ok (.getfield 63, 3) := by decide +kernel
theorem dX1_levelAt_16 : decode cX1_levelAt 16 = .ok (.invokevirtual 77, 3) := by decide +kernel
theorem dX1_levelAt_19 : decode cX1_levelAt 19 = .ok (.istore_n 3, 1) := by decide +kernel
theorem dX1_levelAt_20 : decode cX1_levelAt 20 = .ok (.iload_n 3, 1) := by decide +kernel
theorem dX1_levelAt_21 : decode cX1_levelAt 21 = .ok (.ldc 41, 2) := by decide +kernel
theorem dX1_levelAt_23 : decode cX1_levelAt 23 = .ok (.if_icmp .ne 9, 3) := by decide +kernel
theorem dX1_levelAt_26 : decode cX1_levelAt 26 = .ok (.aload_n 0, 1) := by decide +kernel
theorem dX1_levelAt_27 : decode cX1_levelAt 27 = .ok (.iload_n 2, 1) := by decide +kernel
theorem dX1_levelAt_28 : decode cX1_levelAt 28 = .ok (.invokevirtual 96, 3) := by decide +kernel
theorem dX1_levelAt_31 : decode cX1_levelAt 31 = .ok (.ireturn, 1) := by decide +kernel
theorem dX1_levelAt_32 : decode cX1_levelAt 32 = .ok (.aload_n 0, 1) := by decide +kernel
theorem dX1_levelAt_33 : decode cX1_levelAt 33 = .ok (.getfield 37, 3) := by decide +kernel
theorem dX1_levelAt_36 : decode cX1_levelAt 36 = .ok (.iload_n 3, 1) := by decide +kernel
theorem dX1_levelAt_37 : decode cX1_levelAt 37 = .ok (.iload_n 2, 1) := by decide +kernel
theorem dX1_levelAt_38 : decode cX1_levelAt 38 = .ok (.bipush 24, 2) := by decide +kernel
theorem dX1_levelAt_40 : decode cX1_levelAt 40 = .ok (.irem, 1) := by decide +kernel
theorem dX1_levelAt_41 : decode cX1_levelAt 41 = .ok (.iload_n 2, 1) := by decide +kernel
theorem dX1_levelAt_42 : decode cX1_levelAt 42 = .ok (.bipush 24, 2) := by decide +kernel
theorem dX1_levelAt_44 : decode cX1_levelAt 44 = .ok (.idiv, 1) := by decide +kernel
theorem dX1_levelAt_45 : decode cX1_levelAt 45 = .ok (.aload_n 0, 1) := by decide +kernel
theorem dX1_levelAt_46 : decode cX1_levelAt 46 = .ok (.getfield 24, 3) := by decide +kernel
theorem dX1_levelAt_49 : decode cX1_levelAt 49 = .ok (.iconst 3, 1) := by decide +kernel
theorem dX1_levelAt_50 : decode cX1_levelAt 50 = .ok (.iaload, 1) := by decide +kernel
theorem dX1_levelAt_51 : decode cX1_levelAt 51 = .ok (.invokevirtual 86, 3) := by decide +kernel
theorem dX1_levelAt_54 : decode cX1_levelAt 54 = .ok (.iconst 0, 1) := by decide +kernel
theorem dX1_levelAt_55 : decode cX1_levelAt 55 = .ok (.bipush 40, 2) := by decide +kernel
theorem dX1_levelAt_57 : decode cX1_levelAt 57 = .ok (.invokestatic 90, 3) := by decide +kernel
theorem dX1_levelAt_60 : decode cX1_levelAt 60 = .ok (.ireturn, 1) := by decide +kernel
theorem dX1_plainLevelAt_0 : decode cX1_plainLevelAt 0 = .ok (.iload_n 1, 1) := by decide +kernel
theorem dX1_plainLevelAt_1 : decode cX1_plainLevelAt 1 = .ok (.bipush 12, 2) := by decide +kernel
theorem dX1_plainLevelAt_3 : decode cX1_plainLevelAt 3 = .ok (.irem, 1) := by decide +kernel
theorem dX1_plainLevelAt_4 : decode cX1_plainLevelAt 4 = .ok (.istore_n 2, 1) := by decide +kernel
theorem dX1_plainLevelAt_5 : decode cX1_plainLevelAt 5 = .ok (.iload_n 2, 1) := by decide +kernel
theorem dX1_plainLevelAt_6 : decode cX1_plainLevelAt 6 = .ok (.bipush 6, 2) := by decide +kernel
theorem dX1_plainLevelAt_8 : decode cX1_plainLevelAt 8 = .ok (.if_icmp .le 10, 3) := by decide +kernel
theorem dX1_plainLevelAt_11 : decode cX1_plainLevelAt 11 = .ok (.bipush 12, 2) := by decide +kernel
theorem dX1_plainLevelAt_13 : decode cX1_plainLevelAt 13 = .ok (.iload_n 2, 1) := by decide +kernel
theorem dX1_plainLevelAt_14 : decode cX1_plainLevelAt 14 = .ok (.isub, 1) := by decide +kernel
theorem dX1_plainLevelAt_15 : decode cX1_plainLevelAt 15 = .ok (.goto 4, 3) := by decide +kernel
theorem dX1_plainLevelAt_18 : decode cX1_plainLevelAt 18 = .ok (.iload_n 2, 1) := by decide +kernel
theorem dX1_plainLevelAt_19 : decode cX1_plainLevelAt 19 = .ok (.istore_n 3, 1) := by decide +kernel
theorem dX1_plainLevelAt_20 : decode cX1_plainLevelAt 20 = .ok (.aload_n 0, 1) := by decide +kernel
theorem dX1_plainLevelAt_21 : decode cX1_plainLevelAt 21 = .ok (.getfield 24, 3) := by decide +kernel
theorem dX1_plainLevelAt_24 : decode cX1_plainLevelAt 24 = .ok (.iconst 0, 1) := by decide +kernel
theorem dX1_plainLevelAt_25 : decode cX1_plainLevelAt 25 = .ok (.iaload, 1) := by decide +kernel
theorem dX1_plainLevelAt_26 : decode cX1_plainLevelAt 26 = .ok (.bipush 6, 2) := by decide +kernel
theorem dX1_plainLevelAt_28 : decode cX1_plainLevelAt 28 = .ok (.iload_n 3, 1) := by decide +kernel
theorem dX1_plainLevelAt_29 : decode cX1_plainLevelAt 29 = .ok (.isub, 1) := by decide +kernel
theorem dX1_plainLevelAt_30 : decode cX1_plainLevelAt 30 = .ok (.imul, 1) := by decide +kernel
theorem dX1_plainLevelAt_31 : decode cX1_plainLevelAt 31 = .ok (.aload_n 0, 1) := by decide +kernel
theorem dX1_plainLevelAt_32 : decode cX1_plainLevelAt 32 = .ok (.getfield 24, 3) := by decide +kernel
theorem dX1_plainLevelAt_35 : decode cX1_plainLevelAt 35 = .ok (.iconst 1, 1) := by decide +kernel
theorem dX1_plainLevelAt_36 : decode cX1_plainLevelAt 36 = .ok (.iaload, 1) := by decide +kernel
theorem dX1_plainLevelAt_37 : decode cX1_plainLevelAt 37 = .ok (.iload_n 3, 1) := by decide +kernel
theorem dX1_plainLevelAt_38 : decode cX1_plainLevelAt 38 = .ok (.imul, 1) := by decide +kernel
theorem dX1_plainLevelAt_39 : decode cX1_plainLevelAt 39 = .ok (.iadd, 1) := by decide +kernel
theorem dX1_plainLevelAt_40 : decode cX1_plainLevelAt 40 = .ok (.bipush 6, 2) := by decide +kernel
theorem dX1_plainLevelAt_42 : decode cX1_plainLevelAt 42 = .ok (.idiv, 1) := by decide +kernel
theorem dX1_plainLevelAt_43 : decode cX1_plainLevelAt 43 = .ok (.istore 4, 2) := by decide +kernel
theorem dX1_plainLevelAt_45 : decode cX1_plainLevelAt 45 = .ok (.iload_n 1, 1) := by decide +kernel
theorem dX1_plainLevelAt_46 : decode cX1_plainLevelAt 46 = .ok (.bipush 24, 2) := by decide +kernel
theorem dX1_plainLevelAt_48 : decode cX1_plainLevelAt 48 = .ok (.idiv, 1) := by decide +kernel
theorem dX1_plainLevelAt_49 : decode cX1_plainLevelAt 49 = .ok (.bipush 15, 2) := by decide +kernel
theorem dX1_plainLevelAt_51 : decode cX1_plainLevelAt 51 = .ok (.irem, 1) := by decide +kernel
theorem dX1_plainLevelAt_52 : decode cX1_plainLevelAt 52 = .ok (.ifCond .ne 12, 3) := by decide +kernel
theorem dX1_plainLevelAt_55 : decode cX1_plainLevelAt 55 = .ok (.aload_n 0, 1) := by decide +kernel
theorem dX1_plainLevelAt_56 : decode cX1_plainLevelAt 56 = .ok (.getfield 24, 3) := by decide +kernel
theorem dX1_plainLevelAt_59 : decode cX1_plainLevelAt 59 = .ok (.iconst 2, 1) := by decide +kernel
theorem dX1_plainLevelAt_60 : decode cX1_plainLevelAt 60 = .ok (.iaload, 1) := by decide +kernel
theorem dX1_plainLevelAt_61 : decode cX1_plainLevelAt 61 = .ok (.goto 4, 3) := by decide +kernel
theorem dX1_plainLevelAt_64 : decode cX1_plainLevelAt 64 = .ok (.iconst 0, 1) := by decide +kernel
theorem dX1_plainLevelAt_65 : decode cX1_plainLevelAt 65 = .ok (.istore 5, 2) := by decide +kernel
theorem dX1_plainLevelAt_67 : decode cX1_plainLevelAt 67 = .ok (.iload 4, 2) := by decide +kernel
theorem dX1_plainLevelAt_69 : decode cX1_plainLevelAt 69 = .ok (.iload 5, 2) := by decide +kernel
theorem dX1_plainLevelAt_71 : decode cX1_plainLevelAt 71 = .ok (.iadd, 1) := by decide +kernel
theorem dX1_plainLevelAt_72 : decode cX1_plainLevelAt 72 = .ok (.aload_n 0, 1) := by decide +kernel
theorem dX1_plainLevelAt_73 : decode cX1_plainLevelAt 73 = .ok (.getfield 24, 3) := by decide +kernel
theorem dX1_plainLevelAt_76 : decode cX1_plainLevelAt 76 = .ok (.iconst 3, 1) := by decide +kernel
theorem dX1_plainLevelAt_77 : decode cX1_plainLevelAt 77 = .ok (.iaload, 1) := by decide +kernel
theorem dX1_plainLevelAt_78 : decode cX1_plainLevelAt 78 = .ok (.iadd, 1) := by decide +kernel
theorem dX1_plainLevelAt_79 : decode cX1_plainLevelAt 79 = .ok (.ireturn, 1) := by decide +kernel
theorem dX1_dryCells_0 : decode cX1_dryCells 0 = .ok (.aload_n 0, 1) := by decide +kernel
theorem dX1_dryCells_1 : decode cX1_dryCells 1 = .ok (.iload_n 1, 1) := by decide +kernel
theorem dX1_dryCells_2 : decode cX1_dryCells 2 = .ok (.invokevirtual 99, 3) := by decide +kernel
theorem dX1_dryCells_5 : decode cX1_dryCells 5 = .ok (.istore_n 2, 1) := by decide +kernel
theorem dX1_dryCells_6 : decode cX1_dryCells 6 = .ok (.iconst 0, 1) := by decide +kernel
theorem dX1_dryCells_7 : decode cX1_dryCells 7 = .ok (.istore_n 3, 1) := by decide +kernel
theorem dX1_dryCells_8 : decode cX1_dryCells 8 = .ok (.iconst 0, 1) := by decide +kernel
theorem dX1_dryCells_9 : decode cX1_dryCells 9 = .ok (.istore 4, 2) := by decide +kernel
theorem dX1_dryCells_11 : decode cX1_dryCells 11 = .ok (.iload 4, 2) := by decide +kernel
theorem dX1_dryCells_13 : decode cX1_dryCells 13 = .ok (.bipush 30, 2) := by decide +kernel
theorem dX1_dryCells_15 : decode cX1_dryCells 15 = .ok (.if_icmp .ge 26, 3) := by decide +kernel
theorem dX1_dryCells_18 : decode cX1_dryCells 18 = .ok (.aload_n 0, 1) := by decide +kernel
theorem dX1_dryCells_19 : decode cX1_dryCells 19 = .ok (.iload 4, 2) := by decide +kernel
theorem dX1_dryCells_21 : decode cX1_dryCells 21 = .ok (.invokevirtual 83, 3) := by decide +kernel
theorem dX1_dryCells_24 : decode cX1_dryCells 24 = .ok (.iload_n 2, 1) := by decide +kernel
theorem dX1_dryCells_25 : decode cX1_dryCells 25 = .ok (.if_icmp .le 10, 3) := by decide +kernel
theorem dX1_dryCells_28 : decode cX1_dryCells 28 = .ok (.iload_n 3, 1) := by decide +kernel
theorem dX1_dryCells_29 : decode cX1_dryCells 29 = .ok (.iconst 1, 1) := by decide +kernel
theorem dX1_dryCells_30 : decode cX1_dryCells 30 = .ok (.iload 4, 2) := by decide +kernel
theorem dX1_dryCells_32 : decode cX1_dryCells 32 = .ok (.ishl, 1) := by decide +kernel
theorem dX1_dryCells_33 : decode cX1_dryCells 33 = .ok (.ior, 1) := by decide +kernel
theorem dX1_dryCells_34 : decode cX1_dryCells 34 = .ok (.istore_n 3, 1) := by decide +kernel
theorem dX1_dryCells_35 : decode cX1_dryCells 35 = .ok (.iinc 4 1, 3) := by decide +kernel
theorem dX1_dryCells_38 : decode cX1_dryCells 38 = .ok (.goto (-27), 3) := by decide +kernel
theorem dX1_dryCells_41 : decode cX1_dryCells 41 = .ok (.iload_n 3, 1) := by decide +kernel
theorem dX1_dryCells_42 : decode cX1_dryCells 42 = .ok (.ireturn, 1) := by decide +kernel
theorem dX1_sizeAt_0 : decode cX1_sizeAt 0 = .ok (.aload_n 0, 1) := by decide +kernel
theorem dX1_sizeAt_1 : decode cX1_sizeAt 1 = .ok (.iload_n 1, 1) := by decide +kernel
theorem dX1_sizeAt_2 : decode cX1_sizeAt 2 = .ok (.invokevirtual 102, 3) := by decide +kernel
theorem dX1_sizeAt_5 : decode cX1_sizeAt 5 = .ok (.invokestatic 105, 3) := by decide +kernel
theorem dX1_sizeAt_8 : decode cX1_sizeAt 8 = .ok (.ireturn, 1) := by decide +kernel
theorem dX1_worstOf_0 : decode cX1_worstOf 0 = .ok (.iconst 0, 1) := by decide +kernel
theorem dX1_worstOf_1 : decode cX1_worstOf 1 = .ok (.istore_n 2, 1) := by decide +kernel
theorem dX1_worstOf_2 : decode cX1_worstOf 2 = .ok (.bipush 31, 2) := by decide +kernel
theorem dX1_worstOf_4 : decode cX1_worstOf 4 = .ok (.istore_n 3, 1) := by decide +kernel
theorem dX1_worstOf_5 : decode cX1_worstOf 5 = .ok (.iconst 0, 1) := by decide +kernel
theorem dX1_worstOf_6 : decode cX1_worstOf 6 = .ok (.istore 4, 2) := by decide +kernel
theorem dX1_worstOf_8 : decode cX1_worstOf 8 = .ok (.iload 4, 2) := by decide +kernel
theorem dX1_worstOf_10 : decode cX1_worstOf 10 = .ok (.iload_n 1, 1) := by decide +kernel
theorem dX1_worstOf_11 : decode cX1_worstOf 11 = .ok (.if_icmp .ge 29, 3) := by decide +kernel
theorem dX1_worstOf_14 : decode cX1_worstOf 14 = .ok (.aload_n 0, 1) := by decide +kernel
theorem dX1_worstOf_15 : decode cX1_worstOf 15 = .ok (.iload 4, 2) := by decide +kernel
theorem dX1_worstOf_17 : decode cX1_worstOf 17 = .ok (.invokevirtual 110, 3) := by decide +kernel
theorem dX1_worstOf_20 : decode cX1_worstOf 20 = .ok (.istore 5, 2) := by decide +kernel
theorem dX1_worstOf_22 : decode cX1_worstOf 22 = .ok (.iload 5, 2) := by decide +kernel
theorem dX1_worstOf_24 : decode cX1_worstOf 24 = .ok (.iload_n 3, 1) := by decide +kernel
theorem dX1_worstOf_25 : decode cX1_worstOf 25 = .ok (.if_icmp .ge 9, 3) := by decide +kernel
theorem dX1_worstOf_28 : decode cX1_worstOf 28 = .ok (.iload 5, 2) := by decide +kernel
theorem dX1_worstOf_30 : decode cX1_worstOf 30 = .ok (.istore_n 3, 1) := by decide +kernel
theorem dX1_worstOf_31 : decode cX1_worstOf 31 = .ok (.iload 4, 2) := by decide +kernel
theorem dX1_worstOf_33 : decode cX1_worstOf 33 = .ok (.istore_n 2, 1) := by decide +kernel
theorem dX1_worstOf_34 : decode cX1_worstOf 34 = .ok (.iinc 4 1, 3) := by decide +kernel
theorem dX1_worstOf_37 : decode cX1_worstOf 37 = .ok (.goto (-29), 3) := by decide +kernel
theorem dX1_worstOf_40 : decode cX1_worstOf 40 = .ok (.iload_n 2, 1) := by decide +kernel
theorem dX1_worstOf_41 : decode cX1_worstOf 41 = .ok (.ireturn, 1) := by decide +kernel
theorem dX1_dryHours_0 : decode cX1_dryHours 0 = .ok (.aload_n 0, 1) := by decide +kernel
theorem dX1_dryHours_1 : decode cX1_dryHours 1 = .ok (.iload_n 1, 1) := by decide +kernel
theorem dX1_dryHours_2 : decode cX1_dryHours 2 = .ok (.invokevirtual 83, 3) := by decide +kernel
theorem dX1_dryHours_5 : decode cX1_dryHours 5 = .ok (.istore_n 2, 1) := by decide +kernel
theorem dX1_dryHours_6 : decode cX1_dryHours 6 = .ok (.iconst 0, 1) := by decide +kernel
theorem dX1_dryHours_7 : decode cX1_dryHours 7 = .ok (.istore_n 3, 1) := by decide +kernel
theorem dX1_dryHours_8 : decode cX1_dryHours 8 = .ok (.iload_n 3, 1) := by decide +kernel
theorem dX1_dryHours_9 : decode cX1_dryHours 9 = .ok (.bipush 48, 2) := by decide +kernel
theorem dX1_dryHours_11 : decode cX1_dryHours 11 = .ok (.if_icmp .ge 18, 3) := by decide +kernel
theorem dX1_dryHours_14 : decode cX1_dryHours 14 = .ok (.iload_n 2, 1) := by decide +kernel
theorem dX1_dryHours_15 : decode cX1_dryHours 15 = .ok (.aload_n 0, 1) := by decide +kernel
theorem dX1_dryHours_16 : decode cX1_dryHours 16 = .ok (.iload_n 3, 1) := by decide +kernel
theorem dX1_dryHours_17 : decode cX1_dryHours 17 = .ok (.invokevirtual 99, 3) := by decide +kernel
theorem dX1_dryHours_20 : decode cX1_dryHours 20 = .ok (.if_icmp .le 9, 3) := by decide +kernel
theorem dX1_dryHours_23 : decode cX1_dryHours 23 = .ok (.iinc 3 1, 3) := by decide +kernel
theorem dX1_dryHours_26 : decode cX1_dryHours 26 = .ok (.goto (-18), 3) := by decide +kernel
theorem dX1_dryHours_29 : decode cX1_dryHours 29 = .ok (.iload_n 3, 1) := by decide +kernel
theorem dX1_dryHours_30 : decode cX1_dryHours 30 = .ok (.ireturn, 1) := by decide +kernel
theorem dX1_windowOf_0 : decode cX1_windowOf 0 = .ok (.aload_n 0, 1) := by decide +kernel
theorem dX1_windowOf_1 : decode cX1_windowOf 1 = .ok (.iload_n 1, 1) := by decide +kernel
theorem dX1_windowOf_2 : decode cX1_windowOf 2 = .ok (.invokevirtual 83, 3) := by decide +kernel
theorem dX1_windowOf_5 : decode cX1_windowOf 5 = .ok (.istore_n 3, 1) := by decide +kernel
theorem dX1_windowOf_6 : decode cX1_windowOf 6 = .ok (.iconst 0, 1) := by decide +kernel
theorem dX1_windowOf_7 : decode cX1_windowOf 7 = .ok (.istore 4, 2) := by decide +kernel
theorem dX1_windowOf_9 : decode cX1_windowOf 9 = .ok (.iconst 0, 1) := by decide +kernel
theorem dX1_windowOf_10 : decode cX1_windowOf 10 = .ok (.istore 5, 2) := by decide +kernel
theorem dX1_windowOf_12 : decode cX1_windowOf 12 = .ok (.iload 5, 2) := by decide +kernel
theorem dX1_windowOf_14 : decode cX1_windowOf 14 = .ok (.bipush 99, 2) := by decide +kernel
theorem dX1_windowOf_16 : decode cX1_windowOf 16 = .ok (.iload_n 2, 1) := by decide +kernel
theorem dX1_windowOf_17 : decode cX1_windowOf 17 = .ok (.iadd, 1) := by decide +kernel
theorem dX1_windowOf_18 : decode cX1_windowOf 18 = .ok (.if_icmp .ge 42, 3) := by decide +kernel
theorem dX1_windowOf_21 : decode cX1_windowOf 21 = .ok (.iload_n 3, 1) := by decide +kernel
theorem dX1_windowOf_22 : decode cX1_windowOf 22 = .ok (.aload_n 0, 1) := by decide +kernel
theorem dX1_windowOf_23 : decode cX1_windowOf 23 = .ok (.iload 5, 2) := by decide +kernel
theorem dX1_windowOf_25 : decode cX1_windowOf 25 = .ok (.invokevirtual 99, 3) := by decide +kernel
theorem dX1_windowOf_28 : decode cX1_windowOf 28 = .ok (.if_icmp .le 10, 3) := by decide +kernel
theorem dX1_windowOf_31 : decode cX1_windowOf 31 = .ok (.iload 4, 2) := by decide +kernel
theorem dX1_windowOf_33 : decode cX1_windowOf 33 = .ok (.iconst 1, 1) := by decide +kernel
theorem dX1_windowOf_34 : decode cX1_windowOf 34 = .ok (.iadd, 1) := by decide +kernel
theorem dX1_windowOf_35 : decode cX1_windowOf 35 = .ok (.goto 4, 3) := by decide +kernel
theorem dX1_windowOf_38 : decode cX1_windowOf 38 = .ok (.iconst 0, 1) := by decide +kernel
theorem dX1_windowOf_39 : decode cX1_windowOf 39 = .ok (.istore 4, 2) := by decide +kernel
theorem dX1_windowOf_41 : decode cX1_windowOf 41 = .ok (.iload 4, 2) := by decide +kernel
theorem dX1_windowOf_43 : decode cX1_windowOf 43 = .ok (.iload_n 2, 1) := by decide +kernel
theorem dX1_windowOf_44 : decode cX1_windowOf 44 = .ok (.if_icmp .ne 10, 3) := by decide +kernel
theorem dX1_windowOf_47 : decode cX1_windowOf 47 = .ok (.iload 5, 2) := by decide +kernel
theorem dX1_windowOf_49 : decode cX1_windowOf 49 = .ok (.iload_n 2, 1) := by decide +kernel
theorem dX1_windowOf_50 : decode cX1_windowOf 50 = .ok (.isub, 1) := by decide +kernel
theorem dX1_windowOf_51 : decode cX1_windowOf 51 = .ok (.iconst 1, 1) := by decide +kernel
theorem dX1_windowOf_52 : decode cX1_windowOf 52 = .ok (.iadd, 1) := by decide +kernel
theorem dX1_windowOf_53 : decode cX1_windowOf 53 = .ok (.ireturn, 1) := by decide +kernel
theorem dX1_windowOf_54 : decode cX1_windowOf 54 = .ok (.iinc 5 1, 3) := by decide +kernel
theorem dX1_windowOf_57 : decode cX1_windowOf 57 = .ok (.goto (-45), 3) := by decide +kernel
theorem dX1_windowOf_60 : decode cX1_windowOf 60 = .ok (.ldc 41, 2) := by decide +kernel
theorem dX1_windowOf_62 : decode cX1_windowOf 62 = .ok (.ireturn, 1) := by decide +kernel
theorem dX1_ownedDry_0 : decode cX1_ownedDry 0 = .ok (.aload_n 0, 1) := by decide +kernel
theorem dX1_ownedDry_1 : decode cX1_ownedDry 1 = .ok (.iload_n 2, 1) := by decide +kernel
theorem dX1_ownedDry_2 : decode cX1_ownedDry 2 = .ok (.invokevirtual 99, 3) := by decide +kernel
theorem dX1_ownedDry_5 : decode cX1_ownedDry 5 = .ok (.istore_n 3, 1) := by decide +kernel
theorem dX1_ownedDry_6 : decode cX1_ownedDry 6 = .ok (.iconst 0, 1) := by decide +kernel
theorem dX1_ownedDry_7 : decode cX1_ownedDry 7 = .ok (.istore 4, 2) := by decide +kernel
theorem dX1_ownedDry_9 : decode cX1_ownedDry 9 = .ok (.iconst 0, 1) := by decide +kernel
theorem dX1_ownedDry_10 : decode cX1_ownedDry 10 = .ok (.istore 5, 2) := by decide +kernel
theorem dX1_ownedDry_12 : decode cX1_ownedDry 12 = .ok (.iload 5, 2) := by decide +kernel
theorem dX1_ownedDry_14 : decode cX1_ownedDry 14 = .ok (.bipush 30, 2) := by decide +kernel
theorem dX1_ownedDry_16 : decode cX1_ownedDry 16 = .ok (.if_icmp .ge 33, 3) := by decide +kernel
theorem dX1_ownedDry_19 : decode cX1_ownedDry 19 = .ok (.aload_n 0, 1) := by decide +kernel
theorem dX1_ownedDry_20 : decode cX1_ownedDry 20 = .ok (.getfield 21, 3) := by decide +kernel
theorem dX1_ownedDry_23 : decode cX1_ownedDry 23 = .ok (.iload 5, 2) := by decide +kernel
theorem dX1_ownedDry_25 : decode cX1_ownedDry 25 = .ok (.iaload, 1) := by decide +kernel
theorem dX1_ownedDry_26 : decode cX1_ownedDry 26 = .ok (.iload_n 1, 1) := by decide +kernel
theorem dX1_ownedDry_27 : decode cX1_ownedDry 27 = .ok (.if_icmp .ne 16, 3) := by decide +kernel
theorem dX1_ownedDry_30 : decode cX1_ownedDry 30 = .ok (.aload_n 0, 1) := by decide +kernel
theorem dX1_ownedDry_31 : decode cX1_ownedDry 31 = .ok (.iload 5, 2) := by decide +kernel
theorem dX1_ownedDry_33 : decode cX1_ownedDry 33 = .ok (.invokevirtual 83, 3) := by decide +kernel
theorem dX1_ownedDry_36 : decode cX1_ownedDry 36 = .ok (.iload_n 3, 1) := by decide +kernel
theorem dX1_ownedDry_37 : decode cX1_ownedDry 37 = .ok (.if_icmp .le 6, 3) := by decide +kernel
theorem dX1_ownedDry_40 : decode cX1_ownedDry 40 = .ok (.iinc 4 1, 3) := by decide +kernel
theorem dX1_ownedDry_43 : decode cX1_ownedDry 43 = .ok (.iinc 5 1, 3) := by decide +kernel
theorem dX1_ownedDry_46 : decode cX1_ownedDry 46 = .ok (.goto (-34), 3) := by decide +kernel
theorem dX1_ownedDry_49 : decode cX1_ownedDry 49 = .ok (.iload 4, 2) := by decide +kernel
theorem dX1_ownedDry_51 : decode cX1_ownedDry 51 = .ok (.ireturn, 1) := by decide +kernel
theorem dX1_ownedInDay_0 : decode cX1_ownedInDay 0 = .ok (.iconst 0, 1) := by decide +kernel
theorem dX1_ownedInDay_1 : decode cX1_ownedInDay 1 = .ok (.istore_n 2, 1) := by decide +kernel
theorem dX1_ownedInDay_2 : decode cX1_ownedInDay 2 = .ok (.iconst 0, 1) := by decide +kernel
theorem dX1_ownedInDay_3 : decode cX1_ownedInDay 3 = .ok (.istore_n 3, 1) := by decide +kernel
theorem dX1_ownedInDay_4 : decode cX1_ownedInDay 4 = .ok (.iload_n 3, 1) := by decide +kernel
theorem dX1_ownedInDay_5 : decode cX1_ownedInDay 5 = .ok (.bipush 24, 2) := by decide +kernel
theorem dX1_ownedInDay_7 : decode cX1_ownedInDay 7 = .ok (.if_icmp .ge 18, 3) := by decide +kernel
theorem dX1_ownedInDay_10 : decode cX1_ownedInDay 10 = .ok (.iload_n 2, 1) := by decide +kernel
theorem dX1_ownedInDay_11 : decode cX1_ownedInDay 11 = .ok (.aload_n 0, 1) := by decide +kernel
theorem dX1_ownedInDay_12 : decode cX1_ownedInDay 12 = .ok (.iload_n 1, 1) := by decide +kernel
theorem dX1_ownedInDay_13 : decode cX1_ownedInDay 13 = .ok (.iload_n 3, 1) := by decide +kernel
theorem dX1_ownedInDay_14 : decode cX1_ownedInDay 14 = .ok (.invokevirtual 113, 3) := by decide +kernel
theorem dX1_ownedInDay_17 : decode cX1_ownedInDay 17 = .ok (.iadd, 1) := by decide +kernel
theorem dX1_ownedInDay_18 : decode cX1_ownedInDay 18 = .ok (.istore_n 2, 1) := by decide +kernel
theorem dX1_ownedInDay_19 : decode cX1_ownedInDay 19 = .ok (.iinc 3 1, 3) := by decide +kernel
theorem dX1_ownedInDay_22 : decode cX1_ownedInDay 22 = .ok (.goto (-18), 3) := by decide +kernel
theorem dX1_ownedInDay_25 : decode cX1_ownedInDay 25 = .ok (.iload_n 2, 1) := by decide +kernel
theorem dX1_ownedInDay_26 : decode cX1_ownedInDay 26 = .ok (.ireturn, 1) := by decide +kernel
theorem dX1_richestOwner_0 : decode cX1_richestOwner 0 = .ok (.iconst 0, 1) := by decide +kernel
theorem dX1_richestOwner_1 : decode cX1_richestOwner 1 = .ok (.istore_n 1, 1) := by decide +kernel
theorem dX1_richestOwner_2 : decode cX1_richestOwner 2 = .ok (.iconst (-1), 1) := by decide +kernel
theorem dX1_richestOwner_3 : decode cX1_richestOwner 3 = .ok (.istore_n 2, 1) := by decide +kernel
theorem dX1_richestOwner_4 : decode cX1_richestOwner 4 = .ok (.iconst 0, 1) := by decide +kernel
theorem dX1_richestOwner_5 : decode cX1_richestOwner 5 = .ok (.istore_n 3, 1) := by decide +kernel
theorem dX1_richestOwner_6 : decode cX1_richestOwner 6 = .ok (.iload_n 3, 1) := by decide +kernel
theorem dX1_richestOwner_7 : decode cX1_richestOwner 7 = .ok (.bipush 8, 2) := by decide +kernel
theorem dX1_richestOwner_9 : decode cX1_richestOwner 9 = .ok (.if_icmp .ge 27, 3) := by decide +kernel
theorem dX1_richestOwner_12 : decode cX1_richestOwner 12 = .ok (.aload_n 0, 1) := by decide +kernel
theorem dX1_richestOwner_13 : decode cX1_richestOwner 13 = .ok (.iload_n 3, 1) := by decide +kernel
theorem dX1_richestOwner_14 : decode cX1_richestOwner 14 = .ok (.invokevirtual 116, 3) := by decide +kernel
theorem dX1_richestOwner_17 : decode cX1_richestOwner 17 = .ok (.istore 4, 2) := by decide +kernel
theorem dX1_richestOwner_19 : decode cX1_richestOwner 19 = .ok (.iload 4, 2) := by decide +kernel
theorem dX1_richestOwner_21 : decode cX1_richestOwner 21 = .ok (.iload_n 2, 1) := by decide +kernel
theorem dX1_richestOwner_22 : decode cX1_richestOwner 22 = .ok (.if_icmp .le 8, 3) := by decide +kernel
theorem dX1_richestOwner_25 : decode cX1_richestOwner 25 = .ok (.iload 4, 2) := by decide +kernel
theorem dX1_richestOwner_27 : decode cX1_richestOwner 27 = .ok (.istore_n 2, 1) := by decide +kernel
theorem dX1_richestOwner_28 : decode cX1_richestOwner 28 = .ok (.iload_n 3, 1) := by decide +kernel
theorem dX1_richestOwner_29 : decode cX1_richestOwner 29 = .ok (.istore_n 1, 1) := by decide +kernel
theorem dX1_richestOwner_30 : decode cX1_richestOwner 30 = .ok (.iinc 3 1, 3) := by decide +kernel
theorem dX1_richestOwner_33 : decode cX1_richestOwner 33 = .ok (.goto (-27), 3) := by decide +kernel
theorem dX1_richestOwner_36 : decode cX1_richestOwner 36 = .ok (.iload_n 1, 1) := by decide +kernel
theorem dX1_richestOwner_37 : decode cX1_richestOwner 37 = .ok (.ireturn, 1) := by decide +kernel
theorem dX1_addHouse_0 : decode cX1_addHouse 0 = .ok (.aload_n 0, 1) := by decide +kernel
theorem dX1_addHouse_1 : decode cX1_addHouse 1 = .ok (.getfield 54, 3) := by decide +kernel
theorem dX1_addHouse_4 : decode cX1_addHouse 4 = .ok (.istore_n 2, 1) := by decide +kernel
theorem dX1_addHouse_5 : decode cX1_addHouse 5 = .ok (.aload_n 0, 1) := by decide +kernel
theorem dX1_addHouse_6 : decode cX1_addHouse 6 = .ok (.getfield 27, 3) := by decide +kernel
theorem dX1_addHouse_9 : decode cX1_addHouse 9 = .ok (.iload_n 2, 1) := by decide +kernel
theorem dX1_addHouse_10 : decode cX1_addHouse 10 = .ok (.iload_n 1, 1) := by decide +kernel
theorem dX1_addHouse_11 : decode cX1_addHouse 11 = .ok (.iastore, 1) := by decide +kernel
theorem dX1_addHouse_12 : decode cX1_addHouse 12 = .ok (.aload_n 0, 1) := by decide +kernel
theorem dX1_addHouse_13 : decode cX1_addHouse 13 = .ok (.getfield 30, 3) := by decide +kernel
theorem dX1_addHouse_16 : decode cX1_addHouse 16 = .ok (.iload_n 2, 1) := by decide +kernel
theorem dX1_addHouse_17 : decode cX1_addHouse 17 = .ok (.ldc 41, 2) := by decide +kernel
theorem dX1_addHouse_19 : decode cX1_addHouse 19 = .ok (.iastore, 1) := by decide +kernel
theorem dX1_addHouse_20 : decode cX1_addHouse 20 = .ok (.aload_n 0, 1) := by decide +kernel
theorem dX1_addHouse_21 : decode cX1_addHouse 21 = .ok (.iload_n 2, 1) := by decide +kernel
theorem dX1_addHouse_22 : decode cX1_addHouse 22 = .ok (.iconst 1, 1) := by decide +kernel
theorem dX1_addHouse_23 : decode cX1_addHouse 23 = .ok (.iadd, 1) := by decide +kernel
theorem dX1_addHouse_24 : decode cX1_addHouse 24 = .ok (.putfield 54, 3) := by decide +kernel
theorem dX1_addHouse_27 : decode cX1_addHouse 27 = .ok (.iload_n 2, 1) := by decide +kernel
theorem dX1_addHouse_28 : decode cX1_addHouse 28 = .ok (.ireturn, 1) := by decide +kernel
theorem dX1_peak_0 : decode cX1_peak 0 = .ok (.iconst 0, 1) := by decide +kernel
theorem dX1_peak_1 : decode cX1_peak 1 = .ok (.istore_n 1, 1) := by decide +kernel
theorem dX1_peak_2 : decode cX1_peak 2 = .ok (.iconst 1, 1) := by decide +kernel
theorem dX1_peak_3 : decode cX1_peak 3 = .ok (.istore_n 2, 1) := by decide +kernel
theorem dX1_peak_4 : decode cX1_peak 4 = .ok (.iload_n 2, 1) := by decide +kernel
theorem dX1_peak_5 : decode cX1_peak 5 = .ok (.bipush 30, 2) := by decide +kernel
theorem dX1_peak_7 : decode cX1_peak 7 = .ok (.if_icmp .ge 24, 3) := by decide +kernel
theorem dX1_peak_10 : decode cX1_peak 10 = .ok (.aload_n 0, 1) := by decide +kernel
theorem dX1_peak_11 : decode cX1_peak 11 = .ok (.iload_n 2, 1) := by decide +kernel
theorem dX1_peak_12 : decode cX1_peak 12 = .ok (.invokevirtual 83, 3) := by decide +kernel
theorem dX1_peak_15 : decode cX1_peak 15 = .ok (.aload_n 0, 1) := by decide +kernel
theorem dX1_peak_16 : decode cX1_peak 16 = .ok (.iload_n 1, 1) := by decide +kernel
theorem dX1_peak_17 : decode cX1_peak 17 = .ok (.invokevirtual 83, 3) := by decide +kernel
theorem dX1_peak_20 : decode cX1_peak 20 = .ok (.if_icmp .le 5, 3) := by decide +kernel
theorem dX1_peak_23 : decode cX1_peak 23 = .ok (.iload_n 2, 1) := by decide +kernel
theorem dX1_peak_24 : decode cX1_peak 24 = .ok (.istore_n 1, 1) := by decide +kernel
theorem dX1_peak_25 : decode cX1_peak 25 = .ok (.iinc 2 1, 3) := by decide +kernel
theorem dX1_peak_28 : decode cX1_peak 28 = .ok (.goto (-24), 3) := by decide +kernel
theorem dX1_peak_31 : decode cX1_peak 31 = .ok (.iload_n 1, 1) := by decide +kernel
theorem dX1_peak_32 : decode cX1_peak 32 = .ok (.ireturn, 1) := by decide +kernel
theorem dX1_cutHouses_0 : decode cX1_cutHouses 0 = .ok (.aload_n 0, 1) := by decide +kernel
theorem dX1_cutHouses_1 : decode cX1_cutHouses 1 = .ok (.iload_n 1, 1) := by decide +kernel
theorem dX1_cutHouses_2 : decode cX1_cutHouses 2 = .ok (.invokevirtual 102, 3) := by decide +kernel
theorem dX1_cutHouses_5 : decode cX1_cutHouses 5 = .ok (.istore_n 2, 1) := by decide +kernel
theorem dX1_cutHouses_6 : decode cX1_cutHouses 6 = .ok (.iload_n 2, 1) := by decide +kernel
theorem dX1_cutHouses_7 : decode cX1_cutHouses 7 = .ok (.iconst 1, 1) := by decide +kernel
theorem dX1_cutHouses_8 : decode cX1_cutHouses 8 = .ok (.aload_n 0, 1) := by decide +kernel
theorem dX1_cutHouses_9 : decode cX1_cutHouses 9 = .ok (.invokevirtual 119, 3) := by decide +kernel
theorem dX1_cutHouses_12 : decode cX1_cutHouses 12 = .ok (.ishl, 1) := by decide +kernel
theorem dX1_cutHouses_13 : decode cX1_cutHouses 13 = .ok (.iload_n 2, 1) := by decide +kernel
theorem dX1_cutHouses_14 : decode cX1_cutHouses 14 = .ok (.invokestatic 122, 3) := by decide +kernel
theorem dX1_cutHouses_17 : decode cX1_cutHouses 17 = .ok (.iconst (-1), 1) := by decide +kernel
theorem dX1_cutHouses_18 : decode cX1_cutHouses 18 = .ok (.ixor, 1) := by decide +kernel
theorem dX1_cutHouses_19 : decode cX1_cutHouses 19 = .ok (.iand, 1) := by decide +kernel
theorem dX1_cutHouses_20 : decode cX1_cutHouses 20 = .ok (.istore_n 3, 1) := by decide +kernel
theorem dX1_cutHouses_21 : decode cX1_cutHouses 21 = .ok (.iconst 0, 1) := by decide +kernel
theorem dX1_cutHouses_22 : decode cX1_cutHouses 22 = .ok (.istore 4, 2) := by decide +kernel
theorem dX1_cutHouses_24 : decode cX1_cutHouses 24 = .ok (.iconst 0, 1) := by decide +kernel
theorem dX1_cutHouses_25 : decode cX1_cutHouses 25 = .ok (.istore 5, 2) := by decide +kernel
theorem dX1_cutHouses_27 : decode cX1_cutHouses 27 = .ok (.iload 5, 2) := by decide +kernel
theorem dX1_cutHouses_29 : decode cX1_cutHouses 29 = .ok (.aload_n 0, 1) := by decide +kernel
theorem dX1_cutHouses_30 : decode cX1_cutHouses 30 = .ok (.getfield 54, 3) := by decide +kernel
theorem dX1_cutHouses_33 : decode cX1_cutHouses 33 = .ok (.if_icmp .ge 44, 3) := by decide +kernel
theorem dX1_cutHouses_36 : decode cX1_cutHouses 36 = .ok (.aload_n 0, 1) := by decide +kernel
theorem dX1_cutHouses_37 : decode cX1_cutHouses 37 = .ok (.getfield 30, 3) := by decide +kernel
theorem dX1_cutHouses_40 : decode cX1_cutHouses 40 = .ok (.iload 5, 2) := by decide +kernel
theorem dX1_cutHouses_42 : decode cX1_cutHouses 42 = .ok (.iaload, 1) := by decide +kernel
theorem dX1_cutHouses_43 : decode cX1_cutHouses 43 = .ok (.ldc 41, 2) := by decide +kernel
theorem dX1_cutHouses_45 : decode cX1_cutHouses 45 = .ok (.if_icmp .eq 26, 3) := by decide +kernel
theorem dX1_cutHouses_48 : decode cX1_cutHouses 48 = .ok (.iload_n 3, 1) := by decide +kernel
theorem dX1_cutHouses_49 : decode cX1_cutHouses 49 = .ok (.aload_n 0, 1) := by decide +kernel
theorem dX1_cutHouses_50 : decode cX1_cutHouses 50 = .ok (.getfield 30, 3) := by decide +kernel
theorem dX1_cutHouses_53 : decode cX1_cutHouses 53 = .ok (.iload 5, 2) := by decide +kernel
theorem dX1_cutHouses_55 : decode cX1_cutHouses 55 = .ok (.iaload, 1) := by decide +kernel
theorem dX1_cutHouses_56 : decode cX1_cutHouses 56 = .ok (.invokestatic 127, 3) := by decide +kernel
theorem dX1_cutHouses_59 : decode cX1_cutHouses 59 = .ok (.ifCond .eq 12, 3) := by decide +kernel
theorem dX1_cutHouses_62 : decode cX1_cutHouses 62 = .ok (.iload 4, 2) := by decide +kernel
theorem dX1_cutHouses_64 : decode cX1_cutHouses 64 = .ok (.iconst 1, 1) := by decide +kernel
theorem dX1_cutHouses_65 : decode cX1_cutHouses 65 = .ok (.iload 5, 2) := by decide +kernel
theorem dX1_cutHouses_67 : decode cX1_cutHouses 67 = .ok (.ishl, 1) := by decide +kernel
theorem dX1_cutHouses_68 : decode cX1_cutHouses 68 = .ok (.ior, 1) := by decide +kernel
theorem dX1_cutHouses_69 : decode cX1_cutHouses 69 = .ok (.istore 4, 2) := by decide +kernel
theorem dX1_cutHouses_71 : decode cX1_cutHouses 71 = .ok (.iinc 5 1, 3) := by decide +kernel
theorem dX1_cutHouses_74 : decode cX1_cutHouses 74 = .ok (.goto (-47), 3) := by decide +kernel
theorem dX1_cutHouses_77 : decode cX1_cutHouses 77 = .ok (.iload 4, 2) := by decide +kernel
theorem dX1_cutHouses_79 : decode cX1_cutHouses 79 = .ok (.ireturn, 1) := by decide +kernel
theorem dX1_lackAt_0 : decode cX1_lackAt 0 = .ok (.iconst 0, 1) := by decide +kernel
theorem dX1_lackAt_1 : decode cX1_lackAt 1 = .ok (.istore_n 2, 1) := by decide +kernel
theorem dX1_lackAt_2 : decode cX1_lackAt 2 = .ok (.iconst 0, 1) := by decide +kernel
theorem dX1_lackAt_3 : decode cX1_lackAt 3 = .ok (.istore_n 3, 1) := by decide +kernel
theorem dX1_lackAt_4 : decode cX1_lackAt 4 = .ok (.iload_n 3, 1) := by decide +kernel
theorem dX1_lackAt_5 : decode cX1_lackAt 5 = .ok (.aload_n 0, 1) := by decide +kernel
theorem dX1_lackAt_6 : decode cX1_lackAt 6 = .ok (.getfield 54, 3) := by decide +kernel
theorem dX1_lackAt_9 : decode cX1_lackAt 9 = .ok (.if_icmp .ge 18, 3) := by decide +kernel
theorem dX1_lackAt_12 : decode cX1_lackAt 12 = .ok (.iload_n 2, 1) := by decide +kernel
theorem dX1_lackAt_13 : decode cX1_lackAt 13 = .ok (.aload_n 0, 1) := by decide +kernel
theorem dX1_lackAt_14 : decode cX1_lackAt 14 = .ok (.getfield 27, 3) := by decide +kernel
theorem dX1_lackAt_17 : decode cX1_lackAt 17 = .ok (.iload_n 3, 1) := by decide +kernel
theorem dX1_lackAt_18 : decode cX1_lackAt 18 = .ok (.iaload, 1) := by decide +kernel
theorem dX1_lackAt_19 : decode cX1_lackAt 19 = .ok (.iadd, 1) := by decide +kernel
theorem dX1_lackAt_20 : decode cX1_lackAt 20 = .ok (.istore_n 2, 1) := by decide +kernel
theorem dX1_lackAt_21 : decode cX1_lackAt 21 = .ok (.iinc 3 1, 3) := by decide +kernel
theorem dX1_lackAt_24 : decode cX1_lackAt 24 = .ok (.goto (-20), 3) := by decide +kernel
theorem dX1_lackAt_27 : decode cX1_lackAt 27 = .ok (.aload_n 0, 1) := by decide +kernel
theorem dX1_lackAt_28 : decode cX1_lackAt 28 = .ok (.iload_n 1, 1) := by decide +kernel
theorem dX1_lackAt_29 : decode cX1_lackAt 29 = .ok (.invokevirtual 102, 3) := by decide +kernel
theorem dX1_lackAt_32 : decode cX1_lackAt 32 = .ok (.istore_n 3, 1) := by decide +kernel
theorem dX1_lackAt_33 : decode cX1_lackAt 33 = .ok (.iconst 0, 1) := by decide +kernel
theorem dX1_lackAt_34 : decode cX1_lackAt 34 = .ok (.istore 4, 2) := by decide +kernel
theorem dX1_lackAt_36 : decode cX1_lackAt 36 = .ok (.iload 4, 2) := by decide +kernel
theorem dX1_lackAt_38 : decode cX1_lackAt 38 = .ok (.bipush 30, 2) := by decide +kernel
theorem dX1_lackAt_40 : decode cX1_lackAt 40 = .ok (.if_icmp .ge 27, 3) := by decide +kernel
theorem dX1_lackAt_43 : decode cX1_lackAt 43 = .ok (.iload_n 3, 1) := by decide +kernel
theorem dX1_lackAt_44 : decode cX1_lackAt 44 = .ok (.iload 4, 2) := by decide +kernel
theorem dX1_lackAt_46 : decode cX1_lackAt 46 = .ok (.invokestatic 127, 3) := by decide +kernel
theorem dX1_lackAt_49 : decode cX1_lackAt 49 = .ok (.ifCond .eq 12, 3) := by decide +kernel
theorem dX1_lackAt_52 : decode cX1_lackAt 52 = .ok (.iload_n 2, 1) := by decide +kernel
theorem dX1_lackAt_53 : decode cX1_lackAt 53 = .ok (.aload_n 0, 1) := by decide +kernel
theorem dX1_lackAt_54 : decode cX1_lackAt 54 = .ok (.iload 4, 2) := by decide +kernel
theorem dX1_lackAt_56 : decode cX1_lackAt 56 = .ok (.invokevirtual 131, 3) := by decide +kernel
theorem dX1_lackAt_59 : decode cX1_lackAt 59 = .ok (.isub, 1) := by decide +kernel
theorem dX1_lackAt_60 : decode cX1_lackAt 60 = .ok (.istore_n 2, 1) := by decide +kernel
theorem dX1_lackAt_61 : decode cX1_lackAt 61 = .ok (.iinc 4 1, 3) := by decide +kernel
theorem dX1_lackAt_64 : decode cX1_lackAt 64 = .ok (.goto (-28), 3) := by decide +kernel
theorem dX1_lackAt_67 : decode cX1_lackAt 67 = .ok (.iconst 0, 1) := by decide +kernel
theorem dX1_lackAt_68 : decode cX1_lackAt 68 = .ok (.iload_n 2, 1) := by decide +kernel
theorem dX1_lackAt_69 : decode cX1_lackAt 69 = .ok (.invokestatic 133, 3) := by decide +kernel
theorem dX1_lackAt_72 : decode cX1_lackAt 72 = .ok (.ireturn, 1) := by decide +kernel
theorem dX1_hoursBetween_0 : decode cX1_hoursBetween 0 = .ok (.iconst 1, 1) := by decide +kernel
theorem dX1_hoursBetween_1 : decode cX1_hoursBetween 1 = .ok (.iload_n 1, 1) := by decide +kernel
theorem dX1_hoursBetween_2 : decode cX1_hoursBetween 2 = .ok (.ishl, 1) := by decide +kernel
theorem dX1_hoursBetween_3 : decode cX1_hoursBetween 3 = .ok (.istore_n 3, 1) := by decide +kernel
theorem dX1_hoursBetween_4 : decode cX1_hoursBetween 4 = .ok (.iconst 0, 1) := by decide +kernel
theorem dX1_hoursBetween_5 : decode cX1_hoursBetween 5 = .ok (.istore 4, 2) := by decide +kernel
theorem dX1_hoursBetween_7 : decode cX1_hoursBetween 7 = .ok (.iload 4, 2) := by decide +kernel
theorem dX1_hoursBetween_9 : decode cX1_hoursBetween 9 = .ok (.bipush 48, 2) := by decide +kernel
theorem dX1_hoursBetween_11 : decode cX1_hoursBetween 11 = .ok (.if_icmp .gt 34, 3) := by decide +kernel
theorem dX1_hoursBetween_14 : decode cX1_hoursBetween 14 = .ok (.iload_n 3, 1) := by decide +kernel
theorem dX1_hoursBetween_15 : decode cX1_hoursBetween 15 = .ok (.aload_n 0, 1) := by decide +kernel
theorem dX1_hoursBetween_16 : decode cX1_hoursBetween 16 = .ok (.iload 4, 2) := by decide +kernel
theorem dX1_hoursBetween_18 : decode cX1_hoursBetween 18 = .ok (.invokevirtual 102, 3) := by decide +kernel
theorem dX1_hoursBetween_21 : decode cX1_hoursBetween 21 = .ok (.iand, 1) := by decide +kernel
theorem dX1_hoursBetween_22 : decode cX1_hoursBetween 22 = .ok (.istore_n 3, 1) := by decide +kernel
theorem dX1_hoursBetween_23 : decode cX1_hoursBetween 23 = .ok (.iload_n 3, 1) := by decide +kernel
theorem dX1_hoursBetween_24 : decode cX1_hoursBetween 24 = .ok (.iload_n 2, 1) := by decide +kernel
theorem dX1_hoursBetween_25 : decode cX1_hoursBetween 25 = .ok (.invokestatic 127, 3) := by decide +kernel
theorem dX1_hoursBetween_28 : decode cX1_hoursBetween 28 = .ok (.ifCond .eq 6, 3) := by decide +kernel
theorem dX1_hoursBetween_31 : decode cX1_hoursBetween 31 = .ok (.iload 4, 2) := by decide +kernel
theorem dX1_hoursBetween_33 : decode cX1_hoursBetween 33 = .ok (.ireturn, 1) := by decide +kernel
theorem dX1_hoursBetween_34 : decode cX1_hoursBetween 34 = .ok (.iload_n 3, 1) := by decide +kernel
theorem dX1_hoursBetween_35 : decode cX1_hoursBetween 35 = .ok (.invokestatic 138, 3) := by decide +kernel
theorem dX1_hoursBetween_38 : decode cX1_hoursBetween 38 = .ok (.istore_n 3, 1) := by decide +kernel
theorem dX1_hoursBetween_39 : decode cX1_hoursBetween 39 = .ok (.iinc 4 1, 3) := by decide +kernel
theorem dX1_hoursBetween_42 : decode cX1_hoursBetween 42 = .ok (.goto (-35), 3) := by decide +kernel
theorem dX1_hoursBetween_45 : decode cX1_hoursBetween 45 = .ok (.ldc 41, 2) := by decide +kernel
theorem dX1_hoursBetween_47 : decode cX1_hoursBetween 47 = .ok (.ireturn, 1) := by decide +kernel
theorem dX1_passHour_0 : decode cX1_passHour 0 = .ok (.aload_n 0, 1) := by decide +kernel
theorem dX1_passHour_1 : decode cX1_passHour 1 = .ok (.iconst 0, 1) := by decide +kernel
theorem dX1_passHour_2 : decode cX1_passHour 2 = .ok (.invokevirtual 102, 3) := by decide +kernel
theorem dX1_passHour_5 : decode cX1_passHour 5 = .ok (.istore_n 1, 1) := by decide +kernel
theorem dX1_passHour_6 : decode cX1_passHour 6 = .ok (.aload_n 0, 1) := by decide +kernel
theorem dX1_passHour_7 : decode cX1_passHour 7 = .ok (.iload_n 1, 1) := by decide +kernel
theorem dX1_passHour_8 : decode cX1_passHour 8 = .ok (.invokevirtual 141, 3) := by decide +kernel
theorem dX1_passHour_11 : decode cX1_passHour 11 = .ok (.aload_n 0, 1) := by decide +kernel
theorem dX1_passHour_12 : decode cX1_passHour 12 = .ok (.iload_n 1, 1) := by decide +kernel
theorem dX1_passHour_13 : decode cX1_passHour 13 = .ok (.invokevirtual 145, 3) := by decide +kernel
theorem dX1_passHour_16 : decode cX1_passHour 16 = .ok (.aload_n 0, 1) := by decide +kernel
theorem dX1_passHour_17 : decode cX1_passHour 17 = .ok (.getfield 57, 3) := by decide +kernel
theorem dX1_passHour_20 : decode cX1_passHour 20 = .ok (.bipush 12, 2) := by decide +kernel
theorem dX1_passHour_22 : decode cX1_passHour 22 = .ok (.irem, 1) := by decide +kernel
theorem dX1_passHour_23 : decode cX1_passHour 23 = .ok (.ifCond .ne 7, 3) := by decide +kernel
theorem dX1_passHour_26 : decode cX1_passHour 26 = .ok (.aload_n 0, 1) := by decide +kernel
theorem dX1_passHour_27 : decode cX1_passHour 27 = .ok (.invokevirtual 148, 3) := by decide +kernel
theorem dX1_passHour_30 : decode cX1_passHour 30 = .ok (.aload_n 0, 1) := by decide +kernel
theorem dX1_passHour_31 : decode cX1_passHour 31 = .ok (.dup, 1) := by decide +kernel
theorem dX1_passHour_32 : decode cX1_passHour 32 = .ok (.getfield 57, 3) := by decide +kernel
theorem dX1_passHour_35 : decode cX1_passHour 35 = .ok (.iconst 1, 1) := by decide +kernel
theorem dX1_passHour_36 : decode cX1_passHour 36 = .ok (.iadd, 1) := by decide +kernel
theorem dX1_passHour_37 : decode cX1_passHour 37 = .ok (.putfield 57, 3) := by decide +kernel
theorem dX1_passHour_40 : decode cX1_passHour 40 = .ok (.return_, 1) := by decide +kernel
theorem dX1_growCorn_0 : decode cX1_growCorn 0 = .ok (.iconst 0, 1) := by decide +kernel
theorem dX1_growCorn_1 : decode cX1_growCorn 1 = .ok (.istore_n 2, 1) := by decide +kernel
theorem dX1_growCorn_2 : decode cX1_growCorn 2 = .ok (.iload_n 2, 1) := by decide +kernel
theorem dX1_growCorn_3 : decode cX1_growCorn 3 = .ok (.bipush 30, 2) := by decide +kernel
theorem dX1_growCorn_5 : decode cX1_growCorn 5 = .ok (.if_icmp .ge 57, 3) := by decide +kernel
theorem dX1_growCorn_8 : decode cX1_growCorn 8 = .ok (.aload_n 0, 1) := by decide +kernel
theorem dX1_growCorn_9 : decode cX1_growCorn 9 = .ok (.getfield 9, 3) := by decide +kernel
theorem dX1_growCorn_12 : decode cX1_growCorn 12 = .ok (.iload_n 2, 1) := by decide +kernel
theorem dX1_growCorn_13 : decode cX1_growCorn 13 = .ok (.iaload, 1) := by decide +kernel
theorem dX1_growCorn_14 : decode cX1_growCorn 14 = .ok (.iconst 1, 1) := by decide +kernel
theorem dX1_growCorn_15 : decode cX1_growCorn 15 = .ok (.invokestatic 151, 3) := by decide +kernel
theorem dX1_growCorn_18 : decode cX1_growCorn 18 = .ok (.ifCond .eq 38, 3) := by decide +kernel
theorem dX1_growCorn_21 : decode cX1_growCorn 21 = .ok (.aload_n 0, 1) := by decide +kernel
theorem dX1_growCorn_22 : decode cX1_growCorn 22 = .ok (.getfield 18, 3) := by decide +kernel
theorem dX1_growCorn_25 : decode cX1_growCorn 25 = .ok (.iload_n 2, 1) := by decide +kernel
theorem dX1_growCorn_26 : decode cX1_growCorn 26 = .ok (.iload_n 1, 1) := by decide +kernel
theorem dX1_growCorn_27 : decode cX1_growCorn 27 = .ok (.iload_n 2, 1) := by decide +kernel
theorem dX1_growCorn_28 : decode cX1_growCorn 28 = .ok (.invokestatic 127, 3) := by decide +kernel
theorem dX1_growCorn_31 : decode cX1_growCorn 31 = .ok (.ifCond .eq 23, 3) := by decide +kernel
theorem dX1_growCorn_34 : decode cX1_growCorn 34 = .ok (.bipush 99, 2) := by decide +kernel
theorem dX1_growCorn_36 : decode cX1_growCorn 36 = .ok (.aload_n 0, 1) := by decide +kernel
theorem dX1_growCorn_37 : decode cX1_growCorn 37 = .ok (.getfield 18, 3) := by decide +kernel
theorem dX1_growCorn_40 : decode cX1_growCorn 40 = .ok (.iload_n 2, 1) := by decide +kernel
theorem dX1_growCorn_41 : decode cX1_growCorn 41 = .ok (.iaload, 1) := by decide +kernel
theorem dX1_growCorn_42 : decode cX1_growCorn 42 = .ok (.aload_n 0, 1) := by decide +kernel
theorem dX1_growCorn_43 : decode cX1_growCorn 43 = .ok (.iload_n 2, 1) := by decide +kernel
theorem dX1_growCorn_44 : decode cX1_growCorn 44 = .ok (.invokevirtual 154, 3) := by decide +kernel
theorem dX1_growCorn_47 : decode cX1_growCorn 47 = .ok (.iadd, 1) := by decide +kernel
theorem dX1_growCorn_48 : decode cX1_growCorn 48 = .ok (.invokestatic 157, 3) := by decide +kernel
theorem dX1_growCorn_51 : decode cX1_growCorn 51 = .ok (.goto 4, 3) := by decide +kernel
theorem dX1_growCorn_54 : decode cX1_growCorn 54 = .ok (.iconst 0, 1) := by decide +kernel
theorem dX1_growCorn_55 : decode cX1_growCorn 55 = .ok (.iastore, 1) := by decide +kernel
theorem dX1_growCorn_56 : decode cX1_growCorn 56 = .ok (.iinc 2 1, 3) := by decide +kernel
theorem dX1_growCorn_59 : decode cX1_growCorn 59 = .ok (.goto (-57), 3) := by decide +kernel
theorem dX1_growCorn_62 : decode cX1_growCorn 62 = .ok (.return_, 1) := by decide +kernel
theorem dX1_moveHouses_0 : decode cX1_moveHouses 0 = .ok (.iconst 0, 1) := by decide +kernel
theorem dX1_moveHouses_1 : decode cX1_moveHouses 1 = .ok (.istore_n 2, 1) := by decide +kernel
theorem dX1_moveHouses_2 : decode cX1_moveHouses 2 = .ok (.iload_n 2, 1) := by decide +kernel
theorem dX1_moveHouses_3 : decode cX1_moveHouses 3 = .ok (.aload_n 0, 1) := by decide +kernel
theorem dX1_moveHouses_4 : decode cX1_moveHouses 4 = .ok (.getfield 54, 3) := by decide +kernel
theorem dX1_moveHouses_7 : decode cX1_moveHouses 7 = .ok (.if_icmp .ge 67, 3) := by decide +kernel
theorem dX1_moveHouses_10 : decode cX1_moveHouses 10 = .ok (.aload_n 0, 1) := by decide +kernel
theorem dX1_moveHouses_11 : decode cX1_moveHouses 11 = .ok (.getfield 30, 3) := by decide +kernel
theorem dX1_moveHouses_14 : decode cX1_moveHouses 14 = .ok (.iload_n 2, 1) := by decide +kernel
theorem dX1_moveHouses_15 : decode cX1_moveHouses 15 = .ok (.iaload, 1) := by decide +kernel
theorem dX1_moveHouses_16 : decode cX1_moveHouses 16 = .ok (.istore_n 3, 1) := by decide +kernel
theorem dX1_moveHouses_17 : decode cX1_moveHouses 17 = .ok (.iload_n 3, 1) := by decide +kernel
theorem dX1_moveHouses_18 : decode cX1_moveHouses 18 = .ok (.ldc 41, 2) := by decide +kernel
theorem dX1_moveHouses_20 : decode cX1_moveHouses 20 = .ok (.if_icmp .eq 48, 3) := by decide +kernel
theorem dX1_moveHouses_23 : decode cX1_moveHouses 23 = .ok (.iload_n 1, 1) := by decide +kernel
theorem dX1_moveHouses_24 : decode cX1_moveHouses 24 = .ok (.iload_n 3, 1) := by decide +kernel
theorem dX1_moveHouses_25 : decode cX1_moveHouses 25 = .ok (.invokestatic 127, 3) := by decide +kernel
theorem dX1_moveHouses_28 : decode cX1_moveHouses 28 = .ok (.ifCond .ne 40, 3) := by decide +kernel
theorem dX1_moveHouses_31 : decode cX1_moveHouses 31 = .ok (.aload_n 0, 1) := by decide +kernel
theorem dX1_moveHouses_32 : decode cX1_moveHouses 32 = .ok (.getfield 30, 3) := by decide +kernel
theorem dX1_moveHouses_35 : decode cX1_moveHouses 35 = .ok (.iload_n 2, 1) := by decide +kernel
theorem dX1_moveHouses_36 : decode cX1_moveHouses 36 = .ok (.iload_n 3, 1) := by decide +kernel
theorem dX1_moveHouses_37 : decode cX1_moveHouses 37 = .ok (.iload_n 1, 1) := by decide +kernel
theorem dX1_moveHouses_38 : decode cX1_moveHouses 38 = .ok (.invokestatic 160, 3) := by decide +kernel
theorem dX1_moveHouses_41 : decode cX1_moveHouses 41 = .ok (.iastore, 1) := by decide +kernel
theorem dX1_moveHouses_42 : decode cX1_moveHouses 42 = .ok (.aload_n 0, 1) := by decide +kernel
theorem dX1_moveHouses_43 : decode cX1_moveHouses 43 = .ok (.getfield 30, 3) := by decide +kernel
theorem dX1_moveHouses_46 : decode cX1_moveHouses 46 = .ok (.iload_n 2, 1) := by decide +kernel
theorem dX1_moveHouses_47 : decode cX1_moveHouses 47 = .ok (.iaload, 1) := by decide +kernel
theorem dX1_moveHouses_48 : decode cX1_moveHouses 48 = .ok (.ldc 41, 2) := by decide +kernel
theorem dX1_moveHouses_50 : decode cX1_moveHouses 50 = .ok (.if_icmp .ne 18, 3) := by decide +kernel
theorem dX1_moveHouses_53 : decode cX1_moveHouses 53 = .ok (.aload_n 0, 1) := by decide +kernel
theorem dX1_moveHouses_54 : decode cX1_moveHouses 54 = .ok (.dup, 1) := by decide +kernel
theorem dX1_moveHouses_55 : decode cX1_moveHouses 55 = .ok (.getfield 60, 3) := by decide +kernel
theorem dX1_moveHouses_58 : decode cX1_moveHouses 58 = .ok (.aload_n 0, 1) := by decide +kernel
theorem dX1_moveHouses_59 : decode cX1_moveHouses 59 = .ok (.getfield 27, 3) := by decide +kernel
theorem dX1_moveHouses_62 : decode cX1_moveHouses 62 = .ok (.iload_n 2, 1) := by decide +kernel
theorem dX1_moveHouses_63 : decode cX1_moveHouses 63 = .ok (.iaload, 1) := by decide +kernel
theorem dX1_moveHouses_64 : decode cX1_moveHouses 64 = .ok (.iadd, 1) := by decide +kernel
theorem dX1_moveHouses_65 : decode cX1_moveHouses 65 = .ok (.putfield 60, 3) := by decide +kernel
theorem dX1_moveHouses_68 : decode cX1_moveHouses 68 = .ok (.iinc 2 1, 3) := by decide +kernel
theorem dX1_moveHouses_71 : decode cX1_moveHouses 71 = .ok (.goto (-69), 3) := by decide +kernel
theorem dX1_moveHouses_74 : decode cX1_moveHouses 74 = .ok (.return_, 1) := by decide +kernel
theorem dX1_drawStorm_0 : decode cX1_drawStorm 0 = .ok (.aload_n 0, 1) := by decide +kernel
theorem dX1_drawStorm_1 : decode cX1_drawStorm 1 = .ok (.invokevirtual 67, 3) := by decide +kernel
theorem dX1_drawStorm_4 : decode cX1_drawStorm 4 = .ok (.bipush 100, 2) := by decide +kernel
theorem dX1_drawStorm_6 : decode cX1_drawStorm 6 = .ok (.irem, 1) := by decide +kernel
theorem dX1_drawStorm_7 : decode cX1_drawStorm 7 = .ok (.aload_n 0, 1) := by decide +kernel
theorem dX1_drawStorm_8 : decode cX1_drawStorm 8 = .ok (.getfield 24, 3) := by decide +kernel
theorem dX1_drawStorm_11 : decode cX1_drawStorm 11 = .ok (.iconst 4, 1) := by decide +kernel
theorem dX1_drawStorm_12 : decode cX1_drawStorm 12 = .ok (.iaload, 1) := by decide +kernel
theorem dX1_drawStorm_13 : decode cX1_drawStorm 13 = .ok (.if_icmp .ge 7, 3) := by decide +kernel
theorem dX1_drawStorm_16 : decode cX1_drawStorm 16 = .ok (.iconst 1, 1) := by decide +kernel
theorem dX1_drawStorm_17 : decode cX1_drawStorm 17 = .ok (.goto 4, 3) := by decide +kernel
theorem dX1_drawStorm_20 : decode cX1_drawStorm 20 = .ok (.iconst (-1), 1) := by decide +kernel
theorem dX1_drawStorm_21 : decode cX1_drawStorm 21 = .ok (.istore_n 1, 1) := by decide +kernel
theorem dX1_drawStorm_22 : decode cX1_drawStorm 22 = .ok (.aload_n 0, 1) := by decide +kernel
theorem dX1_drawStorm_23 : decode cX1_drawStorm 23 = .ok (.getfield 24, 3) := by decide +kernel
theorem dX1_drawStorm_26 : decode cX1_drawStorm 26 = .ok (.iconst 3, 1) := by decide +kernel
theorem dX1_drawStorm_27 : decode cX1_drawStorm 27 = .ok (.aload_n 0, 1) := by decide +kernel
theorem dX1_drawStorm_28 : decode cX1_drawStorm 28 = .ok (.getfield 24, 3) := by decide +kernel
theorem dX1_drawStorm_31 : decode cX1_drawStorm 31 = .ok (.iconst 3, 1) := by decide +kernel
theorem dX1_drawStorm_32 : decode cX1_drawStorm 32 = .ok (.iaload, 1) := by decide +kernel
theorem dX1_drawStorm_33 : decode cX1_drawStorm 33 = .ok (.iload_n 1, 1) := by decide +kernel
theorem dX1_drawStorm_34 : decode cX1_drawStorm 34 = .ok (.iadd, 1) := by decide +kernel
theorem dX1_drawStorm_35 : decode cX1_drawStorm 35 = .ok (.iconst 0, 1) := by decide +kernel
theorem dX1_drawStorm_36 : decode cX1_drawStorm 36 = .ok (.bipush 9, 2) := by decide +kernel
theorem dX1_drawStorm_38 : decode cX1_drawStorm 38 = .ok (.invokestatic 90, 3) := by decide +kernel
theorem dX1_drawStorm_41 : decode cX1_drawStorm 41 = .ok (.iastore, 1) := by decide +kernel
theorem dX1_drawStorm_42 : decode cX1_drawStorm 42 = .ok (.return_, 1) := by decide +kernel
theorem dX1_allCorn_0 : decode cX1_allCorn 0 = .ok (.iconst 0, 1) := by decide +kernel
theorem dX1_allCorn_1 : decode cX1_allCorn 1 = .ok (.istore_n 1, 1) := by decide +kernel
theorem dX1_allCorn_2 : decode cX1_allCorn 2 = .ok (.iconst 0, 1) := by decide +kernel
theorem dX1_allCorn_3 : decode cX1_allCorn 3 = .ok (.istore_n 2, 1) := by decide +kernel
theorem dX1_allCorn_4 : decode cX1_allCorn 4 = .ok (.iload_n 2, 1) := by decide +kernel
theorem dX1_allCorn_5 : decode cX1_allCorn 5 = .ok (.bipush 30, 2) := by decide +kernel
theorem dX1_allCorn_7 : decode cX1_allCorn 7 = .ok (.if_icmp .ge 18, 3) := by decide +kernel
theorem dX1_allCorn_10 : decode cX1_allCorn 10 = .ok (.iload_n 1, 1) := by decide +kernel
theorem dX1_allCorn_11 : decode cX1_allCorn 11 = .ok (.aload_n 0, 1) := by decide +kernel
theorem dX1_allCorn_12 : decode cX1_allCorn 12 = .ok (.getfield 18, 3) := by decide +kernel
theorem dX1_allCorn_15 : decode cX1_allCorn 15 = .ok (.iload_n 2, 1) := by decide +kernel
theorem dX1_allCorn_16 : decode cX1_allCorn 16 = .ok (.iaload, 1) := by decide +kernel
theorem dX1_allCorn_17 : decode cX1_allCorn 17 = .ok (.iadd, 1) := by decide +kernel
theorem dX1_allCorn_18 : decode cX1_allCorn 18 = .ok (.istore_n 1, 1) := by decide +kernel
theorem dX1_allCorn_19 : decode cX1_allCorn 19 = .ok (.iinc 2 1, 3) := by decide +kernel
theorem dX1_allCorn_22 : decode cX1_allCorn 22 = .ok (.goto (-18), 3) := by decide +kernel
theorem dX1_allCorn_25 : decode cX1_allCorn 25 = .ok (.iload_n 1, 1) := by decide +kernel
theorem dX1_allCorn_26 : decode cX1_allCorn 26 = .ok (.ireturn, 1) := by decide +kernel
theorem dX1_pourInto_0 : decode cX1_pourInto 0 = .ok (.iconst 0, 1) := by decide +kernel
theorem dX1_pourInto_1 : decode cX1_pourInto 1 = .ok (.istore_n 3, 1) := by decide +kernel
theorem dX1_pourInto_2 : decode cX1_pourInto 2 = .ok (.iconst 0, 1) := by decide +kernel
theorem dX1_pourInto_3 : decode cX1_pourInto 3 = .ok (.istore 4, 2) := by decide +kernel
theorem dX1_pourInto_5 : decode cX1_pourInto 5 = .ok (.iload 4, 2) := by decide +kernel
theorem dX1_pourInto_7 : decode cX1_pourInto 7 = .ok (.bipush 6, 2) := by decide +kernel
theorem dX1_pourInto_9 : decode cX1_pourInto 9 = .ok (.if_icmp .ge 87, 3) := by decide +kernel
theorem dX1_pourInto_12 : decode cX1_pourInto 12 = .ok (.iload 4, 2) := by decide +kernel
theorem dX1_pourInto_14 : decode cX1_pourInto 14 = .ok (.aload_n 2, 1) := by decide +kernel
theorem dX1_pourInto_15 : decode cX1_pourInto 15 = .ok (.getfield 163, 3) := by decide +kernel
theorem dX1_pourInto_18 : decode cX1_pourInto 18 = .ok (.if_icmp .ge 78, 3) := by decide +kernel
theorem dX1_pourInto_21 : decode cX1_pourInto 21 = .ok (.bipush 6, 2) := by decide +kernel
theorem dX1_pourInto_23 : decode cX1_pourInto 23 = .ok (.iload_n 1, 1) := by decide +kernel
theorem dX1_pourInto_24 : decode cX1_pourInto 24 = .ok (.imul, 1) := by decide +kernel
theorem dX1_pourInto_25 : decode cX1_pourInto 25 = .ok (.iload 4, 2) := by decide +kernel
theorem dX1_pourInto_27 : decode cX1_pourInto 27 = .ok (.iadd, 1) := by decide +kernel
theorem dX1_pourInto_28 : decode cX1_pourInto 28 = .ok (.istore 5, 2) := by decide +kernel
theorem dX1_pourInto_30 : decode cX1_pourInto 30 = .ok (.aload_n 2, 1) := by decide +kernel
theorem dX1_pourInto_31 : decode cX1_pourInto 31 = .ok (.getfield 168, 3) := by decide +kernel
theorem dX1_pourInto_34 : decode cX1_pourInto 34 = .ok (.iload 4, 2) := by decide +kernel
theorem dX1_pourInto_36 : decode cX1_pourInto 36 = .ok (.iaload, 1) := by decide +kernel
theorem dX1_pourInto_37 : decode cX1_pourInto 37 = .ok (.istore 6, 2) := by decide +kernel
theorem dX1_pourInto_39 : decode cX1_pourInto 39 = .ok (.iload 6, 2) := by decide +kernel
theorem dX1_pourInto_41 : decode cX1_pourInto 41 = .ok (.ldc 41, 2) := by decide +kernel
theorem dX1_pourInto_43 : decode cX1_pourInto 43 = .ok (.if_icmp .ne 13, 3) := by decide +kernel
theorem dX1_pourInto_46 : decode cX1_pourInto 46 = .ok (.aload_n 0, 1) := by decide +kernel
theorem dX1_pourInto_47 : decode cX1_pourInto 47 = .ok (.getfield 18, 3) := by decide +kernel
theorem dX1_pourInto_50 : decode cX1_pourInto 50 = .ok (.iload 5, 2) := by decide +kernel
theorem dX1_pourInto_52 : decode cX1_pourInto 52 = .ok (.iaload, 1) := by decide +kernel
theorem dX1_pourInto_53 : decode cX1_pourInto 53 = .ok (.goto 11, 3) := by decide +kernel
theorem dX1_pourInto_56 : decode cX1_pourInto 56 = .ok (.iload 6, 2) := by decide +kernel
theorem dX1_pourInto_58 : decode cX1_pourInto 58 = .ok (.iconst 0, 1) := by decide +kernel
theorem dX1_pourInto_59 : decode cX1_pourInto 59 = .ok (.bipush 99, 2) := by decide +kernel
theorem dX1_pourInto_61 : decode cX1_pourInto 61 = .ok (.invokestatic 90, 3) := by decide +kernel
theorem dX1_pourInto_64 : decode cX1_pourInto 64 = .ok (.istore 7, 2) := by decide +kernel
theorem dX1_pourInto_66 : decode cX1_pourInto 66 = .ok (.iload 7, 2) := by decide +kernel
theorem dX1_pourInto_68 : decode cX1_pourInto 68 = .ok (.aload_n 0, 1) := by decide +kernel
theorem dX1_pourInto_69 : decode cX1_pourInto 69 = .ok (.getfield 18, 3) := by decide +kernel
theorem dX1_pourInto_72 : decode cX1_pourInto 72 = .ok (.iload 5, 2) := by decide +kernel
theorem dX1_pourInto_74 : decode cX1_pourInto 74 = .ok (.iaload, 1) := by decide +kernel
theorem dX1_pourInto_75 : decode cX1_pourInto 75 = .ok (.if_icmp .eq 15, 3) := by decide +kernel
theorem dX1_pourInto_78 : decode cX1_pourInto 78 = .ok (.aload_n 0, 1) := by decide +kernel
theorem dX1_pourInto_79 : decode cX1_pourInto 79 = .ok (.getfield 18, 3) := by decide +kernel
theorem dX1_pourInto_82 : decode cX1_pourInto 82 = .ok (.iload 5, 2) := by decide +kernel
theorem dX1_pourInto_84 : decode cX1_pourInto 84 = .ok (.iload 7, 2) := by decide +kernel
theorem dX1_pourInto_86 : decode cX1_pourInto 86 = .ok (.iastore, 1) := by decide +kernel
theorem dX1_pourInto_87 : decode cX1_pourInto 87 = .ok (.iinc 3 1, 3) := by decide +kernel
theorem dX1_pourInto_90 : decode cX1_pourInto 90 = .ok (.iinc 4 1, 3) := by decide +kernel
theorem dX1_pourInto_93 : decode cX1_pourInto 93 = .ok (.goto (-88), 3) := by decide +kernel
theorem dX1_pourInto_96 : decode cX1_pourInto 96 = .ok (.iload_n 3, 1) := by decide +kernel
theorem dX1_pourInto_97 : decode cX1_pourInto 97 = .ok (.ireturn, 1) := by decide +kernel
theorem dX1_firstNotLevel_0 : decode cX1_firstNotLevel 0 = .ok (.iconst 0, 1) := by decide +kernel
theorem dX1_firstNotLevel_1 : decode cX1_firstNotLevel 1 = .ok (.istore_n 2, 1) := by decide +kernel
theorem dX1_firstNotLevel_2 : decode cX1_firstNotLevel 2 = .ok (.iload_n 2, 1) := by decide +kernel
theorem dX1_firstNotLevel_3 : decode cX1_firstNotLevel 3 = .ok (.aload_n 1, 1) := by decide +kernel
theorem dX1_firstNotLevel_4 : decode cX1_firstNotLevel 4 = .ok (.getfield 163, 3) := by decide +kernel
theorem dX1_firstNotLevel_7 : decode cX1_firstNotLevel 7 = .ok (.if_icmp .ge 33, 3) := by decide +kernel
theorem dX1_firstNotLevel_10 : decode cX1_firstNotLevel 10 = .ok (.aload_n 1, 1) := by decide +kernel
theorem dX1_firstNotLevel_11 : decode cX1_firstNotLevel 11 = .ok (.getfield 168, 3) := by decide +kernel
theorem dX1_firstNotLevel_14 : decode cX1_firstNotLevel 14 = .ok (.iload_n 2, 1) := by decide +kernel
theorem dX1_firstNotLevel_15 : decode cX1_firstNotLevel 15 = .ok (.iaload, 1) := by decide +kernel
theorem dX1_firstNotLevel_16 : decode cX1_firstNotLevel 16 = .ok (.istore_n 3, 1) := by decide +kernel
theorem dX1_firstNotLevel_17 : decode cX1_firstNotLevel 17 = .ok (.iload_n 3, 1) := by decide +kernel
theorem dX1_firstNotLevel_18 : decode cX1_firstNotLevel 18 = .ok (.ldc 41, 2) := by decide +kernel
theorem dX1_firstNotLevel_20 : decode cX1_firstNotLevel 20 = .ok (.if_icmp .eq 14, 3) := by decide +kernel
theorem dX1_firstNotLevel_23 : decode cX1_firstNotLevel 23 = .ok (.iload_n 3, 1) := by decide +kernel
theorem dX1_firstNotLevel_24 : decode cX1_firstNotLevel 24 = .ok (.aload_n 0, 1) := by decide +kernel
theorem dX1_firstNotLevel_25 : decode cX1_firstNotLevel 25 = .ok (.iload_n 2, 1) := by decide +kernel
theorem dX1_firstNotLevel_26 : decode cX1_firstNotLevel 26 = .ok (.invokevirtual 99, 3) := by decide +kernel
theorem dX1_firstNotLevel_29 : decode cX1_firstNotLevel 29 = .ok (.if_icmp .eq 5, 3) := by decide +kernel
theorem dX1_firstNotLevel_32 : decode cX1_firstNotLevel 32 = .ok (.iload_n 2, 1) := by decide +kernel
theorem dX1_firstNotLevel_33 : decode cX1_firstNotLevel 33 = .ok (.ireturn, 1) := by decide +kernel
theorem dX1_firstNotLevel_34 : decode cX1_firstNotLevel 34 = .ok (.iinc 2 1, 3) := by decide +kernel
theorem dX1_firstNotLevel_37 : decode cX1_firstNotLevel 37 = .ok (.goto (-35), 3) := by decide +kernel
theorem dX1_firstNotLevel_40 : decode cX1_firstNotLevel 40 = .ok (.ldc 41, 2) := by decide +kernel
theorem dX1_firstNotLevel_42 : decode cX1_firstNotLevel 42 = .ok (.ireturn, 1) := by decide +kernel
theorem dX2_above_0 : decode cX2_above 0 = .ok (.iload_n 0, 1) := by decide +kernel
theorem dX2_above_1 : decode cX2_above 1 = .ok (.tableswitch 41 1 5 #[35, 35, 37, 39, 35], 35) := by decide +kernel
theorem dX2_above_36 : decode cX2_above 36 = .ok (.iconst 0, 1) := by decide +kernel
theorem dX2_above_37 : decode cX2_above 37 = .ok (.ireturn, 1) := by decide +kernel
theorem dX2_above_38 : decode cX2_above 38 = .ok (.iconst 1, 1) := by decide +kernel
theorem dX2_above_39 : decode cX2_above 39 = .ok (.ireturn, 1) := by decide +kernel
theorem dX2_above_40 : decode cX2_above 40 = .ok (.iconst 2, 1) := by decide +kernel
theorem dX2_above_41 : decode cX2_above 41 = .ok (.ireturn, 1) := by decide +kernel
theorem dX2_above_42 : decode cX2_above 42 = .ok (.ldc 9, 2) := by decide +kernel
theorem dX2_above_44 : decode cX2_above 44 = .ok (.ireturn, 1) := by decide +kernel
theorem dX2_isUnder_0 : decode cX2_isUnder 0 = .ok (.iload_n 0, 1) := by decide +kernel
theorem dX2_isUnder_1 : decode cX2_isUnder 1 = .ok (.istore_n 2, 1) := by decide +kernel
theorem dX2_isUnder_2 : decode cX2_isUnder 2 = .ok (.iconst 0, 1) := by decide +kernel
theorem dX2_isUnder_3 : decode cX2_isUnder 3 = .ok (.istore_n 3, 1) := by decide +kernel
theorem dX2_isUnder_4 : decode cX2_isUnder 4 = .ok (.iload_n 3, 1) := by decide +kernel
theorem dX2_isUnder_5 : decode cX2_isUnder 5 = .ok (.iconst 5, 1) := by decide +kernel
theorem dX2_isUnder_6 : decode cX2_isUnder 6 = .ok (.if_icmp .gt 27, 3) := by decide +kernel
theorem dX2_isUnder_9 : decode cX2_isUnder 9 = .ok (.iload_n 2, 1) := by decide +kernel
theorem dX2_isUnder_10 : decode cX2_isUnder 10 = .ok (.ldc 9, 2) := by decide +kernel
theorem dX2_isUnder_12 : decode cX2_isUnder 12 = .ok (.if_icmp .eq 21, 3) := by decide +kernel
theorem dX2_isUnder_15 : decode cX2_isUnder 15 = .ok (.iload_n 2, 1) := by decide +kernel
theorem dX2_isUnder_16 : decode cX2_isUnder 16 = .ok (.iload_n 1, 1) := by decide +kernel
theorem dX2_isUnder_17 : decode cX2_isUnder 17 = .ok (.if_icmp .ne 5, 3) := by decide +kernel
theorem dX2_isUnder_20 : decode cX2_isUnder 20 = .ok (.iconst 1, 1) := by decide +kernel
theorem dX2_isUnder_21 : decode cX2_isUnder 21 = .ok (.ireturn, 1) := by decide +kernel
theorem dX2_isUnder_22 : decode cX2_isUnder 22 = .ok (.iload_n 2, 1) := by decide +kernel
theorem dX2_isUnder_23 : decode cX2_isUnder 23 = .ok (.invokestatic 10, 3) := by decide +kernel
theorem dX2_isUnder_26 : decode cX2_isUnder 26 = .ok (.istore_n 2, 1) := by decide +kernel
theorem dX2_isUnder_27 : decode cX2_isUnder 27 = .ok (.iinc 3 1, 3) := by decide +kernel
theorem dX2_isUnder_30 : decode cX2_isUnder 30 = .ok (.goto (-26), 3) := by decide +kernel
theorem dX2_isUnder_33 : decode cX2_isUnder 33 = .ok (.iconst 0, 1) := by decide +kernel
theorem dX2_isUnder_34 : decode cX2_isUnder 34 = .ok (.ireturn, 1) := by decide +kernel
theorem dX2_topOf_0 : decode cX2_topOf 0 = .ok (.iload_n 0, 1) := by decide +kernel
theorem dX2_topOf_1 : decode cX2_topOf 1 = .ok (.tableswitch 47 2 5 #[35, 31, 39, 43], 31) := by decide +kernel
theorem dX2_topOf_32 : decode cX2_topOf 32 = .ok (.iload_n 1, 1) := by decide +kernel
theorem dX2_topOf_33 : decode cX2_topOf 33 = .ok (.iconst 1, 1) := by decide +kernel
theorem dX2_topOf_34 : decode cX2_topOf 34 = .ok (.iadd, 1) := by decide +kernel
theorem dX2_topOf_35 : decode cX2_topOf 35 = .ok (.ireturn, 1) := by decide +kernel
theorem dX2_topOf_36 : decode cX2_topOf 36 = .ok (.iload_n 1, 1) := by decide +kernel
theorem dX2_topOf_37 : decode cX2_topOf 37 = .ok (.iconst 2, 1) := by decide +kernel
theorem dX2_topOf_38 : decode cX2_topOf 38 = .ok (.iadd, 1) := by decide +kernel
theorem dX2_topOf_39 : decode cX2_topOf 39 = .ok (.ireturn, 1) := by decide +kernel
theorem dX2_topOf_40 : decode cX2_topOf 40 = .ok (.iload_n 1, 1) := by decide +kernel
theorem dX2_topOf_41 : decode cX2_topOf 41 = .ok (.iconst 3, 1) := by decide +kernel
theorem dX2_topOf_42 : decode cX2_topOf 42 = .ok (.iadd, 1) := by decide +kernel
theorem dX2_topOf_43 : decode cX2_topOf 43 = .ok (.ireturn, 1) := by decide +kernel
theorem dX2_topOf_44 : decode cX2_topOf 44 = .ok (.iload_n 1, 1) := by decide +kernel
theorem dX2_topOf_45 : decode cX2_topOf 45 = .ok (.iload_n 2, 1) := by decide +kernel
theorem dX2_topOf_46 : decode cX2_topOf 46 = .ok (.iadd, 1) := by decide +kernel
theorem dX2_topOf_47 : decode cX2_topOf 47 = .ok (.ireturn, 1) := by decide +kernel
theorem dX2_topOf_48 : decode cX2_topOf 48 = .ok (.iload_n 1, 1) := by decide +kernel
theorem dX2_topOf_49 : decode cX2_topOf 49 = .ok (.ireturn, 1) := by decide +kernel
theorem dX2_roomOf_0 : decode cX2_roomOf 0 = .ok (.iconst 0, 1) := by decide +kernel
theorem dX2_roomOf_1 : decode cX2_roomOf 1 = .ok (.iload_n 1, 1) := by decide +kernel
theorem dX2_roomOf_2 : decode cX2_roomOf 2 = .ok (.iload_n 2, 1) := by decide +kernel
theorem dX2_roomOf_3 : decode cX2_roomOf 3 = .ok (.bipush 10, 2) := by decide +kernel
theorem dX2_roomOf_5 : decode cX2_roomOf 5 = .ok (.idiv, 1) := by decide +kernel
theorem dX2_roomOf_6 : decode cX2_roomOf 6 = .ok (.isub, 1) := by decide +kernel
theorem dX2_roomOf_7 : decode cX2_roomOf 7 = .ok (.invokestatic 16, 3) := by decide +kernel
theorem dX2_roomOf_10 : decode cX2_roomOf 10 = .ok (.istore_n 3, 1) := by decide +kernel
theorem dX2_roomOf_11 : decode cX2_roomOf 11 = .ok (.iload_n 0, 1) := by decide +kernel
theorem dX2_roomOf_12 : decode cX2_roomOf 12 = .ok (.tableswitch 52 1 5 #[36, 42, 38, 42, 50], 36) := by decide +kernel
theorem dX2_roomOf_48 : decode cX2_roomOf 48 = .ok (.iload_n 3, 1) := by decide +kernel
theorem dX2_roomOf_49 : decode cX2_roomOf 49 = .ok (.ireturn, 1) := by decide +kernel
theorem dX2_roomOf_50 : decode cX2_roomOf 50 = .ok (.iload_n 3, 1) := by decide +kernel
theorem dX2_roomOf_51 : decode cX2_roomOf 51 = .ok (.iconst 2, 1) := by decide +kernel
theorem dX2_roomOf_52 : decode cX2_roomOf 52 = .ok (.idiv, 1) := by decide +kernel
theorem dX2_roomOf_53 : decode cX2_roomOf 53 = .ok (.ireturn, 1) := by decide +kernel
theorem dX2_roomOf_54 : decode cX2_roomOf 54 = .ok (.iconst 0, 1) := by decide +kernel
theorem dX2_roomOf_55 : decode cX2_roomOf 55 = .ok (.iload_n 1, 1) := by decide +kernel
theorem dX2_roomOf_56 : decode cX2_roomOf 56 = .ok (.iconst 4, 1) := by decide +kernel
theorem dX2_roomOf_57 : decode cX2_roomOf 57 = .ok (.isub, 1) := by decide +kernel
theorem dX2_roomOf_58 : decode cX2_roomOf 58 = .ok (.invokestatic 16, 3) := by decide +kernel
theorem dX2_roomOf_61 : decode cX2_roomOf 61 = .ok (.ireturn, 1) := by decide +kernel
theorem dX2_roomOf_62 : decode cX2_roomOf 62 = .ok (.iconst 1, 1) := by decide +kernel
theorem dX2_roomOf_63 : decode cX2_roomOf 63 = .ok (.ireturn, 1) := by decide +kernel
theorem dX2_roomOf_64 : decode cX2_roomOf 64 = .ok (.iload_n 1, 1) := by decide +kernel
theorem dX2_roomOf_65 : decode cX2_roomOf 65 = .ok (.ireturn, 1) := by decide +kernel
theorem dX2_worthOf_0 : decode cX2_worthOf 0 = .ok (.iload_n 0, 1) := by decide +kernel
theorem dX2_worthOf_1 : decode cX2_worthOf 1 = .ok (.tableswitch 61 1 5 #[35, 45, 39, 50, 58], 35) := by decide +kernel
theorem dX2_worthOf_36 : decode cX2_worthOf 36 = .ok (.iload_n 1, 1) := by decide +kernel
theorem dX2_worthOf_37 : decode cX2_worthOf 37 = .ok (.iconst 3, 1) := by decide +kernel
theorem dX2_worthOf_38 : decode cX2_worthOf 38 = .ok (.iadd, 1) := by decide +kernel
theorem dX2_worthOf_39 : decode cX2_worthOf 39 = .ok (.ireturn, 1) := by decide +kernel
theorem dX2_worthOf_40 : decode cX2_worthOf 40 = .ok (.iconst 2, 1) := by decide +kernel
theorem dX2_worthOf_41 : decode cX2_worthOf 41 = .ok (.iload_n 1, 1) := by decide +kernel
theorem dX2_worthOf_42 : decode cX2_worthOf 42 = .ok (.iconst 3, 1) := by decide +kernel
theorem dX2_worthOf_43 : decode cX2_worthOf 43 = .ok (.iadd, 1) := by decide +kernel
theorem dX2_worthOf_44 : decode cX2_worthOf 44 = .ok (.imul, 1) := by decide +kernel
theorem dX2_worthOf_45 : decode cX2_worthOf 45 = .ok (.ireturn, 1) := by decide +kernel
theorem dX2_worthOf_46 : decode cX2_worthOf 46 = .ok (.bipush 20, 2) := by decide +kernel
theorem dX2_worthOf_48 : decode cX2_worthOf 48 = .ok (.iload_n 1, 1) := by decide +kernel
theorem dX2_worthOf_49 : decode cX2_worthOf 49 = .ok (.isub, 1) := by decide +kernel
theorem dX2_worthOf_50 : decode cX2_worthOf 50 = .ok (.ireturn, 1) := by decide +kernel
theorem dX2_worthOf_51 : decode cX2_worthOf 51 = .ok (.bipush 20, 2) := by decide +kernel
theorem dX2_worthOf_53 : decode cX2_worthOf 53 = .ok (.iload_n 1, 1) := by decide +kernel
theorem dX2_worthOf_54 : decode cX2_worthOf 54 = .ok (.isub, 1) := by decide +kernel
theorem dX2_worthOf_55 : decode cX2_worthOf 55 = .ok (.bipush 9, 2) := by decide +kernel
theorem dX2_worthOf_57 : decode cX2_worthOf 57 = .ok (.iadd, 1) := by decide +kernel
theorem dX2_worthOf_58 : decode cX2_worthOf 58 = .ok (.ireturn, 1) := by decide +kernel
theorem dX2_worthOf_59 : decode cX2_worthOf 59 = .ok (.bipush 50, 2) := by decide +kernel
theorem dX2_worthOf_61 : decode cX2_worthOf 61 = .ok (.ireturn, 1) := by decide +kernel
theorem dX2_worthOf_62 : decode cX2_worthOf 62 = .ok (.iload_n 1, 1) := by decide +kernel
theorem dX2_worthOf_63 : decode cX2_worthOf 63 = .ok (.ireturn, 1) := by decide +kernel
theorem dX3_init_0 : decode cX3_init 0 = .ok (.aload_n 0, 1) := by decide +kernel
theorem dX3_init_1 : decode cX3_init 1 = .ok (.invokespecial 3, 3) := by decide +kernel
theorem dX3_init_4 : decode cX3_init 4 = .ok (.aload_n 0, 1) := by decide +kernel
theorem dX3_init_5 : decode cX3_init 5 = .ok (.bipush 14, 2) := by decide +kernel
theorem dX3_init_7 : decode cX3_init 7 = .ok (.newarray .int, 2) := by decide +kernel
theorem dX3_init_9 : decode cX3_init 9 = .ok (.putfield 9, 3) := by decide +kernel
theorem dX3_init_12 : decode cX3_init 12 = .ok (.aload_n 0, 1) := by decide +kernel
theorem dX3_init_13 : decode cX3_init 13 = .ok (.bipush 14, 2) := by decide +kernel
theorem dX3_init_15 : decode cX3_init 15 = .ok (.newarray .int, 2) := by decide +kernel
theorem dX3_init_17 : decode cX3_init 17 = .ok (.putfield 15, 3) := by decide +kernel
theorem dX3_init_20 : decode cX3_init 20 = .ok (.aload_n 0, 1) := by decide +kernel
theorem dX3_init_21 : decode cX3_init 21 = .ok (.bipush 14, 2) := by decide +kernel
theorem dX3_init_23 : decode cX3_init 23 = .ok (.newarray .int, 2) := by decide +kernel
theorem dX3_init_25 : decode cX3_init 25 = .ok (.putfield 18, 3) := by decide +kernel
theorem dX3_init_28 : decode cX3_init 28 = .ok (.aload_n 0, 1) := by decide +kernel
theorem dX3_init_29 : decode cX3_init 29 = .ok (.bipush 14, 2) := by decide +kernel
theorem dX3_init_31 : decode cX3_init 31 = .ok (.bipush 96, 2) := by decide +kernel
theorem dX3_init_33 : decode cX3_init 33 = .ok (.multianewarray 21 2, 4) := by decide +kernel
theorem dX3_init_37 : decode cX3_init 37 = .ok (.putfield 23, 3) := by decide +kernel
theorem dX3_init_40 : decode cX3_init 40 = .ok (.aload_n 0, 1) := by decide +kernel
theorem dX3_init_41 : decode cX3_init 41 = .ok (.bipush 96, 2) := by decide +kernel
theorem dX3_init_43 : decode cX3_init 43 = .ok (.newarray .int, 2) := by decide +kernel
theorem dX3_init_45 : decode cX3_init 45 = .ok (.putfield 26, 3) := by decide +kernel
theorem dX3_init_48 : decode cX3_init 48 = .ok (.return_, 1) := by decide +kernel
theorem dX3_put_0 : decode cX3_put 0 = .ok (.aload_n 0, 1) := by decide +kernel
theorem dX3_put_1 : decode cX3_put 1 = .ok (.getfield 9, 3) := by decide +kernel
theorem dX3_put_4 : decode cX3_put 4 = .ok (.iload_n 1, 1) := by decide +kernel
theorem dX3_put_5 : decode cX3_put 5 = .ok (.aload_n 2, 1) := by decide +kernel
theorem dX3_put_6 : decode cX3_put 6 = .ok (.getfield 29, 3) := by decide +kernel
theorem dX3_put_9 : decode cX3_put 9 = .ok (.iastore, 1) := by decide +kernel
theorem dX3_put_10 : decode cX3_put 10 = .ok (.aload_n 0, 1) := by decide +kernel
theorem dX3_put_11 : decode cX3_put 11 = .ok (.getfield 15, 3) := by decide +kernel
theorem dX3_put_14 : decode cX3_put 14 = .ok (.iload_n 1, 1) := by decide +kernel
theorem dX3_put_15 : decode cX3_put 15 = .ok (.aload_n 2, 1) := by decide +kernel
theorem dX3_put_16 : decode cX3_put 16 = .ok (.getfield 35, 3) := by decide +kernel
theorem dX3_put_19 : decode cX3_put 19 = .ok (.iastore, 1) := by decide +kernel
theorem dX3_put_20 : decode cX3_put 20 = .ok (.aload_n 0, 1) := by decide +kernel
theorem dX3_put_21 : decode cX3_put 21 = .ok (.getfield 18, 3) := by decide +kernel
theorem dX3_put_24 : decode cX3_put 24 = .ok (.iload_n 1, 1) := by decide +kernel
theorem dX3_put_25 : decode cX3_put 25 = .ok (.aload_n 2, 1) := by decide +kernel
theorem dX3_put_26 : decode cX3_put 26 = .ok (.getfield 37, 3) := by decide +kernel
theorem dX3_put_29 : decode cX3_put 29 = .ok (.iastore, 1) := by decide +kernel
theorem dX3_put_30 : decode cX3_put 30 = .ok (.aload_n 2, 1) := by decide +kernel
theorem dX3_put_31 : decode cX3_put 31 = .ok (.getfield 40, 3) := by decide +kernel
theorem dX3_put_34 : decode cX3_put 34 = .ok (.iconst 0, 1) := by decide +kernel
theorem dX3_put_35 : decode cX3_put 35 = .ok (.aload_n 0, 1) := by decide +kernel
theorem dX3_put_36 : decode cX3_put 36 = .ok (.getfield 23, 3) := by decide +kernel
theorem dX3_put_39 : decode cX3_put 39 = .ok (.iload_n 1, 1) := by decide +kernel
theorem dX3_put_40 : decode cX3_put 40 = .ok (.aaload, 1) := by decide +kernel
theorem dX3_put_41 : decode cX3_put 41 = .ok (.iconst 0, 1) := by decide +kernel
theorem dX3_put_42 : decode cX3_put 42 = .ok (.aload_n 2, 1) := by decide +kernel
theorem dX3_put_43 : decode cX3_put 43 = .ok (.getfield 37, 3) := by decide +kernel
theorem dX3_put_46 : decode cX3_put 46 = .ok (.invokestatic 43, 3) := by decide +kernel
theorem dX3_put_49 : decode cX3_put 49 = .ok (.return_, 1) := by decide +kernel
theorem dX3_lastOf_0 : decode cX3_lastOf 0 = .ok (.iload_n 2, 1) := by decide +kernel
theorem dX3_lastOf_1 : decode cX3_lastOf 1 = .ok (.iconst 1, 1) := by decide +kernel
theorem dX3_lastOf_2 : decode cX3_lastOf 2 = .ok (.isub, 1) := by decide +kernel
theorem dX3_lastOf_3 : decode cX3_lastOf 3 = .ok (.istore_n 3, 1) := by decide +kernel
theorem dX3_lastOf_4 : decode cX3_lastOf 4 = .ok (.iload_n 3, 1) := by decide +kernel
theorem dX3_lastOf_5 : decode cX3_lastOf 5 = .ok (.ifCond .lt 21, 3) := by decide +kernel
theorem dX3_lastOf_8 : decode cX3_lastOf 8 = .ok (.aload_n 0, 1) := by decide +kernel
theorem dX3_lastOf_9 : decode cX3_lastOf 9 = .ok (.getfield 9, 3) := by decide +kernel
theorem dX3_lastOf_12 : decode cX3_lastOf 12 = .ok (.iload_n 3, 1) := by decide +kernel
theorem dX3_lastOf_13 : decode cX3_lastOf 13 = .ok (.iaload, 1) := by decide +kernel
theorem dX3_lastOf_14 : decode cX3_lastOf 14 = .ok (.iload_n 1, 1) := by decide +kernel
theorem dX3_lastOf_15 : decode cX3_lastOf 15 = .ok (.if_icmp .ne 5, 3) := by decide +kernel
theorem dX3_lastOf_18 : decode cX3_lastOf 18 = .ok (.iload_n 3, 1) := by decide +kernel
theorem dX3_lastOf_19 : decode cX3_lastOf 19 = .ok (.ireturn, 1) := by decide +kernel
theorem dX3_lastOf_20 : decode cX3_lastOf 20 = .ok (.iinc 3 (-1), 3) := by decide +kernel
theorem dX3_lastOf_23 : decode cX3_lastOf 23 = .ok (.goto (-19), 3) := by decide +kernel
theorem dX3_lastOf_26 : decode cX3_lastOf 26 = .ok (.ldc 49, 2) := by decide +kernel
theorem dX3_lastOf_28 : decode cX3_lastOf 28 = .ok (.ireturn, 1) := by decide +kernel
theorem dX3_workOut_0 : decode cX3_workOut 0 = .ok (.aload_n 0, 1) := by decide +kernel
theorem dX3_workOut_1 : decode cX3_workOut 1 = .ok (.iconst 0, 1) := by decide +kernel
theorem dX3_workOut_2 : decode cX3_workOut 2 = .ok (.putfield 50, 3) := by decide +kernel
theorem dX3_workOut_5 : decode cX3_workOut 5 = .ok (.iconst 0, 1) := by decide +kernel
theorem dX3_workOut_6 : decode cX3_workOut 6 = .ok (.istore 5, 2) := by decide +kernel
theorem dX3_workOut_8 : decode cX3_workOut 8 = .ok (.iload 5, 2) := by decide +kernel
theorem dX3_workOut_10 : decode cX3_workOut 10 = .ok (.aload_n 0, 1) := by decide +kernel
theorem dX3_workOut_11 : decode cX3_workOut 11 = .ok (.getfield 18, 3) := by decide +kernel
theorem dX3_workOut_14 : decode cX3_workOut 14 = .ok (.iload_n 1, 1) := by decide +kernel
theorem dX3_workOut_15 : decode cX3_workOut 15 = .ok (.iaload, 1) := by decide +kernel
theorem dX3_workOut_16 : decode cX3_workOut 16 = .ok (.if_icmp .ge 131, 3) := by decide +kernel
theorem dX3_workOut_19 : decode cX3_workOut 19 = .ok (.aload_n 0, 1) := by decide +kernel
theorem dX3_workOut_20 : decode cX3_workOut 20 = .ok (.getfield 23, 3) := by decide +kernel
theorem dX3_workOut_23 : decode cX3_workOut 23 = .ok (.iload_n 1, 1) := by decide +kernel
theorem dX3_workOut_24 : decode cX3_workOut 24 = .ok (.aaload, 1) := by decide +kernel
theorem dX3_workOut_25 : decode cX3_workOut 25 = .ok (.iload 5, 2) := by decide +kernel
theorem dX3_workOut_27 : decode cX3_workOut 27 = .ok (.iaload, 1) := by decide +kernel
theorem dX3_workOut_28 : decode cX3_workOut 28 = .ok (.istore 6, 2) := by decide +kernel
theorem dX3_workOut_30 : decode cX3_workOut 30 = .ok (.iload 6, 2) := by decide +kernel
theorem dX3_workOut_32 : decode cX3_workOut 32 = .ok (.ifCond .lt 12, 3) := by decide +kernel
theorem dX3_workOut_35 : decode cX3_workOut 35 = .ok (.aload_n 0, 1) := by decide +kernel
theorem dX3_workOut_36 : decode cX3_workOut 36 = .ok (.iload 6, 2) := by decide +kernel
theorem dX3_workOut_38 : decode cX3_workOut 38 = .ok (.invokevirtual 53, 3) := by decide +kernel
theorem dX3_workOut_41 : decode cX3_workOut 41 = .ok (.goto 100, 3) := by decide +kernel
theorem dX3_workOut_44 : decode cX3_workOut 44 = .ok (.iload 6, 2) := by decide +kernel
theorem dX3_workOut_46 : decode cX3_workOut 46 = .ok (.iconst (-1), 1) := by decide +kernel
theorem dX3_workOut_47 : decode cX3_workOut 47 = .ok (.if_icmp .ne 11, 3) := by decide +kernel
theorem dX3_workOut_50 : decode cX3_workOut 50 = .ok (.aload_n 0, 1) := by decide +kernel
theorem dX3_workOut_51 : decode cX3_workOut 51 = .ok (.iload_n 2, 1) := by decide +kernel
theorem dX3_workOut_52 : decode cX3_workOut 52 = .ok (.invokevirtual 53, 3) := by decide +kernel
theorem dX3_workOut_55 : decode cX3_workOut 55 = .ok (.goto 86, 3) := by decide +kernel
theorem dX3_workOut_58 : decode cX3_workOut 58 = .ok (.iload 6, 2) := by decide +kernel
theorem dX3_workOut_60 : decode cX3_workOut 60 = .ok (.bipush (-2), 2) := by decide +kernel
theorem dX3_workOut_62 : decode cX3_workOut 62 = .ok (.if_icmp .ne 11, 3) := by decide +kernel
theorem dX3_workOut_65 : decode cX3_workOut 65 = .ok (.aload_n 0, 1) := by decide +kernel
theorem dX3_workOut_66 : decode cX3_workOut 66 = .ok (.iload_n 3, 1) := by decide +kernel
theorem dX3_workOut_67 : decode cX3_workOut 67 = .ok (.invokevirtual 53, 3) := by decide +kernel
theorem dX3_workOut_70 : decode cX3_workOut 70 = .ok (.goto 71, 3) := by decide +kernel
theorem dX3_workOut_73 : decode cX3_workOut 73 = .ok (.iload 6, 2) := by decide +kernel
theorem dX3_workOut_75 : decode cX3_workOut 75 = .ok (.bipush (-3), 2) := by decide +kernel
theorem dX3_workOut_77 : decode cX3_workOut 77 = .ok (.if_icmp .ne 12, 3) := by decide +kernel
theorem dX3_workOut_80 : decode cX3_workOut 80 = .ok (.aload_n 0, 1) := by decide +kernel
theorem dX3_workOut_81 : decode cX3_workOut 81 = .ok (.iload 4, 2) := by decide +kernel
theorem dX3_workOut_83 : decode cX3_workOut 83 = .ok (.invokevirtual 53, 3) := by decide +kernel
theorem dX3_workOut_86 : decode cX3_workOut 86 = .ok (.goto 55, 3) := by decide +kernel
theorem dX3_workOut_89 : decode cX3_workOut 89 = .ok (.iload 6, 2) := by decide +kernel
theorem dX3_workOut_91 : decode cX3_workOut 91 = .ok (.bipush (-33), 2) := by decide +kernel
theorem dX3_workOut_93 : decode cX3_workOut 93 = .ok (.if_icmp .ne 22, 3) := by decide +kernel
theorem dX3_workOut_96 : decode cX3_workOut 96 = .ok (.aload_n 0, 1) := by decide +kernel
theorem dX3_workOut_97 : decode cX3_workOut 97 = .ok (.aload_n 0, 1) := by decide +kernel
theorem dX3_workOut_98 : decode cX3_workOut 98 = .ok (.invokevirtual 57, 3) := by decide +kernel
theorem dX3_workOut_101 : decode cX3_workOut 101 = .ok (.ifCond .ne 7, 3) := by decide +kernel
theorem dX3_workOut_104 : decode cX3_workOut 104 = .ok (.iconst 1, 1) := by decide +kernel
theorem dX3_workOut_105 : decode cX3_workOut 105 = .ok (.goto 4, 3) := by decide +kernel
theorem dX3_workOut_108 : decode cX3_workOut 108 = .ok (.iconst 0, 1) := by decide +kernel
theorem dX3_workOut_109 : decode cX3_workOut 109 = .ok (.invokevirtual 53, 3) := by decide +kernel
theorem dX3_workOut_112 : decode cX3_workOut 112 = .ok (.goto 29, 3) := by decide +kernel
theorem dX3_workOut_115 : decode cX3_workOut 115 = .ok (.aload_n 0, 1) := by decide +kernel
theorem dX3_workOut_116 : decode cX3_workOut 116 = .ok (.invokevirtual 57, 3) := by decide +kernel
theorem dX3_workOut_119 : decode cX3_workOut 119 = .ok (.istore 7, 2) := by decide +kernel
theorem dX3_workOut_121 : decode cX3_workOut 121 = .ok (.aload_n 0, 1) := by decide +kernel
theorem dX3_workOut_122 : decode cX3_workOut 122 = .ok (.invokevirtual 57, 3) := by decide +kernel
theorem dX3_workOut_125 : decode cX3_workOut 125 = .ok (.istore 8, 2) := by decide +kernel
theorem dX3_workOut_127 : decode cX3_workOut 127 = .ok (.aload_n 0, 1) := by decide +kernel
theorem dX3_workOut_128 : decode cX3_workOut 128 = .ok (.iload 6, 2) := by decide +kernel
theorem dX3_workOut_130 : decode cX3_workOut 130 = .ok (.ineg, 1) := by decide +kernel
theorem dX3_workOut_131 : decode cX3_workOut 131 = .ok (.iload 8, 2) := by decide +kernel
theorem dX3_workOut_133 : decode cX3_workOut 133 = .ok (.iload 7, 2) := by decide +kernel
theorem dX3_workOut_135 : decode cX3_workOut 135 = .ok (.invokestatic 61, 3) := by decide +kernel
theorem dX3_workOut_138 : decode cX3_workOut 138 = .ok (.invokevirtual 53, 3) := by decide +kernel
theorem dX3_workOut_141 : decode cX3_workOut 141 = .ok (.iinc 5 1, 3) := by decide +kernel
theorem dX3_workOut_144 : decode cX3_workOut 144 = .ok (.goto (-136), 3) := by decide +kernel
theorem dX3_workOut_147 : decode cX3_workOut 147 = .ok (.aload_n 0, 1) := by decide +kernel
theorem dX3_workOut_148 : decode cX3_workOut 148 = .ok (.invokevirtual 57, 3) := by decide +kernel
theorem dX3_workOut_151 : decode cX3_workOut 151 = .ok (.ireturn, 1) := by decide +kernel
theorem dX3_join_0 : decode cX3_join 0 = .ok (.iload_n 0, 1) := by decide +kernel
theorem dX3_join_1 : decode cX3_join 1 = .ok (.lookupswitch 168 #[(38, 97), (42, 152), (43, 144), (45, 148), (47, 156), (60, 111), (61, 122), (62, 133), (124, 83)], 83) := by decide +kernel
theorem dX3_join_84 : decode cX3_join 84 = .ok (.iload_n 1, 1) := by decide +kernel
theorem dX3_join_85 : decode cX3_join 85 = .ok (.ifCond .ne 7, 3) := by decide +kernel
theorem dX3_join_88 : decode cX3_join 88 = .ok (.iload_n 2, 1) := by decide +kernel
theorem dX3_join_89 : decode cX3_join 89 = .ok (.ifCond .eq 7, 3) := by decide +kernel
theorem dX3_join_92 : decode cX3_join 92 = .ok (.iconst 1, 1) := by decide +kernel
theorem dX3_join_93 : decode cX3_join 93 = .ok (.goto 4, 3) := by decide +kernel
theorem dX3_join_96 : decode cX3_join 96 = .ok (.iconst 0, 1) := by decide +kernel
theorem dX3_join_97 : decode cX3_join 97 = .ok (.ireturn, 1) := by decide +kernel
theorem dX3_join_98 : decode cX3_join 98 = .ok (.iload_n 1, 1) := by decide +kernel
theorem dX3_join_99 : decode cX3_join 99 = .ok (.ifCond .eq 11, 3) := by decide +kernel
theorem dX3_join_102 : decode cX3_join 102 = .ok (.iload_n 2, 1) := by decide +kernel
theorem dX3_join_103 : decode cX3_join 103 = .ok (.ifCond .eq 7, 3) := by decide +kernel
theorem dX3_join_106 : decode cX3_join 106 = .ok (.iconst 1, 1) := by decide +kernel
theorem dX3_join_107 : decode cX3_join 107 = .ok (.goto 4, 3) := by decide +kernel
theorem dX3_join_110 : decode cX3_join 110 = .ok (.iconst 0, 1) := by decide +kernel
theorem dX3_join_111 : decode cX3_join 111 = .ok (.ireturn, 1) := by decide +kernel
theorem dX3_join_112 : decode cX3_join 112 = .ok (.iload_n 1, 1) := by decide +kernel
theorem dX3_join_113 : decode cX3_join 113 = .ok (.iload_n 2, 1) := by decide +kernel
theorem dX3_join_114 : decode cX3_join 114 = .ok (.if_icmp .ge 7, 3) := by decide +kernel
theorem dX3_join_117 : decode cX3_join 117 = .ok (.iconst 1, 1) := by decide +kernel
theorem dX3_join_118 : decode cX3_join 118 = .ok (.goto 4, 3) := by decide +kernel
theorem dX3_join_121 : decode cX3_join 121 = .ok (.iconst 0, 1) := by decide +kernel
theorem dX3_join_122 : decode cX3_join 122 = .ok (.ireturn, 1) := by decide +kernel
theorem dX3_join_123 : decode cX3_join 123 = .ok (.iload_n 1, 1) := by decide +kernel
theorem dX3_join_124 : decode cX3_join 124 = .ok (.iload_n 2, 1) := by decide +kernel
theorem dX3_join_125 : decode cX3_join 125 = .ok (.if_icmp .ne 7, 3) := by decide +kernel
theorem dX3_join_128 : decode cX3_join 128 = .ok (.iconst 1, 1) := by decide +kernel
theorem dX3_join_129 : decode cX3_join 129 = .ok (.goto 4, 3) := by decide +kernel
theorem dX3_join_132 : decode cX3_join 132 = .ok (.iconst 0, 1) := by decide +kernel
theorem dX3_join_133 : decode cX3_join 133 = .ok (.ireturn, 1) := by decide +kernel
theorem dX3_join_134 : decode cX3_join 134 = .ok (.iload_n 1, 1) := by decide +kernel
theorem dX3_join_135 : decode cX3_join 135 = .ok (.iload_n 2, 1) := by decide +kernel
theorem dX3_join_136 : decode cX3_join 136 = .ok (.if_icmp .le 7, 3) := by decide +kernel
theorem dX3_join_139 : decode cX3_join 139 = .ok (.iconst 1, 1) := by decide +kernel
theorem dX3_join_140 : decode cX3_join 140 = .ok (.goto 4, 3) := by decide +kernel
theorem dX3_join_143 : decode cX3_join 143 = .ok (.iconst 0, 1) := by decide +kernel
theorem dX3_join_144 : decode cX3_join 144 = .ok (.ireturn, 1) := by decide +kernel
theorem dX3_join_145 : decode cX3_join 145 = .ok (.iload_n 1, 1) := by decide +kernel
theorem dX3_join_146 : decode cX3_join 146 = .ok (.iload_n 2, 1) := by decide +kernel
theorem dX3_join_147 : decode cX3_join 147 = .ok (.iadd, 1) := by decide +kernel
theorem dX3_join_148 : decode cX3_join 148 = .ok (.ireturn, 1) := by decide +kernel
theorem dX3_join_149 : decode cX3_join 149 = .ok (.iload_n 1, 1) := by decide +kernel
theorem dX3_join_150 : decode cX3_join 150 = .ok (.iload_n 2, 1) := by decide +kernel
theorem dX3_join_151 : decode cX3_join 151 = .ok (.isub, 1) := by decide +kernel
theorem dX3_join_152 : decode cX3_join 152 = .ok (.ireturn, 1) := by decide +kernel
theorem dX3_join_153 : decode cX3_join 153 = .ok (.iload_n 1, 1) := by decide +kernel
theorem dX3_join_154 : decode cX3_join 154 = .ok (.iload_n 2, 1) := by decide +kernel
theorem dX3_join_155 : decode cX3_join 155 = .ok (.imul, 1) := by decide +kernel
theorem dX3_join_156 : decode cX3_join 156 = .ok (.ireturn, 1) := by decide +kernel
theorem dX3_join_157 : decode cX3_join 157 = .ok (.iload_n 2, 1) := by decide +kernel
theorem dX3_join_158 : decode cX3_join 158 = .ok (.ifCond .ne 7, 3) := by decide +kernel
theorem dX3_join_161 : decode cX3_join 161 = .ok (.iconst 0, 1) := by decide +kernel
theorem dX3_join_162 : decode cX3_join 162 = .ok (.goto 6, 3) := by decide +kernel
theorem dX3_join_165 : decode cX3_join 165 = .ok (.iload_n 1, 1) := by decide +kernel
theorem dX3_join_166 : decode cX3_join 166 = .ok (.iload_n 2, 1) := by decide +kernel
theorem dX3_join_167 : decode cX3_join 167 = .ok (.idiv, 1) := by decide +kernel
theorem dX3_join_168 : decode cX3_join 168 = .ok (.ireturn, 1) := by decide +kernel
theorem dX3_join_169 : decode cX3_join 169 = .ok (.iconst 0, 1) := by decide +kernel
theorem dX3_join_170 : decode cX3_join 170 = .ok (.ireturn, 1) := by decide +kernel
theorem dX3_push_0 : decode cX3_push 0 = .ok (.aload_n 0, 1) := by decide +kernel
theorem dX3_push_1 : decode cX3_push 1 = .ok (.getfield 50, 3) := by decide +kernel
theorem dX3_push_4 : decode cX3_push 4 = .ok (.bipush 96, 2) := by decide +kernel
theorem dX3_push_6 : decode cX3_push 6 = .ok (.if_icmp .ge 23, 3) := by decide +kernel
theorem dX3_push_9 : decode cX3_push 9 = .ok (.aload_n 0, 1) := by decide +kernel
theorem dX3_push_10 : decode cX3_push 10 = .ok (.getfield 26, 3) := by decide +kernel
theorem dX3_push_13 : decode cX3_push 13 = .ok (.aload_n 0, 1) := by decide +kernel
theorem dX3_push_14 : decode cX3_push 14 = .ok (.getfield 50, 3) := by decide +kernel
theorem dX3_push_17 : decode cX3_push 17 = .ok (.iload_n 1, 1) := by decide +kernel
theorem dX3_push_18 : decode cX3_push 18 = .ok (.iastore, 1) := by decide +kernel
theorem dX3_push_19 : decode cX3_push 19 = .ok (.aload_n 0, 1) := by decide +kernel
theorem dX3_push_20 : decode cX3_push 20 = .ok (.dup, 1) := by decide +kernel
theorem dX3_push_21 : decode cX3_push 21 = .ok (.getfield 50, 3) := by decide +kernel
theorem dX3_push_24 : decode cX3_push 24 = .ok (.iconst 1, 1) := by decide +kernel
theorem dX3_push_25 : decode cX3_push 25 = .ok (.iadd, 1) := by decide +kernel
theorem dX3_push_26 : decode cX3_push 26 = .ok (.putfield 50, 3) := by decide +kernel
theorem dX3_push_29 : decode cX3_push 29 = .ok (.return_, 1) := by decide +kernel
theorem dX3_pop_0 : decode cX3_pop 0 = .ok (.aload_n 0, 1) := by decide +kernel
theorem dX3_pop_1 : decode cX3_pop 1 = .ok (.getfield 50, 3) := by decide +kernel
theorem dX3_pop_4 : decode cX3_pop 4 = .ok (.ifCond .ne 5, 3) := by decide +kernel
theorem dX3_pop_7 : decode cX3_pop 7 = .ok (.iconst 0, 1) := by decide +kernel
theorem dX3_pop_8 : decode cX3_pop 8 = .ok (.ireturn, 1) := by decide +kernel
theorem dX3_pop_9 : decode cX3_pop 9 = .ok (.aload_n 0, 1) := by decide +kernel
theorem dX3_pop_10 : decode cX3_pop 10 = .ok (.dup, 1) := by decide +kernel
theorem dX3_pop_11 : decode cX3_pop 11 = .ok (.getfield 50, 3) := by decide +kernel
theorem dX3_pop_14 : decode cX3_pop 14 = .ok (.iconst 1, 1) := by decide +kernel
theorem dX3_pop_15 : decode cX3_pop 15 = .ok (.isub, 1) := by decide +kernel
theorem dX3_pop_16 : decode cX3_pop 16 = .ok (.putfield 50, 3) := by decide +kernel
theorem dX3_pop_19 : decode cX3_pop 19 = .ok (.aload_n 0, 1) := by decide +kernel
theorem dX3_pop_20 : decode cX3_pop 20 = .ok (.getfield 26, 3) := by decide +kernel
theorem dX3_pop_23 : decode cX3_pop 23 = .ok (.aload_n 0, 1) := by decide +kernel
theorem dX3_pop_24 : decode cX3_pop 24 = .ok (.getfield 50, 3) := by decide +kernel
theorem dX3_pop_27 : decode cX3_pop 27 = .ok (.iaload, 1) := by decide +kernel
theorem dX3_pop_28 : decode cX3_pop 28 = .ok (.ireturn, 1) := by decide +kernel
theorem dX4_init_0 : decode cX4_init 0 = .ok (.aload_n 0, 1) := by decide +kernel
theorem dX4_init_1 : decode cX4_init 1 = .ok (.invokespecial 3, 3) := by decide +kernel
theorem dX4_init_4 : decode cX4_init 4 = .ok (.aload_n 0, 1) := by decide +kernel
theorem dX4_init_5 : decode cX4_init 5 = .ok (.bipush 96, 2) := by decide +kernel
theorem dX4_init_7 : decode cX4_init 7 = .ok (.newarray .int, 2) := by decide +kernel
theorem dX4_init_9 : decode cX4_init 9 = .ok (.putfield 9, 3) := by decide +kernel
theorem dX4_init_12 : decode cX4_init 12 = .ok (.aload_n 0, 1) := by decide +kernel
theorem dX4_init_13 : decode cX4_init 13 = .ok (.bipush 96, 2) := by decide +kernel
theorem dX4_init_15 : decode cX4_init 15 = .ok (.newarray .int, 2) := by decide +kernel
theorem dX4_init_17 : decode cX4_init 17 = .ok (.putfield 15, 3) := by decide +kernel
theorem dX4_init_20 : decode cX4_init 20 = .ok (.aload_n 0, 1) := by decide +kernel
theorem dX4_init_21 : decode cX4_init 21 = .ok (.aload_n 1, 1) := by decide +kernel
theorem dX4_init_22 : decode cX4_init 22 = .ok (.putfield 18, 3) := by decide +kernel
theorem dX4_init_25 : decode cX4_init 25 = .ok (.return_, 1) := by decide +kernel
theorem dX4_findFault_0 : decode cX4_findFault 0 = .ok (.aload_n 0, 1) := by decide +kernel
theorem dX4_findFault_1 : decode cX4_findFault 1 = .ok (.invokevirtual 22, 3) := by decide +kernel
theorem dX4_findFault_4 : decode cX4_findFault 4 = .ok (.aload_n 0, 1) := by decide +kernel
theorem dX4_findFault_5 : decode cX4_findFault 5 = .ok (.aload_n 0, 1) := by decide +kernel
theorem dX4_findFault_6 : decode cX4_findFault 6 = .ok (.invokevirtual 25, 3) := by decide +kernel
theorem dX4_findFault_9 : decode cX4_findFault 9 = .ok (.putfield 29, 3) := by decide +kernel
theorem dX4_findFault_12 : decode cX4_findFault 12 = .ok (.aload_n 0, 1) := by decide +kernel
theorem dX4_findFault_13 : decode cX4_findFault 13 = .ok (.getfield 29, 3) := by decide +kernel
theorem dX4_findFault_16 : decode cX4_findFault 16 = .ok (.ldc 33, 2) := by decide +kernel
theorem dX4_findFault_18 : decode cX4_findFault 18 = .ok (.if_icmp .ne 8, 3) := by decide +kernel
theorem dX4_findFault_21 : decode cX4_findFault 21 = .ok (.aload_n 0, 1) := by decide +kernel
theorem dX4_findFault_22 : decode cX4_findFault 22 = .ok (.getfield 34, 3) := by decide +kernel
theorem dX4_findFault_25 : decode cX4_findFault 25 = .ok (.ireturn, 1) := by decide +kernel
theorem dX4_findFault_26 : decode cX4_findFault 26 = .ok (.aload_n 0, 1) := by decide +kernel
theorem dX4_findFault_27 : decode cX4_findFault 27 = .ok (.invokevirtual 37, 3) := by decide +kernel
theorem dX4_findFault_30 : decode cX4_findFault 30 = .ok (.iconst 0, 1) := by decide +kernel
theorem dX4_findFault_31 : decode cX4_findFault 31 = .ok (.istore_n 1, 1) := by decide +kernel
theorem dX4_findFault_32 : decode cX4_findFault 32 = .ok (.iload_n 1, 1) := by decide +kernel
theorem dX4_findFault_33 : decode cX4_findFault 33 = .ok (.bipush 96, 2) := by decide +kernel
theorem dX4_findFault_35 : decode cX4_findFault 35 = .ok (.if_icmp .ge 55, 3) := by decide +kernel
theorem dX4_findFault_38 : decode cX4_findFault 38 = .ok (.aload_n 0, 1) := by decide +kernel
theorem dX4_findFault_39 : decode cX4_findFault 39 = .ok (.getfield 34, 3) := by decide +kernel
theorem dX4_findFault_42 : decode cX4_findFault 42 = .ok (.aload_n 0, 1) := by decide +kernel
theorem dX4_findFault_43 : decode cX4_findFault 43 = .ok (.getfield 18, 3) := by decide +kernel
theorem dX4_findFault_46 : decode cX4_findFault 46 = .ok (.getfield 40, 3) := by decide +kernel
theorem dX4_findFault_49 : decode cX4_findFault 49 = .ok (.if_icmp .ge 41, 3) := by decide +kernel
theorem dX4_findFault_52 : decode cX4_findFault 52 = .ok (.aload_n 0, 1) := by decide +kernel
theorem dX4_findFault_53 : decode cX4_findFault 53 = .ok (.getfield 45, 3) := by decide +kernel
theorem dX4_findFault_56 : decode cX4_findFault 56 = .ok (.ifCond .eq 10, 3) := by decide +kernel
theorem dX4_findFault_59 : decode cX4_findFault 59 = .ok (.aload_n 0, 1) := by decide +kernel
theorem dX4_findFault_60 : decode cX4_findFault 60 = .ok (.invokevirtual 49, 3) := by decide +kernel
theorem dX4_findFault_63 : decode cX4_findFault 63 = .ok (.goto 7, 3) := by decide +kernel
theorem dX4_findFault_66 : decode cX4_findFault 66 = .ok (.aload_n 0, 1) := by decide +kernel
theorem dX4_findFault_67 : decode cX4_findFault 67 = .ok (.invokevirtual 53, 3) := by decide +kernel
theorem dX4_findFault_70 : decode cX4_findFault 70 = .ok (.istore_n 2, 1) := by decide +kernel
theorem dX4_findFault_71 : decode cX4_findFault 71 = .ok (.iload_n 2, 1) := by decide +kernel
theorem dX4_findFault_72 : decode cX4_findFault 72 = .ok (.ifCond .ne 8, 3) := by decide +kernel
theorem dX4_findFault_75 : decode cX4_findFault 75 = .ok (.aload_n 0, 1) := by decide +kernel
theorem dX4_findFault_76 : decode cX4_findFault 76 = .ok (.getfield 34, 3) := by decide +kernel
theorem dX4_findFault_79 : decode cX4_findFault 79 = .ok (.ireturn, 1) := by decide +kernel
theorem dX4_findFault_80 : decode cX4_findFault 80 = .ok (.aload_n 0, 1) := by decide +kernel
theorem dX4_findFault_81 : decode cX4_findFault 81 = .ok (.invokevirtual 37, 3) := by decide +kernel
theorem dX4_findFault_84 : decode cX4_findFault 84 = .ok (.iinc 1 1, 3) := by decide +kernel
theorem dX4_findFault_87 : decode cX4_findFault 87 = .ok (.goto (-55), 3) := by decide +kernel
theorem dX4_findFault_90 : decode cX4_findFault 90 = .ok (.aload_n 0, 1) := by decide +kernel
theorem dX4_findFault_91 : decode cX4_findFault 91 = .ok (.getfield 45, 3) := by decide +kernel
theorem dX4_findFault_94 : decode cX4_findFault 94 = .ok (.ifCond .ne 10, 3) := by decide +kernel
theorem dX4_findFault_97 : decode cX4_findFault 97 = .ok (.aload_n 0, 1) := by decide +kernel
theorem dX4_findFault_98 : decode cX4_findFault 98 = .ok (.getfield 56, 3) := by decide +kernel
theorem dX4_findFault_101 : decode cX4_findFault 101 = .ok (.ifCond .le 8, 3) := by decide +kernel
theorem dX4_findFault_104 : decode cX4_findFault 104 = .ok (.aload_n 0, 1) := by decide +kernel
theorem dX4_findFault_105 : decode cX4_findFault 105 = .ok (.getfield 34, 3) := by decide +kernel
theorem dX4_findFault_108 : decode cX4_findFault 108 = .ok (.ireturn, 1) := by decide +kernel
theorem dX4_findFault_109 : decode cX4_findFault 109 = .ok (.aload_n 0, 1) := by decide +kernel
theorem dX4_findFault_110 : decode cX4_findFault 110 = .ok (.iconst 1, 1) := by decide +kernel
theorem dX4_findFault_111 : decode cX4_findFault 111 = .ok (.invokevirtual 59, 3) := by decide +kernel
theorem dX4_findFault_114 : decode cX4_findFault 114 = .ok (.ldc 33, 2) := by decide +kernel
theorem dX4_findFault_116 : decode cX4_findFault 116 = .ok (.ireturn, 1) := by decide +kernel
theorem dX4_begin_0 : decode cX4_begin 0 = .ok (.aload_n 0, 1) := by decide +kernel
theorem dX4_begin_1 : decode cX4_begin 1 = .ok (.iconst 0, 1) := by decide +kernel
theorem dX4_begin_2 : decode cX4_begin 2 = .ok (.putfield 63, 3) := by decide +kernel
theorem dX4_begin_5 : decode cX4_begin 5 = .ok (.aload_n 0, 1) := by decide +kernel
theorem dX4_begin_6 : decode cX4_begin 6 = .ok (.iconst 0, 1) := by decide +kernel
theorem dX4_begin_7 : decode cX4_begin 7 = .ok (.putfield 66, 3) := by decide +kernel
theorem dX4_begin_10 : decode cX4_begin 10 = .ok (.aload_n 0, 1) := by decide +kernel
theorem dX4_begin_11 : decode cX4_begin 11 = .ok (.iconst 0, 1) := by decide +kernel
theorem dX4_begin_12 : decode cX4_begin 12 = .ok (.putfield 69, 3) := by decide +kernel
theorem dX4_begin_15 : decode cX4_begin 15 = .ok (.aload_n 0, 1) := by decide +kernel
theorem dX4_begin_16 : decode cX4_begin 16 = .ok (.iconst 0, 1) := by decide +kernel
theorem dX4_begin_17 : decode cX4_begin 17 = .ok (.putfield 56, 3) := by decide +kernel
theorem dX4_begin_20 : decode cX4_begin 20 = .ok (.aload_n 0, 1) := by decide +kernel
theorem dX4_begin_21 : decode cX4_begin 21 = .ok (.iconst 0, 1) := by decide +kernel
theorem dX4_begin_22 : decode cX4_begin 22 = .ok (.putfield 72, 3) := by decide +kernel
theorem dX4_begin_25 : decode cX4_begin 25 = .ok (.aload_n 0, 1) := by decide +kernel
theorem dX4_begin_26 : decode cX4_begin 26 = .ok (.iconst 1, 1) := by decide +kernel
theorem dX4_begin_27 : decode cX4_begin 27 = .ok (.putfield 45, 3) := by decide +kernel
theorem dX4_begin_30 : decode cX4_begin 30 = .ok (.aload_n 0, 1) := by decide +kernel
theorem dX4_begin_31 : decode cX4_begin 31 = .ok (.iconst 0, 1) := by decide +kernel
theorem dX4_begin_32 : decode cX4_begin 32 = .ok (.putfield 75, 3) := by decide +kernel
theorem dX4_begin_35 : decode cX4_begin 35 = .ok (.aload_n 0, 1) := by decide +kernel
theorem dX4_begin_36 : decode cX4_begin 36 = .ok (.invokevirtual 37, 3) := by decide +kernel
theorem dX4_begin_39 : decode cX4_begin 39 = .ok (.return_, 1) := by decide +kernel
theorem dX4_goOn_0 : decode cX4_goOn 0 = .ok (.aload_n 0, 1) := by decide +kernel
theorem dX4_goOn_1 : decode cX4_goOn 1 = .ok (.aload_n 0, 1) := by decide +kernel
theorem dX4_goOn_2 : decode cX4_goOn 2 = .ok (.getfield 75, 3) := by decide +kernel
theorem dX4_goOn_5 : decode cX4_goOn 5 = .ok (.putfield 34, 3) := by decide +kernel
theorem dX4_goOn_8 : decode cX4_goOn 8 = .ok (.aload_n 0, 1) := by decide +kernel
theorem dX4_goOn_9 : decode cX4_goOn 9 = .ok (.getfield 34, 3) := by decide +kernel
theorem dX4_goOn_12 : decode cX4_goOn 12 = .ok (.aload_n 0, 1) := by decide +kernel
theorem dX4_goOn_13 : decode cX4_goOn 13 = .ok (.getfield 18, 3) := by decide +kernel
theorem dX4_goOn_16 : decode cX4_goOn 16 = .ok (.getfield 40, 3) := by decide +kernel
theorem dX4_goOn_19 : decode cX4_goOn 19 = .ok (.if_icmp .ge 31, 3) := by decide +kernel
theorem dX4_goOn_22 : decode cX4_goOn 22 = .ok (.aload_n 0, 1) := by decide +kernel
theorem dX4_goOn_23 : decode cX4_goOn 23 = .ok (.getfield 18, 3) := by decide +kernel
theorem dX4_goOn_26 : decode cX4_goOn 26 = .ok (.aload_n 0, 1) := by decide +kernel
theorem dX4_goOn_27 : decode cX4_goOn 27 = .ok (.getfield 34, 3) := by decide +kernel
theorem dX4_goOn_30 : decode cX4_goOn 30 = .ok (.invokevirtual 78, 3) := by decide +kernel
theorem dX4_goOn_33 : decode cX4_goOn 33 = .ok (.iconst 1, 1) := by decide +kernel
theorem dX4_goOn_34 : decode cX4_goOn 34 = .ok (.if_icmp .ne 16, 3) := by decide +kernel
theorem dX4_goOn_37 : decode cX4_goOn 37 = .ok (.aload_n 0, 1) := by decide +kernel
theorem dX4_goOn_38 : decode cX4_goOn 38 = .ok (.dup, 1) := by decide +kernel
theorem dX4_goOn_39 : decode cX4_goOn 39 = .ok (.getfield 34, 3) := by decide +kernel
theorem dX4_goOn_42 : decode cX4_goOn 42 = .ok (.iconst 1, 1) := by decide +kernel
theorem dX4_goOn_43 : decode cX4_goOn 43 = .ok (.iadd, 1) := by decide +kernel
theorem dX4_goOn_44 : decode cX4_goOn 44 = .ok (.putfield 34, 3) := by decide +kernel
theorem dX4_goOn_47 : decode cX4_goOn 47 = .ok (.goto (-39), 3) := by decide +kernel
theorem dX4_goOn_50 : decode cX4_goOn 50 = .ok (.aload_n 0, 1) := by decide +kernel
theorem dX4_goOn_51 : decode cX4_goOn 51 = .ok (.aload_n 0, 1) := by decide +kernel
theorem dX4_goOn_52 : decode cX4_goOn 52 = .ok (.getfield 34, 3) := by decide +kernel
theorem dX4_goOn_55 : decode cX4_goOn 55 = .ok (.putfield 75, 3) := by decide +kernel
theorem dX4_goOn_58 : decode cX4_goOn 58 = .ok (.aload_n 0, 1) := by decide +kernel
theorem dX4_goOn_59 : decode cX4_goOn 59 = .ok (.getfield 18, 3) := by decide +kernel
theorem dX4_goOn_62 : decode cX4_goOn 62 = .ok (.aload_n 0, 1) := by decide +kernel
theorem dX4_goOn_63 : decode cX4_goOn 63 = .ok (.getfield 34, 3) := by decide +kernel
theorem dX4_goOn_66 : decode cX4_goOn 66 = .ok (.invokevirtual 78, 3) := by decide +kernel
theorem dX4_goOn_69 : decode cX4_goOn 69 = .ok (.istore_n 1, 1) := by decide +kernel
theorem dX4_goOn_70 : decode cX4_goOn 70 = .ok (.aload_n 0, 1) := by decide +kernel
theorem dX4_goOn_71 : decode cX4_goOn 71 = .ok (.getfield 75, 3) := by decide +kernel
theorem dX4_goOn_74 : decode cX4_goOn 74 = .ok (.aload_n 0, 1) := by decide +kernel
theorem dX4_goOn_75 : decode cX4_goOn 75 = .ok (.getfield 18, 3) := by decide +kernel
theorem dX4_goOn_78 : decode cX4_goOn 78 = .ok (.getfield 40, 3) := by decide +kernel
theorem dX4_goOn_81 : decode cX4_goOn 81 = .ok (.if_icmp .ge 47, 3) := by decide +kernel
theorem dX4_goOn_84 : decode cX4_goOn 84 = .ok (.aload_n 0, 1) := by decide +kernel
theorem dX4_goOn_85 : decode cX4_goOn 85 = .ok (.getfield 18, 3) := by decide +kernel
theorem dX4_goOn_88 : decode cX4_goOn 88 = .ok (.aload_n 0, 1) := by decide +kernel
theorem dX4_goOn_89 : decode cX4_goOn 89 = .ok (.getfield 75, 3) := by decide +kernel
theorem dX4_goOn_92 : decode cX4_goOn 92 = .ok (.invokevirtual 78, 3) := by decide +kernel
theorem dX4_goOn_95 : decode cX4_goOn 95 = .ok (.iload_n 1, 1) := by decide +kernel
theorem dX4_goOn_96 : decode cX4_goOn 96 = .ok (.if_icmp .ne 32, 3) := by decide +kernel
theorem dX4_goOn_99 : decode cX4_goOn 99 = .ok (.iload_n 1, 1) := by decide +kernel
theorem dX4_goOn_100 : decode cX4_goOn 100 = .ok (.iconst 4, 1) := by decide +kernel
theorem dX4_goOn_101 : decode cX4_goOn 101 = .ok (.if_icmp .ne 14, 3) := by decide +kernel
theorem dX4_goOn_104 : decode cX4_goOn 104 = .ok (.aload_n 0, 1) := by decide +kernel
theorem dX4_goOn_105 : decode cX4_goOn 105 = .ok (.getfield 75, 3) := by decide +kernel
theorem dX4_goOn_108 : decode cX4_goOn 108 = .ok (.aload_n 0, 1) := by decide +kernel
theorem dX4_goOn_109 : decode cX4_goOn 109 = .ok (.getfield 34, 3) := by decide +kernel
theorem dX4_goOn_112 : decode cX4_goOn 112 = .ok (.if_icmp .ne 16, 3) := by decide +kernel
theorem dX4_goOn_115 : decode cX4_goOn 115 = .ok (.aload_n 0, 1) := by decide +kernel
theorem dX4_goOn_116 : decode cX4_goOn 116 = .ok (.dup, 1) := by decide +kernel
theorem dX4_goOn_117 : decode cX4_goOn 117 = .ok (.getfield 75, 3) := by decide +kernel
theorem dX4_goOn_120 : decode cX4_goOn 120 = .ok (.iconst 1, 1) := by decide +kernel
theorem dX4_goOn_121 : decode cX4_goOn 121 = .ok (.iadd, 1) := by decide +kernel
theorem dX4_goOn_122 : decode cX4_goOn 122 = .ok (.putfield 75, 3) := by decide +kernel
theorem dX4_goOn_125 : decode cX4_goOn 125 = .ok (.goto (-55), 3) := by decide +kernel
theorem dX4_goOn_128 : decode cX4_goOn 128 = .ok (.return_, 1) := by decide +kernel
theorem dX4_keyHere_0 : decode cX4_keyHere 0 = .ok (.aload_n 0, 1) := by decide +kernel
theorem dX4_keyHere_1 : decode cX4_keyHere 1 = .ok (.ldc 82, 2) := by decide +kernel
theorem dX4_keyHere_3 : decode cX4_keyHere 3 = .ok (.invokevirtual 84, 3) := by decide +kernel
theorem dX4_keyHere_6 : decode cX4_keyHere 6 = .ok (.ifCond .eq 5, 3) := by decide +kernel
theorem dX4_keyHere_9 : decode cX4_keyHere 9 = .ok (.iconst 0, 1) := by decide +kernel
theorem dX4_keyHere_10 : decode cX4_keyHere 10 = .ok (.ireturn, 1) := by decide +kernel
theorem dX4_keyHere_11 : decode cX4_keyHere 11 = .ok (.aload_n 0, 1) := by decide +kernel
theorem dX4_keyHere_12 : decode cX4_keyHere 12 = .ok (.ldc 88, 2) := by decide +kernel
theorem dX4_keyHere_14 : decode cX4_keyHere 14 = .ok (.invokevirtual 84, 3) := by decide +kernel
theorem dX4_keyHere_17 : decode cX4_keyHere 17 = .ok (.ifCond .eq 5, 3) := by decide +kernel
theorem dX4_keyHere_20 : decode cX4_keyHere 20 = .ok (.iconst 1, 1) := by decide +kernel
theorem dX4_keyHere_21 : decode cX4_keyHere 21 = .ok (.ireturn, 1) := by decide +kernel
theorem dX4_keyHere_22 : decode cX4_keyHere 22 = .ok (.aload_n 0, 1) := by decide +kernel
theorem dX4_keyHere_23 : decode cX4_keyHere 23 = .ok (.ldc 90, 2) := by decide +kernel
theorem dX4_keyHere_25 : decode cX4_keyHere 25 = .ok (.invokevirtual 84, 3) := by decide +kernel
theorem dX4_keyHere_28 : decode cX4_keyHere 28 = .ok (.ifCond .eq 7, 3) := by decide +kernel
theorem dX4_keyHere_31 : decode cX4_keyHere 31 = .ok (.iconst 2, 1) := by decide +kernel
theorem dX4_keyHere_32 : decode cX4_keyHere 32 = .ok (.goto 5, 3) := by decide +kernel
theorem dX4_keyHere_35 : decode cX4_keyHere 35 = .ok (.ldc 33, 2) := by decide +kernel
theorem dX4_keyHere_37 : decode cX4_keyHere 37 = .ok (.ireturn, 1) := by decide +kernel
theorem dX4_spells_0 : decode cX4_spells 0 = .ok (.aload_n 0, 1) := by decide +kernel
theorem dX4_spells_1 : decode cX4_spells 1 = .ok (.getfield 75, 3) := by decide +kernel
theorem dX4_spells_4 : decode cX4_spells 4 = .ok (.aload_n 0, 1) := by decide +kernel
theorem dX4_spells_5 : decode cX4_spells 5 = .ok (.getfield 34, 3) := by decide +kernel
theorem dX4_spells_8 : decode cX4_spells 8 = .ok (.isub, 1) := by decide +kernel
theorem dX4_spells_9 : decode cX4_spells 9 = .ok (.aload_n 1, 1) := by decide +kernel
theorem dX4_spells_10 : decode cX4_spells 10 = .ok (.invokevirtual 92, 3) := by decide +kernel
theorem dX4_spells_13 : decode cX4_spells 13 = .ok (.if_icmp .eq 5, 3) := by decide +kernel
theorem dX4_spells_16 : decode cX4_spells 16 = .ok (.iconst 0, 1) := by decide +kernel
theorem dX4_spells_17 : decode cX4_spells 17 = .ok (.ireturn, 1) := by decide +kernel
theorem dX4_spells_18 : decode cX4_spells 18 = .ok (.iconst 0, 1) := by decide +kernel
theorem dX4_spells_19 : decode cX4_spells 19 = .ok (.istore_n 2, 1) := by decide +kernel
theorem dX4_spells_20 : decode cX4_spells 20 = .ok (.iload_n 2, 1) := by decide +kernel
theorem dX4_spells_21 : decode cX4_spells 21 = .ok (.aload_n 1, 1) := by decide +kernel
theorem dX4_spells_22 : decode cX4_spells 22 = .ok (.invokevirtual 92, 3) := by decide +kernel
theorem dX4_spells_25 : decode cX4_spells 25 = .ok (.if_icmp .ge 32, 3) := by decide +kernel
theorem dX4_spells_28 : decode cX4_spells 28 = .ok (.aload_n 0, 1) := by decide +kernel
theorem dX4_spells_29 : decode cX4_spells 29 = .ok (.getfield 18, 3) := by decide +kernel
theorem dX4_spells_32 : decode cX4_spells 32 = .ok (.aload_n 0, 1) := by decide +kernel
theorem dX4_spells_33 : decode cX4_spells 33 = .ok (.getfield 34, 3) := by decide +kernel
theorem dX4_spells_36 : decode cX4_spells 36 = .ok (.iload_n 2, 1) := by decide +kernel
theorem dX4_spells_37 : decode cX4_spells 37 = .ok (.iadd, 1) := by decide +kernel
theorem dX4_spells_38 : decode cX4_spells 38 = .ok (.invokevirtual 96, 3) := by decide +kernel
theorem dX4_spells_41 : decode cX4_spells 41 = .ok (.aload_n 1, 1) := by decide +kernel
theorem dX4_spells_42 : decode cX4_spells 42 = .ok (.iload_n 2, 1) := by decide +kernel
theorem dX4_spells_43 : decode cX4_spells 43 = .ok (.invokevirtual 99, 3) := by decide +kernel
theorem dX4_spells_46 : decode cX4_spells 46 = .ok (.if_icmp .eq 5, 3) := by decide +kernel
theorem dX4_spells_49 : decode cX4_spells 49 = .ok (.iconst 0, 1) := by decide +kernel
theorem dX4_spells_50 : decode cX4_spells 50 = .ok (.ireturn, 1) := by decide +kernel
theorem dX4_spells_51 : decode cX4_spells 51 = .ok (.iinc 2 1, 3) := by decide +kernel
theorem dX4_spells_54 : decode cX4_spells 54 = .ok (.goto (-34), 3) := by decide +kernel
theorem dX4_spells_57 : decode cX4_spells 57 = .ok (.iconst 1, 1) := by decide +kernel
theorem dX4_spells_58 : decode cX4_spells 58 = .ok (.ireturn, 1) := by decide +kernel
theorem dX4_takePiece_0 : decode cX4_takePiece 0 = .ok (.aload_n 0, 1) := by decide +kernel
theorem dX4_takePiece_1 : decode cX4_takePiece 1 = .ok (.getfield 18, 3) := by decide +kernel
theorem dX4_takePiece_4 : decode cX4_takePiece 4 = .ok (.aload_n 0, 1) := by decide +kernel
theorem dX4_takePiece_5 : decode cX4_takePiece 5 = .ok (.getfield 34, 3) := by decide +kernel
theorem dX4_takePiece_8 : decode cX4_takePiece 8 = .ok (.invokevirtual 96, 3) := by decide +kernel
theorem dX4_takePiece_11 : decode cX4_takePiece 11 = .ok (.istore_n 1, 1) := by decide +kernel
theorem dX4_takePiece_12 : decode cX4_takePiece 12 = .ok (.iload_n 1, 1) := by decide +kernel
theorem dX4_takePiece_13 : decode cX4_takePiece 13 = .ok (.bipush 40, 2) := by decide +kernel
theorem dX4_takePiece_15 : decode cX4_takePiece 15 = .ok (.if_icmp .ne 33, 3) := by decide +kernel
theorem dX4_takePiece_18 : decode cX4_takePiece 18 = .ok (.aload_n 0, 1) := by decide +kernel
theorem dX4_takePiece_19 : decode cX4_takePiece 19 = .ok (.dup, 1) := by decide +kernel
theorem dX4_takePiece_20 : decode cX4_takePiece 20 = .ok (.getfield 56, 3) := by decide +kernel
theorem dX4_takePiece_23 : decode cX4_takePiece 23 = .ok (.iconst 1, 1) := by decide +kernel
theorem dX4_takePiece_24 : decode cX4_takePiece 24 = .ok (.iadd, 1) := by decide +kernel
theorem dX4_takePiece_25 : decode cX4_takePiece 25 = .ok (.putfield 56, 3) := by decide +kernel
theorem dX4_takePiece_28 : decode cX4_takePiece 28 = .ok (.aload_n 0, 1) := by decide +kernel
theorem dX4_takePiece_29 : decode cX4_takePiece 29 = .ok (.iload_n 1, 1) := by decide +kernel
theorem dX4_takePiece_30 : decode cX4_takePiece 30 = .ok (.invokevirtual 103, 3) := by decide +kernel
theorem dX4_takePiece_33 : decode cX4_takePiece 33 = .ok (.aload_n 0, 1) := by decide +kernel
theorem dX4_takePiece_34 : decode cX4_takePiece 34 = .ok (.getfield 56, 3) := by decide +kernel
theorem dX4_takePiece_37 : decode cX4_takePiece 37 = .ok (.bipush 8, 2) := by decide +kernel
theorem dX4_takePiece_39 : decode cX4_takePiece 39 = .ok (.if_icmp .gt 7, 3) := by decide +kernel
theorem dX4_takePiece_42 : decode cX4_takePiece 42 = .ok (.iconst 1, 1) := by decide +kernel
theorem dX4_takePiece_43 : decode cX4_takePiece 43 = .ok (.goto 4, 3) := by decide +kernel
theorem dX4_takePiece_46 : decode cX4_takePiece 46 = .ok (.iconst 0, 1) := by decide +kernel
theorem dX4_takePiece_47 : decode cX4_takePiece 47 = .ok (.ireturn, 1) := by decide +kernel
theorem dX4_takePiece_48 : decode cX4_takePiece 48 = .ok (.iload_n 1, 1) := by decide +kernel
theorem dX4_takePiece_49 : decode cX4_takePiece 49 = .ok (.bipush 33, 2) := by decide +kernel
theorem dX4_takePiece_51 : decode cX4_takePiece 51 = .ok (.if_icmp .ne 33, 3) := by decide +kernel
theorem dX4_takePiece_54 : decode cX4_takePiece 54 = .ok (.aload_n 0, 1) := by decide +kernel
theorem dX4_takePiece_55 : decode cX4_takePiece 55 = .ok (.dup, 1) := by decide +kernel
theorem dX4_takePiece_56 : decode cX4_takePiece 56 = .ok (.getfield 72, 3) := by decide +kernel
theorem dX4_takePiece_59 : decode cX4_takePiece 59 = .ok (.iconst 1, 1) := by decide +kernel
theorem dX4_takePiece_60 : decode cX4_takePiece 60 = .ok (.iadd, 1) := by decide +kernel
theorem dX4_takePiece_61 : decode cX4_takePiece 61 = .ok (.putfield 72, 3) := by decide +kernel
theorem dX4_takePiece_64 : decode cX4_takePiece 64 = .ok (.aload_n 0, 1) := by decide +kernel
theorem dX4_takePiece_65 : decode cX4_takePiece 65 = .ok (.iload_n 1, 1) := by decide +kernel
theorem dX4_takePiece_66 : decode cX4_takePiece 66 = .ok (.invokevirtual 103, 3) := by decide +kernel
theorem dX4_takePiece_69 : decode cX4_takePiece 69 = .ok (.aload_n 0, 1) := by decide +kernel
theorem dX4_takePiece_70 : decode cX4_takePiece 70 = .ok (.getfield 72, 3) := by decide +kernel
theorem dX4_takePiece_73 : decode cX4_takePiece 73 = .ok (.bipush 8, 2) := by decide +kernel
theorem dX4_takePiece_75 : decode cX4_takePiece 75 = .ok (.if_icmp .gt 7, 3) := by decide +kernel
theorem dX4_takePiece_78 : decode cX4_takePiece 78 = .ok (.iconst 1, 1) := by decide +kernel
theorem dX4_takePiece_79 : decode cX4_takePiece 79 = .ok (.goto 4, 3) := by decide +kernel
theorem dX4_takePiece_82 : decode cX4_takePiece 82 = .ok (.iconst 0, 1) := by decide +kernel
theorem dX4_takePiece_83 : decode cX4_takePiece 83 = .ok (.ireturn, 1) := by decide +kernel
theorem dX4_takePiece_84 : decode cX4_takePiece 84 = .ok (.aload_n 0, 1) := by decide +kernel
theorem dX4_takePiece_85 : decode cX4_takePiece 85 = .ok (.invokevirtual 106, 3) := by decide +kernel
theorem dX4_takePiece_88 : decode cX4_takePiece 88 = .ok (.istore_n 2, 1) := by decide +kernel
theorem dX4_takePiece_89 : decode cX4_takePiece 89 = .ok (.iload_n 2, 1) := by decide +kernel
theorem dX4_takePiece_90 : decode cX4_takePiece 90 = .ok (.ldc 33, 2) := by decide +kernel
theorem dX4_takePiece_92 : decode cX4_takePiece 92 = .ok (.if_icmp .ne 5, 3) := by decide +kernel
theorem dX4_takePiece_95 : decode cX4_takePiece 95 = .ok (.iconst 0, 1) := by decide +kernel
theorem dX4_takePiece_96 : decode cX4_takePiece 96 = .ok (.ireturn, 1) := by decide +kernel
theorem dX4_takePiece_97 : decode cX4_takePiece 97 = .ok (.aload_n 0, 1) := by decide +kernel
theorem dX4_takePiece_98 : decode cX4_takePiece 98 = .ok (.iload_n 2, 1) := by decide +kernel
theorem dX4_takePiece_99 : decode cX4_takePiece 99 = .ok (.invokevirtual 109, 3) := by decide +kernel
theorem dX4_takePiece_102 : decode cX4_takePiece 102 = .ok (.aload_n 0, 1) := by decide +kernel
theorem dX4_takePiece_103 : decode cX4_takePiece 103 = .ok (.dup, 1) := by decide +kernel
theorem dX4_takePiece_104 : decode cX4_takePiece 104 = .ok (.getfield 63, 3) := by decide +kernel
theorem dX4_takePiece_107 : decode cX4_takePiece 107 = .ok (.iconst 1, 1) := by decide +kernel
theorem dX4_takePiece_108 : decode cX4_takePiece 108 = .ok (.iadd, 1) := by decide +kernel
theorem dX4_takePiece_109 : decode cX4_takePiece 109 = .ok (.putfield 63, 3) := by decide +kernel
theorem dX4_takePiece_112 : decode cX4_takePiece 112 = .ok (.aload_n 0, 1) := by decide +kernel
theorem dX4_takePiece_113 : decode cX4_takePiece 113 = .ok (.invokevirtual 112, 3) := by decide +kernel
theorem dX4_takePiece_116 : decode cX4_takePiece 116 = .ok (.iconst 1, 1) := by decide +kernel
theorem dX4_takePiece_117 : decode cX4_takePiece 117 = .ok (.ireturn, 1) := by decide +kernel
theorem dX4_operandHere_0 : decode cX4_operandHere 0 = .ok (.aload_n 0, 1) := by decide +kernel
theorem dX4_operandHere_1 : decode cX4_operandHere 1 = .ok (.invokevirtual 115, 3) := by decide +kernel
theorem dX4_operandHere_4 : decode cX4_operandHere 4 = .ok (.ifCond .eq 6, 3) := by decide +kernel
theorem dX4_operandHere_7 : decode cX4_operandHere 7 = .ok (.ldc 33, 2) := by decide +kernel
theorem dX4_operandHere_9 : decode cX4_operandHere 9 = .ok (.ireturn, 1) := by decide +kernel
theorem dX4_operandHere_10 : decode cX4_operandHere 10 = .ok (.aload_n 0, 1) := by decide +kernel
theorem dX4_operandHere_11 : decode cX4_operandHere 11 = .ok (.getfield 18, 3) := by decide +kernel
theorem dX4_operandHere_14 : decode cX4_operandHere 14 = .ok (.aload_n 0, 1) := by decide +kernel
theorem dX4_operandHere_15 : decode cX4_operandHere 15 = .ok (.getfield 34, 3) := by decide +kernel
theorem dX4_operandHere_18 : decode cX4_operandHere 18 = .ok (.invokevirtual 78, 3) := by decide +kernel
theorem dX4_operandHere_21 : decode cX4_operandHere 21 = .ok (.lookupswitch 37 #[(2, 32), (3, 27)], 27) := by decide +kernel
theorem dX4_operandHere_48 : decode cX4_operandHere 48 = .ok (.aload_n 0, 1) := by decide +kernel
theorem dX4_operandHere_49 : decode cX4_operandHere 49 = .ok (.invokevirtual 118, 3) := by decide +kernel
theorem dX4_operandHere_52 : decode cX4_operandHere 52 = .ok (.ireturn, 1) := by decide +kernel
theorem dX4_operandHere_53 : decode cX4_operandHere 53 = .ok (.aload_n 0, 1) := by decide +kernel
theorem dX4_operandHere_54 : decode cX4_operandHere 54 = .ok (.invokevirtual 121, 3) := by decide +kernel
theorem dX4_operandHere_57 : decode cX4_operandHere 57 = .ok (.ireturn, 1) := by decide +kernel
theorem dX4_operandHere_58 : decode cX4_operandHere 58 = .ok (.ldc 33, 2) := by decide +kernel
theorem dX4_operandHere_60 : decode cX4_operandHere 60 = .ok (.ireturn, 1) := by decide +kernel
theorem dX4_followsWord_0 : decode cX4_followsWord 0 = .ok (.aload_n 0, 1) := by decide +kernel
theorem dX4_followsWord_1 : decode cX4_followsWord 1 = .ok (.getfield 18, 3) := by decide +kernel
theorem dX4_followsWord_4 : decode cX4_followsWord 4 = .ok (.aload_n 0, 1) := by decide +kernel
theorem dX4_followsWord_5 : decode cX4_followsWord 5 = .ok (.getfield 34, 3) := by decide +kernel
theorem dX4_followsWord_8 : decode cX4_followsWord 8 = .ok (.iconst 1, 1) := by decide +kernel
theorem dX4_followsWord_9 : decode cX4_followsWord 9 = .ok (.isub, 1) := by decide +kernel
theorem dX4_followsWord_10 : decode cX4_followsWord 10 = .ok (.invokevirtual 78, 3) := by decide +kernel
theorem dX4_followsWord_13 : decode cX4_followsWord 13 = .ok (.istore_n 1, 1) := by decide +kernel
theorem dX4_followsWord_14 : decode cX4_followsWord 14 = .ok (.iload_n 1, 1) := by decide +kernel
theorem dX4_followsWord_15 : decode cX4_followsWord 15 = .ok (.iconst 2, 1) := by decide +kernel
theorem dX4_followsWord_16 : decode cX4_followsWord 16 = .ok (.if_icmp .eq 8, 3) := by decide +kernel
theorem dX4_followsWord_19 : decode cX4_followsWord 19 = .ok (.iload_n 1, 1) := by decide +kernel
theorem dX4_followsWord_20 : decode cX4_followsWord 20 = .ok (.iconst 3, 1) := by decide +kernel
theorem dX4_followsWord_21 : decode cX4_followsWord 21 = .ok (.if_icmp .ne 7, 3) := by decide +kernel
theorem dX4_followsWord_24 : decode cX4_followsWord 24 = .ok (.iconst 1, 1) := by decide +kernel
theorem dX4_followsWord_25 : decode cX4_followsWord 25 = .ok (.goto 4, 3) := by decide +kernel
theorem dX4_followsWord_28 : decode cX4_followsWord 28 = .ok (.iconst 0, 1) := by decide +kernel
theorem dX4_followsWord_29 : decode cX4_followsWord 29 = .ok (.ireturn, 1) := by decide +kernel
theorem dX4_numberHere_0 : decode cX4_numberHere 0 = .ok (.aload_n 0, 1) := by decide +kernel
theorem dX4_numberHere_1 : decode cX4_numberHere 1 = .ok (.getfield 75, 3) := by decide +kernel
theorem dX4_numberHere_4 : decode cX4_numberHere 4 = .ok (.aload_n 0, 1) := by decide +kernel
theorem dX4_numberHere_5 : decode cX4_numberHere 5 = .ok (.getfield 34, 3) := by decide +kernel
theorem dX4_numberHere_8 : decode cX4_numberHere 8 = .ok (.isub, 1) := by decide +kernel
theorem dX4_numberHere_9 : decode cX4_numberHere 9 = .ok (.iconst 4, 1) := by decide +kernel
theorem dX4_numberHere_10 : decode cX4_numberHere 10 = .ok (.if_icmp .le 6, 3) := by decide +kernel
theorem dX4_numberHere_13 : decode cX4_numberHere 13 = .ok (.ldc 33, 2) := by decide +kernel
theorem dX4_numberHere_15 : decode cX4_numberHere 15 = .ok (.ireturn, 1) := by decide +kernel
theorem dX4_numberHere_16 : decode cX4_numberHere 16 = .ok (.iconst 0, 1) := by decide +kernel
theorem dX4_numberHere_17 : decode cX4_numberHere 17 = .ok (.istore_n 1, 1) := by decide +kernel
theorem dX4_numberHere_18 : decode cX4_numberHere 18 = .ok (.aload_n 0, 1) := by decide +kernel
theorem dX4_numberHere_19 : decode cX4_numberHere 19 = .ok (.getfield 34, 3) := by decide +kernel
theorem dX4_numberHere_22 : decode cX4_numberHere 22 = .ok (.istore_n 2, 1) := by decide +kernel
theorem dX4_numberHere_23 : decode cX4_numberHere 23 = .ok (.iload_n 2, 1) := by decide +kernel
theorem dX4_numberHere_24 : decode cX4_numberHere 24 = .ok (.aload_n 0, 1) := by decide +kernel
theorem dX4_numberHere_25 : decode cX4_numberHere 25 = .ok (.getfield 75, 3) := by decide +kernel
theorem dX4_numberHere_28 : decode cX4_numberHere 28 = .ok (.if_icmp .ge 26, 3) := by decide +kernel
theorem dX4_numberHere_31 : decode cX4_numberHere 31 = .ok (.iload_n 1, 1) := by decide +kernel
theorem dX4_numberHere_32 : decode cX4_numberHere 32 = .ok (.bipush 10, 2) := by decide +kernel
theorem dX4_numberHere_34 : decode cX4_numberHere 34 = .ok (.imul, 1) := by decide +kernel
theorem dX4_numberHere_35 : decode cX4_numberHere 35 = .ok (.aload_n 0, 1) := by decide +kernel
theorem dX4_numberHere_36 : decode cX4_numberHere 36 = .ok (.getfield 18, 3) := by decide +kernel
theorem dX4_numberHere_39 : decode cX4_numberHere 39 = .ok (.iload_n 2, 1) := by decide +kernel
theorem dX4_numberHere_40 : decode cX4_numberHere 40 = .ok (.invokevirtual 96, 3) := by decide +kernel
theorem dX4_numberHere_43 : decode cX4_numberHere 43 = .ok (.iadd, 1) := by decide +kernel
theorem dX4_numberHere_44 : decode cX4_numberHere 44 = .ok (.bipush 48, 2) := by decide +kernel
theorem dX4_numberHere_46 : decode cX4_numberHere 46 = .ok (.isub, 1) := by decide +kernel
theorem dX4_numberHere_47 : decode cX4_numberHere 47 = .ok (.istore_n 1, 1) := by decide +kernel
theorem dX4_numberHere_48 : decode cX4_numberHere 48 = .ok (.iinc 2 1, 3) := by decide +kernel
theorem dX4_numberHere_51 : decode cX4_numberHere 51 = .ok (.goto (-28), 3) := by decide +kernel
theorem dX4_numberHere_54 : decode cX4_numberHere 54 = .ok (.iload_n 1, 1) := by decide +kernel
theorem dX4_numberHere_55 : decode cX4_numberHere 55 = .ok (.ireturn, 1) := by decide +kernel
theorem dX4_nameHere_0 : decode cX4_nameHere 0 = .ok (.aload_n 0, 1) := by decide +kernel
theorem dX4_nameHere_1 : decode cX4_nameHere 1 = .ok (.invokevirtual 124, 3) := by decide +kernel
theorem dX4_nameHere_4 : decode cX4_nameHere 4 = .ok (.aload_n 0, 1) := by decide +kernel
theorem dX4_nameHere_5 : decode cX4_nameHere 5 = .ok (.getfield 18, 3) := by decide +kernel
theorem dX4_nameHere_8 : decode cX4_nameHere 8 = .ok (.aload_n 0, 1) := by decide +kernel
theorem dX4_nameHere_9 : decode cX4_nameHere 9 = .ok (.getfield 34, 3) := by decide +kernel
theorem dX4_nameHere_12 : decode cX4_nameHere 12 = .ok (.invokevirtual 96, 3) := by decide +kernel
theorem dX4_nameHere_15 : decode cX4_nameHere 15 = .ok (.i2c, 1) := by decide +kernel
theorem dX4_nameHere_16 : decode cX4_nameHere 16 = .ok (.invokevirtual 128, 3) := by decide +kernel
theorem dX4_nameHere_19 : decode cX4_nameHere 19 = .ok (.istore_n 1, 1) := by decide +kernel
theorem dX4_nameHere_20 : decode cX4_nameHere 20 = .ok (.aload_n 0, 1) := by decide +kernel
theorem dX4_nameHere_21 : decode cX4_nameHere 21 = .ok (.getfield 75, 3) := by decide +kernel
theorem dX4_nameHere_24 : decode cX4_nameHere 24 = .ok (.aload_n 0, 1) := by decide +kernel
theorem dX4_nameHere_25 : decode cX4_nameHere 25 = .ok (.getfield 34, 3) := by decide +kernel
theorem dX4_nameHere_28 : decode cX4_nameHere 28 = .ok (.isub, 1) := by decide +kernel
theorem dX4_nameHere_29 : decode cX4_nameHere 29 = .ok (.iconst 1, 1) := by decide +kernel
theorem dX4_nameHere_30 : decode cX4_nameHere 30 = .ok (.if_icmp .ne 13, 3) := by decide +kernel
theorem dX4_nameHere_33 : decode cX4_nameHere 33 = .ok (.iload_n 1, 1) := by decide +kernel
theorem dX4_nameHere_34 : decode cX4_nameHere 34 = .ok (.ifCond .lt 9, 3) := by decide +kernel
theorem dX4_nameHere_37 : decode cX4_nameHere 37 = .ok (.iconst (-1), 1) := by decide +kernel
theorem dX4_nameHere_38 : decode cX4_nameHere 38 = .ok (.iload_n 1, 1) := by decide +kernel
theorem dX4_nameHere_39 : decode cX4_nameHere 39 = .ok (.isub, 1) := by decide +kernel
theorem dX4_nameHere_40 : decode cX4_nameHere 40 = .ok (.goto 5, 3) := by decide +kernel
theorem dX4_nameHere_43 : decode cX4_nameHere 43 = .ok (.ldc 33, 2) := by decide +kernel
theorem dX4_nameHere_45 : decode cX4_nameHere 45 = .ok (.ireturn, 1) := by decide +kernel
theorem dX4_namesOfKey_0 : decode cX4_namesOfKey 0 = .ok (.aload_n 0, 1) := by decide +kernel
theorem dX4_namesOfKey_1 : decode cX4_namesOfKey 1 = .ok (.getfield 29, 3) := by decide +kernel
theorem dX4_namesOfKey_4 : decode cX4_namesOfKey 4 = .ok (.lookupswitch 34 #[(0, 28), (1, 31)], 28) := by decide +kernel
theorem dX4_namesOfKey_32 : decode cX4_namesOfKey 32 = .ok (.ldc 131, 2) := by decide +kernel
theorem dX4_namesOfKey_34 : decode cX4_namesOfKey 34 = .ok (.areturn, 1) := by decide +kernel
theorem dX4_namesOfKey_35 : decode cX4_namesOfKey 35 = .ok (.ldc 133, 2) := by decide +kernel
theorem dX4_namesOfKey_37 : decode cX4_namesOfKey 37 = .ok (.areturn, 1) := by decide +kernel
theorem dX4_namesOfKey_38 : decode cX4_namesOfKey 38 = .ok (.ldc 135, 2) := by decide +kernel
theorem dX4_namesOfKey_40 : decode cX4_namesOfKey 40 = .ok (.areturn, 1) := by decide +kernel
theorem dX4_endPiece_0 : decode cX4_endPiece 0 = .ok (.iconst 0, 1) := by decide +kernel
theorem dX4_endPiece_1 : decode cX4_endPiece 1 = .ok (.istore_n 1, 1) := by decide +kernel
theorem dX4_endPiece_2 : decode cX4_endPiece 2 = .ok (.iload_n 1, 1) := by decide +kernel
theorem dX4_endPiece_3 : decode cX4_endPiece 3 = .ok (.bipush 8, 2) := by decide +kernel
theorem dX4_endPiece_5 : decode cX4_endPiece 5 = .ok (.if_icmp .ge 47, 3) := by decide +kernel
theorem dX4_endPiece_8 : decode cX4_endPiece 8 = .ok (.aload_n 0, 1) := by decide +kernel
theorem dX4_endPiece_9 : decode cX4_endPiece 9 = .ok (.invokevirtual 137, 3) := by decide +kernel
theorem dX4_endPiece_12 : decode cX4_endPiece 12 = .ok (.bipush 33, 2) := by decide +kernel
theorem dX4_endPiece_14 : decode cX4_endPiece 14 = .ok (.if_icmp .ne 38, 3) := by decide +kernel
theorem dX4_endPiece_17 : decode cX4_endPiece 17 = .ok (.aload_n 0, 1) := by decide +kernel
theorem dX4_endPiece_18 : decode cX4_endPiece 18 = .ok (.aload_n 0, 1) := by decide +kernel
theorem dX4_endPiece_19 : decode cX4_endPiece 19 = .ok (.invokevirtual 137, 3) := by decide +kernel
theorem dX4_endPiece_22 : decode cX4_endPiece 22 = .ok (.ineg, 1) := by decide +kernel
theorem dX4_endPiece_23 : decode cX4_endPiece 23 = .ok (.invokevirtual 109, 3) := by decide +kernel
theorem dX4_endPiece_26 : decode cX4_endPiece 26 = .ok (.aload_n 0, 1) := by decide +kernel
theorem dX4_endPiece_27 : decode cX4_endPiece 27 = .ok (.dup, 1) := by decide +kernel
theorem dX4_endPiece_28 : decode cX4_endPiece 28 = .ok (.getfield 69, 3) := by decide +kernel
theorem dX4_endPiece_31 : decode cX4_endPiece 31 = .ok (.iconst 1, 1) := by decide +kernel
theorem dX4_endPiece_32 : decode cX4_endPiece 32 = .ok (.isub, 1) := by decide +kernel
theorem dX4_endPiece_33 : decode cX4_endPiece 33 = .ok (.putfield 69, 3) := by decide +kernel
theorem dX4_endPiece_36 : decode cX4_endPiece 36 = .ok (.aload_n 0, 1) := by decide +kernel
theorem dX4_endPiece_37 : decode cX4_endPiece 37 = .ok (.dup, 1) := by decide +kernel
theorem dX4_endPiece_38 : decode cX4_endPiece 38 = .ok (.getfield 72, 3) := by decide +kernel
theorem dX4_endPiece_41 : decode cX4_endPiece 41 = .ok (.iconst 1, 1) := by decide +kernel
theorem dX4_endPiece_42 : decode cX4_endPiece 42 = .ok (.isub, 1) := by decide +kernel
theorem dX4_endPiece_43 : decode cX4_endPiece 43 = .ok (.putfield 72, 3) := by decide +kernel
theorem dX4_endPiece_46 : decode cX4_endPiece 46 = .ok (.iinc 1 1, 3) := by decide +kernel
theorem dX4_endPiece_49 : decode cX4_endPiece 49 = .ok (.goto (-47), 3) := by decide +kernel
theorem dX4_endPiece_52 : decode cX4_endPiece 52 = .ok (.aload_n 0, 1) := by decide +kernel
theorem dX4_endPiece_53 : decode cX4_endPiece 53 = .ok (.iconst 0, 1) := by decide +kernel
theorem dX4_endPiece_54 : decode cX4_endPiece 54 = .ok (.putfield 45, 3) := by decide +kernel
theorem dX4_endPiece_57 : decode cX4_endPiece 57 = .ok (.return_, 1) := by decide +kernel
theorem dX4_takeSign_0 : decode cX4_takeSign 0 = .ok (.aload_n 0, 1) := by decide +kernel
theorem dX4_takeSign_1 : decode cX4_takeSign 1 = .ok (.getfield 18, 3) := by decide +kernel
theorem dX4_takeSign_4 : decode cX4_takeSign 4 = .ok (.aload_n 0, 1) := by decide +kernel
theorem dX4_takeSign_5 : decode cX4_takeSign 5 = .ok (.getfield 34, 3) := by decide +kernel
theorem dX4_takeSign_8 : decode cX4_takeSign 8 = .ok (.invokevirtual 96, 3) := by decide +kernel
theorem dX4_takeSign_11 : decode cX4_takeSign 11 = .ok (.istore_n 1, 1) := by decide +kernel
theorem dX4_takeSign_12 : decode cX4_takeSign 12 = .ok (.iload_n 1, 1) := by decide +kernel
theorem dX4_takeSign_13 : decode cX4_takeSign 13 = .ok (.bipush 41, 2) := by decide +kernel
theorem dX4_takeSign_15 : decode cX4_takeSign 15 = .ok (.if_icmp .ne 8, 3) := by decide +kernel
theorem dX4_takeSign_18 : decode cX4_takeSign 18 = .ok (.aload_n 0, 1) := by decide +kernel
theorem dX4_takeSign_19 : decode cX4_takeSign 19 = .ok (.invokevirtual 140, 3) := by decide +kernel
theorem dX4_takeSign_22 : decode cX4_takeSign 22 = .ok (.ireturn, 1) := by decide +kernel
theorem dX4_takeSign_23 : decode cX4_takeSign 23 = .ok (.iload_n 1, 1) := by decide +kernel
theorem dX4_takeSign_24 : decode cX4_takeSign 24 = .ok (.invokestatic 143, 3) := by decide +kernel
theorem dX4_takeSign_27 : decode cX4_takeSign 27 = .ok (.istore_n 2, 1) := by decide +kernel
theorem dX4_takeSign_28 : decode cX4_takeSign 28 = .ok (.iload_n 2, 1) := by decide +kernel
theorem dX4_takeSign_29 : decode cX4_takeSign 29 = .ok (.ifCond .ne 5, 3) := by decide +kernel
theorem dX4_takeSign_32 : decode cX4_takeSign 32 = .ok (.iconst 0, 1) := by decide +kernel
theorem dX4_takeSign_33 : decode cX4_takeSign 33 = .ok (.ireturn, 1) := by decide +kernel
theorem dX4_takeSign_34 : decode cX4_takeSign 34 = .ok (.iload_n 2, 1) := by decide +kernel
theorem dX4_takeSign_35 : decode cX4_takeSign 35 = .ok (.iconst 3, 1) := by decide +kernel
theorem dX4_takeSign_36 : decode cX4_takeSign 36 = .ok (.if_icmp .ne 21, 3) := by decide +kernel
theorem dX4_takeSign_39 : decode cX4_takeSign 39 = .ok (.aload_n 0, 1) := by decide +kernel
theorem dX4_takeSign_40 : decode cX4_takeSign 40 = .ok (.iconst 4, 1) := by decide +kernel
theorem dX4_takeSign_41 : decode cX4_takeSign 41 = .ok (.invokevirtual 59, 3) := by decide +kernel
theorem dX4_takeSign_44 : decode cX4_takeSign 44 = .ok (.aload_n 0, 1) := by decide +kernel
theorem dX4_takeSign_45 : decode cX4_takeSign 45 = .ok (.invokevirtual 137, 3) := by decide +kernel
theorem dX4_takeSign_48 : decode cX4_takeSign 48 = .ok (.invokestatic 143, 3) := by decide +kernel
theorem dX4_takeSign_51 : decode cX4_takeSign 51 = .ok (.iconst 3, 1) := by decide +kernel
theorem dX4_takeSign_52 : decode cX4_takeSign 52 = .ok (.if_icmp .ne 10, 3) := by decide +kernel
theorem dX4_takeSign_55 : decode cX4_takeSign 55 = .ok (.iconst 0, 1) := by decide +kernel
theorem dX4_takeSign_56 : decode cX4_takeSign 56 = .ok (.ireturn, 1) := by decide +kernel
theorem dX4_takeSign_57 : decode cX4_takeSign 57 = .ok (.aload_n 0, 1) := by decide +kernel
theorem dX4_takeSign_58 : decode cX4_takeSign 58 = .ok (.iload_n 2, 1) := by decide +kernel
theorem dX4_takeSign_59 : decode cX4_takeSign 59 = .ok (.invokevirtual 59, 3) := by decide +kernel
theorem dX4_takeSign_62 : decode cX4_takeSign 62 = .ok (.aload_n 0, 1) := by decide +kernel
theorem dX4_takeSign_63 : decode cX4_takeSign 63 = .ok (.iload_n 1, 1) := by decide +kernel
theorem dX4_takeSign_64 : decode cX4_takeSign 64 = .ok (.invokevirtual 103, 3) := by decide +kernel
theorem dX4_takeSign_67 : decode cX4_takeSign 67 = .ok (.aload_n 0, 1) := by decide +kernel
theorem dX4_takeSign_68 : decode cX4_takeSign 68 = .ok (.iconst 1, 1) := by decide +kernel
theorem dX4_takeSign_69 : decode cX4_takeSign 69 = .ok (.putfield 45, 3) := by decide +kernel
theorem dX4_takeSign_72 : decode cX4_takeSign 72 = .ok (.iconst 1, 1) := by decide +kernel
theorem dX4_takeSign_73 : decode cX4_takeSign 73 = .ok (.ireturn, 1) := by decide +kernel
theorem dX4_closeBracket_0 : decode cX4_closeBracket 0 = .ok (.aload_n 0, 1) := by decide +kernel
theorem dX4_closeBracket_1 : decode cX4_closeBracket 1 = .ok (.getfield 56, 3) := by decide +kernel
theorem dX4_closeBracket_4 : decode cX4_closeBracket 4 = .ok (.ifCond .ne 5, 3) := by decide +kernel
theorem dX4_closeBracket_7 : decode cX4_closeBracket 7 = .ok (.iconst 0, 1) := by decide +kernel
theorem dX4_closeBracket_8 : decode cX4_closeBracket 8 = .ok (.ireturn, 1) := by decide +kernel
theorem dX4_closeBracket_9 : decode cX4_closeBracket 9 = .ok (.aload_n 0, 1) := by decide +kernel
theorem dX4_closeBracket_10 : decode cX4_closeBracket 10 = .ok (.iconst 1, 1) := by decide +kernel
theorem dX4_closeBracket_11 : decode cX4_closeBracket 11 = .ok (.invokevirtual 59, 3) := by decide +kernel
theorem dX4_closeBracket_14 : decode cX4_closeBracket 14 = .ok (.aload_n 0, 1) := by decide +kernel
theorem dX4_closeBracket_15 : decode cX4_closeBracket 15 = .ok (.dup, 1) := by decide +kernel
theorem dX4_closeBracket_16 : decode cX4_closeBracket 16 = .ok (.getfield 69, 3) := by decide +kernel
theorem dX4_closeBracket_19 : decode cX4_closeBracket 19 = .ok (.iconst 1, 1) := by decide +kernel
theorem dX4_closeBracket_20 : decode cX4_closeBracket 20 = .ok (.isub, 1) := by decide +kernel
theorem dX4_closeBracket_21 : decode cX4_closeBracket 21 = .ok (.putfield 69, 3) := by decide +kernel
theorem dX4_closeBracket_24 : decode cX4_closeBracket 24 = .ok (.aload_n 0, 1) := by decide +kernel
theorem dX4_closeBracket_25 : decode cX4_closeBracket 25 = .ok (.dup, 1) := by decide +kernel
theorem dX4_closeBracket_26 : decode cX4_closeBracket 26 = .ok (.getfield 56, 3) := by decide +kernel
theorem dX4_closeBracket_29 : decode cX4_closeBracket 29 = .ok (.iconst 1, 1) := by decide +kernel
theorem dX4_closeBracket_30 : decode cX4_closeBracket 30 = .ok (.isub, 1) := by decide +kernel
theorem dX4_closeBracket_31 : decode cX4_closeBracket 31 = .ok (.putfield 56, 3) := by decide +kernel
theorem dX4_closeBracket_34 : decode cX4_closeBracket 34 = .ok (.aload_n 0, 1) := by decide +kernel
theorem dX4_closeBracket_35 : decode cX4_closeBracket 35 = .ok (.invokevirtual 112, 3) := by decide +kernel
theorem dX4_closeBracket_38 : decode cX4_closeBracket 38 = .ok (.iconst 1, 1) := by decide +kernel
theorem dX4_closeBracket_39 : decode cX4_closeBracket 39 = .ok (.ireturn, 1) := by decide +kernel
theorem dX4_putPending_0 : decode cX4_putPending 0 = .ok (.iconst 0, 1) := by decide +kernel
theorem dX4_putPending_1 : decode cX4_putPending 1 = .ok (.istore_n 2, 1) := by decide +kernel
theorem dX4_putPending_2 : decode cX4_putPending 2 = .ok (.iload_n 2, 1) := by decide +kernel
theorem dX4_putPending_3 : decode cX4_putPending 3 = .ok (.bipush 96, 2) := by decide +kernel
theorem dX4_putPending_5 : decode cX4_putPending 5 = .ok (.if_icmp .ge 39, 3) := by decide +kernel
theorem dX4_putPending_8 : decode cX4_putPending 8 = .ok (.aload_n 0, 1) := by decide +kernel
theorem dX4_putPending_9 : decode cX4_putPending 9 = .ok (.invokevirtual 137, 3) := by decide +kernel
theorem dX4_putPending_12 : decode cX4_putPending 12 = .ok (.invokestatic 143, 3) := by decide +kernel
theorem dX4_putPending_15 : decode cX4_putPending 15 = .ok (.iload_n 1, 1) := by decide +kernel
theorem dX4_putPending_16 : decode cX4_putPending 16 = .ok (.if_icmp .lt 28, 3) := by decide +kernel
theorem dX4_putPending_19 : decode cX4_putPending 19 = .ok (.aload_n 0, 1) := by decide +kernel
theorem dX4_putPending_20 : decode cX4_putPending 20 = .ok (.aload_n 0, 1) := by decide +kernel
theorem dX4_putPending_21 : decode cX4_putPending 21 = .ok (.invokevirtual 137, 3) := by decide +kernel
theorem dX4_putPending_24 : decode cX4_putPending 24 = .ok (.ineg, 1) := by decide +kernel
theorem dX4_putPending_25 : decode cX4_putPending 25 = .ok (.invokevirtual 109, 3) := by decide +kernel
theorem dX4_putPending_28 : decode cX4_putPending 28 = .ok (.aload_n 0, 1) := by decide +kernel
theorem dX4_putPending_29 : decode cX4_putPending 29 = .ok (.dup, 1) := by decide +kernel
theorem dX4_putPending_30 : decode cX4_putPending 30 = .ok (.getfield 69, 3) := by decide +kernel
theorem dX4_putPending_33 : decode cX4_putPending 33 = .ok (.iconst 1, 1) := by decide +kernel
theorem dX4_putPending_34 : decode cX4_putPending 34 = .ok (.isub, 1) := by decide +kernel
theorem dX4_putPending_35 : decode cX4_putPending 35 = .ok (.putfield 69, 3) := by decide +kernel
theorem dX4_putPending_38 : decode cX4_putPending 38 = .ok (.iinc 2 1, 3) := by decide +kernel
theorem dX4_putPending_41 : decode cX4_putPending 41 = .ok (.goto (-39), 3) := by decide +kernel
theorem dX4_putPending_44 : decode cX4_putPending 44 = .ok (.return_, 1) := by decide +kernel
theorem dX4_rankOf_0 : decode cX4_rankOf 0 = .ok (.iload_n 0, 1) := by decide +kernel
theorem dX4_rankOf_1 : decode cX4_rankOf 1 = .ok (.lookupswitch 93 #[(38, 85), (42, 91), (43, 89), (45, 89), (47, 91), (60, 87), (61, 87), (62, 87), (124, 83)], 83) := by decide +kernel
theorem dX4_rankOf_84 : decode cX4_rankOf 84 = .ok (.iconst 1, 1) := by decide +kernel
theorem dX4_rankOf_85 : decode cX4_rankOf 85 = .ok (.ireturn, 1) := by decide +kernel
theorem dX4_rankOf_86 : decode cX4_rankOf 86 = .ok (.iconst 2, 1) := by decide +kernel
theorem dX4_rankOf_87 : decode cX4_rankOf 87 = .ok (.ireturn, 1) := by decide +kernel
theorem dX4_rankOf_88 : decode cX4_rankOf 88 = .ok (.iconst 3, 1) := by decide +kernel
theorem dX4_rankOf_89 : decode cX4_rankOf 89 = .ok (.ireturn, 1) := by decide +kernel
theorem dX4_rankOf_90 : decode cX4_rankOf 90 = .ok (.iconst 4, 1) := by decide +kernel
theorem dX4_rankOf_91 : decode cX4_rankOf 91 = .ok (.ireturn, 1) := by decide +kernel
theorem dX4_rankOf_92 : decode cX4_rankOf 92 = .ok (.iconst 5, 1) := by decide +kernel
theorem dX4_rankOf_93 : decode cX4_rankOf 93 = .ok (.ireturn, 1) := by decide +kernel
theorem dX4_rankOf_94 : decode cX4_rankOf 94 = .ok (.iconst 0, 1) := by decide +kernel
theorem dX4_rankOf_95 : decode cX4_rankOf 95 = .ok (.ireturn, 1) := by decide +kernel
theorem dX4_topSign_0 : decode cX4_topSign 0 = .ok (.aload_n 0, 1) := by decide +kernel
theorem dX4_topSign_1 : decode cX4_topSign 1 = .ok (.getfield 69, 3) := by decide +kernel
theorem dX4_topSign_4 : decode cX4_topSign 4 = .ok (.ifCond .le 17, 3) := by decide +kernel
theorem dX4_topSign_7 : decode cX4_topSign 7 = .ok (.aload_n 0, 1) := by decide +kernel
theorem dX4_topSign_8 : decode cX4_topSign 8 = .ok (.getfield 15, 3) := by decide +kernel
theorem dX4_topSign_11 : decode cX4_topSign 11 = .ok (.aload_n 0, 1) := by decide +kernel
theorem dX4_topSign_12 : decode cX4_topSign 12 = .ok (.getfield 69, 3) := by decide +kernel
theorem dX4_topSign_15 : decode cX4_topSign 15 = .ok (.iconst 1, 1) := by decide +kernel
theorem dX4_topSign_16 : decode cX4_topSign 16 = .ok (.isub, 1) := by decide +kernel
theorem dX4_topSign_17 : decode cX4_topSign 17 = .ok (.iaload, 1) := by decide +kernel
theorem dX4_topSign_18 : decode cX4_topSign 18 = .ok (.goto 4, 3) := by decide +kernel
theorem dX4_topSign_21 : decode cX4_topSign 21 = .ok (.iconst 0, 1) := by decide +kernel
theorem dX4_topSign_22 : decode cX4_topSign 22 = .ok (.ireturn, 1) := by decide +kernel
theorem dX4_push_0 : decode cX4_push 0 = .ok (.aload_n 0, 1) := by decide +kernel
theorem dX4_push_1 : decode cX4_push 1 = .ok (.getfield 69, 3) := by decide +kernel
theorem dX4_push_4 : decode cX4_push 4 = .ok (.bipush 96, 2) := by decide +kernel
theorem dX4_push_6 : decode cX4_push 6 = .ok (.if_icmp .ge 23, 3) := by decide +kernel
theorem dX4_push_9 : decode cX4_push 9 = .ok (.aload_n 0, 1) := by decide +kernel
theorem dX4_push_10 : decode cX4_push 10 = .ok (.getfield 15, 3) := by decide +kernel
theorem dX4_push_13 : decode cX4_push 13 = .ok (.aload_n 0, 1) := by decide +kernel
theorem dX4_push_14 : decode cX4_push 14 = .ok (.getfield 69, 3) := by decide +kernel
theorem dX4_push_17 : decode cX4_push 17 = .ok (.iload_n 1, 1) := by decide +kernel
theorem dX4_push_18 : decode cX4_push 18 = .ok (.iastore, 1) := by decide +kernel
theorem dX4_push_19 : decode cX4_push 19 = .ok (.aload_n 0, 1) := by decide +kernel
theorem dX4_push_20 : decode cX4_push 20 = .ok (.dup, 1) := by decide +kernel
theorem dX4_push_21 : decode cX4_push 21 = .ok (.getfield 69, 3) := by decide +kernel
theorem dX4_push_24 : decode cX4_push 24 = .ok (.iconst 1, 1) := by decide +kernel
theorem dX4_push_25 : decode cX4_push 25 = .ok (.iadd, 1) := by decide +kernel
theorem dX4_push_26 : decode cX4_push 26 = .ok (.putfield 69, 3) := by decide +kernel
theorem dX4_push_29 : decode cX4_push 29 = .ok (.return_, 1) := by decide +kernel
theorem dX4_put_0 : decode cX4_put 0 = .ok (.aload_n 0, 1) := by decide +kernel
theorem dX4_put_1 : decode cX4_put 1 = .ok (.getfield 66, 3) := by decide +kernel
theorem dX4_put_4 : decode cX4_put 4 = .ok (.bipush 96, 2) := by decide +kernel
theorem dX4_put_6 : decode cX4_put 6 = .ok (.if_icmp .ge 23, 3) := by decide +kernel
theorem dX4_put_9 : decode cX4_put 9 = .ok (.aload_n 0, 1) := by decide +kernel
theorem dX4_put_10 : decode cX4_put 10 = .ok (.getfield 9, 3) := by decide +kernel
theorem dX4_put_13 : decode cX4_put 13 = .ok (.aload_n 0, 1) := by decide +kernel
theorem dX4_put_14 : decode cX4_put 14 = .ok (.getfield 66, 3) := by decide +kernel
theorem dX4_put_17 : decode cX4_put 17 = .ok (.iload_n 1, 1) := by decide +kernel
theorem dX4_put_18 : decode cX4_put 18 = .ok (.iastore, 1) := by decide +kernel
theorem dX4_put_19 : decode cX4_put 19 = .ok (.aload_n 0, 1) := by decide +kernel
theorem dX4_put_20 : decode cX4_put 20 = .ok (.dup, 1) := by decide +kernel
theorem dX4_put_21 : decode cX4_put 21 = .ok (.getfield 66, 3) := by decide +kernel
theorem dX4_put_24 : decode cX4_put 24 = .ok (.iconst 1, 1) := by decide +kernel
theorem dX4_put_25 : decode cX4_put 25 = .ok (.iadd, 1) := by decide +kernel
theorem dX4_put_26 : decode cX4_put 26 = .ok (.putfield 66, 3) := by decide +kernel
theorem dX4_put_29 : decode cX4_put 29 = .ok (.return_, 1) := by decide +kernel
theorem dX5_init_0 : decode cX5_init 0 = .ok (.aload_n 0, 1) := by decide +kernel
theorem dX5_init_1 : decode cX5_init 1 = .ok (.invokespecial 3, 3) := by decide +kernel
theorem dX5_init_4 : decode cX5_init 4 = .ok (.aload_n 0, 1) := by decide +kernel
theorem dX5_init_5 : decode cX5_init 5 = .ok (.iconst (-1), 1) := by decide +kernel
theorem dX5_init_6 : decode cX5_init 6 = .ok (.putfield 9, 3) := by decide +kernel
theorem dX5_init_9 : decode cX5_init 9 = .ok (.aload_n 0, 1) := by decide +kernel
theorem dX5_init_10 : decode cX5_init 10 = .ok (.bipush 24, 2) := by decide +kernel
theorem dX5_init_12 : decode cX5_init 12 = .ok (.newarray .int, 2) := by decide +kernel
theorem dX5_init_14 : decode cX5_init 14 = .ok (.putfield 15, 3) := by decide +kernel
theorem dX5_init_17 : decode cX5_init 17 = .ok (.return_, 1) := by decide +kernel
theorem dX5_become_0 : decode cX5_become 0 = .ok (.aload_n 0, 1) := by decide +kernel
theorem dX5_become_1 : decode cX5_become 1 = .ok (.iload_n 1, 1) := by decide +kernel
theorem dX5_become_2 : decode cX5_become 2 = .ok (.putfield 9, 3) := by decide +kernel
theorem dX5_become_5 : decode cX5_become 5 = .ok (.aload_n 0, 1) := by decide +kernel
theorem dX5_become_6 : decode cX5_become 6 = .ok (.iload_n 2, 1) := by decide +kernel
theorem dX5_become_7 : decode cX5_become 7 = .ok (.putfield 19, 3) := by decide +kernel
theorem dX5_become_10 : decode cX5_become 10 = .ok (.aload_n 0, 1) := by decide +kernel
theorem dX5_become_11 : decode cX5_become 11 = .ok (.getfield 15, 3) := by decide +kernel
theorem dX5_become_14 : decode cX5_become 14 = .ok (.iconst 0, 1) := by decide +kernel
theorem dX5_become_15 : decode cX5_become 15 = .ok (.invokestatic 22, 3) := by decide +kernel
theorem dX5_become_18 : decode cX5_become 18 = .ok (.return_, 1) := by decide +kernel
theorem dX5_becomeLike_0 : decode cX5_becomeLike 0 = .ok (.aload_n 0, 1) := by decide +kernel
theorem dX5_becomeLike_1 : decode cX5_becomeLike 1 = .ok (.aload_n 1, 1) := by decide +kernel
theorem dX5_becomeLike_2 : decode cX5_becomeLike 2 = .ok (.getfield 9, 3) := by decide +kernel
theorem dX5_becomeLike_5 : decode cX5_becomeLike 5 = .ok (.putfield 9, 3) := by decide +kernel
theorem dX5_becomeLike_8 : decode cX5_becomeLike 8 = .ok (.aload_n 0, 1) := by decide +kernel
theorem dX5_becomeLike_9 : decode cX5_becomeLike 9 = .ok (.aload_n 1, 1) := by decide +kernel
theorem dX5_becomeLike_10 : decode cX5_becomeLike 10 = .ok (.getfield 19, 3) := by decide +kernel
theorem dX5_becomeLike_13 : decode cX5_becomeLike 13 = .ok (.putfield 19, 3) := by decide +kernel
theorem dX5_becomeLike_16 : decode cX5_becomeLike 16 = .ok (.aload_n 1, 1) := by decide +kernel
theorem dX5_becomeLike_17 : decode cX5_becomeLike 17 = .ok (.getfield 15, 3) := by decide +kernel
theorem dX5_becomeLike_20 : decode cX5_becomeLike 20 = .ok (.iconst 0, 1) := by decide +kernel
theorem dX5_becomeLike_21 : decode cX5_becomeLike 21 = .ok (.aload_n 0, 1) := by decide +kernel
theorem dX5_becomeLike_22 : decode cX5_becomeLike 22 = .ok (.getfield 15, 3) := by decide +kernel
theorem dX5_becomeLike_25 : decode cX5_becomeLike 25 = .ok (.iconst 0, 1) := by decide +kernel
theorem dX5_becomeLike_26 : decode cX5_becomeLike 26 = .ok (.bipush 24, 2) := by decide +kernel
theorem dX5_becomeLike_28 : decode cX5_becomeLike 28 = .ok (.invokestatic 28, 3) := by decide +kernel
theorem dX5_becomeLike_31 : decode cX5_becomeLike 31 = .ok (.return_, 1) := by decide +kernel
theorem dX5_hasPlace_0 : decode cX5_hasPlace 0 = .ok (.iload_n 1, 1) := by decide +kernel
theorem dX5_hasPlace_1 : decode cX5_hasPlace 1 = .ok (.ifCond .lt 15, 3) := by decide +kernel
theorem dX5_hasPlace_4 : decode cX5_hasPlace 4 = .ok (.iload_n 1, 1) := by decide +kernel
theorem dX5_hasPlace_5 : decode cX5_hasPlace 5 = .ok (.aload_n 0, 1) := by decide +kernel
theorem dX5_hasPlace_6 : decode cX5_hasPlace 6 = .ok (.getfield 19, 3) := by decide +kernel
theorem dX5_hasPlace_9 : decode cX5_hasPlace 9 = .ok (.if_icmp .ge 7, 3) := by decide +kernel
theorem dX5_hasPlace_12 : decode cX5_hasPlace 12 = .ok (.iconst 1, 1) := by decide +kernel
theorem dX5_hasPlace_13 : decode cX5_hasPlace 13 = .ok (.goto 4, 3) := by decide +kernel
theorem dX5_hasPlace_16 : decode cX5_hasPlace 16 = .ok (.iconst 0, 1) := by decide +kernel
theorem dX5_hasPlace_17 : decode cX5_hasPlace 17 = .ok (.ireturn, 1) := by decide +kernel
theorem dX5_hasPlaces_0 : decode cX5_hasPlaces 0 = .ok (.iload_n 1, 1) := by decide +kernel
theorem dX5_hasPlaces_1 : decode cX5_hasPlaces 1 = .ok (.ifCond .lt 29, 3) := by decide +kernel
theorem dX5_hasPlaces_4 : decode cX5_hasPlaces 4 = .ok (.iload_n 2, 1) := by decide +kernel
theorem dX5_hasPlaces_5 : decode cX5_hasPlaces 5 = .ok (.ifCond .lt 25, 3) := by decide +kernel
theorem dX5_hasPlaces_8 : decode cX5_hasPlaces 8 = .ok (.iload_n 1, 1) := by decide +kernel
theorem dX5_hasPlaces_9 : decode cX5_hasPlaces 9 = .ok (.aload_n 0, 1) := by decide +kernel
theorem dX5_hasPlaces_10 : decode cX5_hasPlaces 10 = .ok (.getfield 19, 3) := by decide +kernel
theorem dX5_hasPlaces_13 : decode cX5_hasPlaces 13 = .ok (.if_icmp .gt 17, 3) := by decide +kernel
theorem dX5_hasPlaces_16 : decode cX5_hasPlaces 16 = .ok (.iload_n 2, 1) := by decide +kernel
theorem dX5_hasPlaces_17 : decode cX5_hasPlaces 17 = .ok (.aload_n 0, 1) := by decide +kernel
theorem dX5_hasPlaces_18 : decode cX5_hasPlaces 18 = .ok (.getfield 19, 3) := by decide +kernel
theorem dX5_hasPlaces_21 : decode cX5_hasPlaces 21 = .ok (.iload_n 1, 1) := by decide +kernel
theorem dX5_hasPlaces_22 : decode cX5_hasPlaces 22 = .ok (.isub, 1) := by decide +kernel
theorem dX5_hasPlaces_23 : decode cX5_hasPlaces 23 = .ok (.if_icmp .gt 7, 3) := by decide +kernel
theorem dX5_hasPlaces_26 : decode cX5_hasPlaces 26 = .ok (.iconst 1, 1) := by decide +kernel
theorem dX5_hasPlaces_27 : decode cX5_hasPlaces 27 = .ok (.goto 4, 3) := by decide +kernel
theorem dX5_hasPlaces_30 : decode cX5_hasPlaces 30 = .ok (.iconst 0, 1) := by decide +kernel
theorem dX5_hasPlaces_31 : decode cX5_hasPlaces 31 = .ok (.ireturn, 1) := by decide +kernel
theorem dX6_init_0 : decode cX6_init 0 = .ok (.aload_n 0, 1) := by decide +kernel
theorem dX6_init_1 : decode cX6_init 1 = .ok (.invokespecial 3, 3) := by decide +kernel
theorem dX6_init_4 : decode cX6_init 4 = .ok (.aload_n 0, 1) := by decide +kernel
theorem dX6_init_5 : decode cX6_init 5 = .ok (.iconst 0, 1) := by decide +kernel
theorem dX6_init_6 : decode cX6_init 6 = .ok (.putfield 9, 3) := by decide +kernel
theorem dX6_init_9 : decode cX6_init 9 = .ok (.aload_n 0, 1) := by decide +kernel
theorem dX6_init_10 : decode cX6_init 10 = .ok (.new 15, 3) := by decide +kernel
theorem dX6_init_13 : decode cX6_init 13 = .ok (.dup, 1) := by decide +kernel
theorem dX6_init_14 : decode cX6_init 14 = .ok (.invokespecial 17, 3) := by decide +kernel
theorem dX6_init_17 : decode cX6_init 17 = .ok (.putfield 18, 3) := by decide +kernel
theorem dX6_init_20 : decode cX6_init 20 = .ok (.return_, 1) := by decide +kernel
theorem dX6_findingFor_0 : decode cX6_findingFor 0 = .ok (.aload_n 0, 1) := by decide +kernel
theorem dX6_findingFor_1 : decode cX6_findingFor 1 = .ok (.getfield 9, 3) := by decide +kernel
theorem dX6_findingFor_4 : decode cX6_findingFor 4 = .ok (.ifCond .ne 6, 3) := by decide +kernel
theorem dX6_findingFor_7 : decode cX6_findingFor 7 = .ok (.ldc 22, 2) := by decide +kernel
theorem dX6_findingFor_9 : decode cX6_findingFor 9 = .ok (.ireturn, 1) := by decide +kernel
theorem dX6_findingFor_10 : decode cX6_findingFor 10 = .ok (.aload_n 0, 1) := by decide +kernel
theorem dX6_findingFor_11 : decode cX6_findingFor 11 = .ok (.getfield 9, 3) := by decide +kernel
theorem dX6_findingFor_14 : decode cX6_findingFor 14 = .ok (.iload_n 1, 1) := by decide +kernel
theorem dX6_findingFor_15 : decode cX6_findingFor 15 = .ok (.if_icmp .ne 8, 3) := by decide +kernel
theorem dX6_findingFor_18 : decode cX6_findingFor 18 = .ok (.ldc 23, 2) := by decide +kernel
theorem dX6_findingFor_20 : decode cX6_findingFor 20 = .ok (.goto 5, 3) := by decide +kernel
theorem dX6_findingFor_23 : decode cX6_findingFor 23 = .ok (.ldc 24, 2) := by decide +kernel
theorem dX6_findingFor_25 : decode cX6_findingFor 25 = .ok (.ireturn, 1) := by decide +kernel
theorem dX7_init_0 : decode cX7_init 0 = .ok (.aload_n 0, 1) := by decide +kernel
theorem dX7_init_1 : decode cX7_init 1 = .ok (.invokespecial 3, 3) := by decide +kernel
theorem dX7_init_4 : decode cX7_init 4 = .ok (.aload_n 0, 1) := by decide +kernel
theorem dX7_init_5 : decode cX7_init 5 = .ok (.bipush 96, 2) := by decide +kernel
theorem dX7_init_7 : decode cX7_init 7 = .ok (.newarray .int, 2) := by decide +kernel
theorem dX7_init_9 : decode cX7_init 9 = .ok (.putfield 9, 3) := by decide +kernel
theorem dX7_init_12 : decode cX7_init 12 = .ok (.return_, 1) := by decide +kernel
theorem dX7_addNumber_0 : decode cX7_addNumber 0 = .ok (.bipush 24, 2) := by decide +kernel
theorem dX7_addNumber_2 : decode cX7_addNumber 2 = .ok (.istore_n 2, 1) := by decide +kernel
theorem dX7_addNumber_3 : decode cX7_addNumber 3 = .ok (.iload_n 2, 1) := by decide +kernel
theorem dX7_addNumber_4 : decode cX7_addNumber 4 = .ok (.ifCond .lt 44, 3) := by decide +kernel
theorem dX7_addNumber_7 : decode cX7_addNumber 7 = .ok (.aload_n 0, 1) := by decide +kernel
theorem dX7_addNumber_8 : decode cX7_addNumber 8 = .ok (.getfield 15, 3) := by decide +kernel
theorem dX7_addNumber_11 : decode cX7_addNumber 11 = .ok (.bipush 96, 2) := by decide +kernel
theorem dX7_addNumber_13 : decode cX7_addNumber 13 = .ok (.if_icmp .ge 35, 3) := by decide +kernel
theorem dX7_addNumber_16 : decode cX7_addNumber 16 = .ok (.aload_n 0, 1) := by decide +kernel
theorem dX7_addNumber_17 : decode cX7_addNumber 17 = .ok (.getfield 9, 3) := by decide +kernel
theorem dX7_addNumber_20 : decode cX7_addNumber 20 = .ok (.aload_n 0, 1) := by decide +kernel
theorem dX7_addNumber_21 : decode cX7_addNumber 21 = .ok (.getfield 15, 3) := by decide +kernel
theorem dX7_addNumber_24 : decode cX7_addNumber 24 = .ok (.iload_n 1, 1) := by decide +kernel
theorem dX7_addNumber_25 : decode cX7_addNumber 25 = .ok (.iload_n 2, 1) := by decide +kernel
theorem dX7_addNumber_26 : decode cX7_addNumber 26 = .ok (.iushr, 1) := by decide +kernel
theorem dX7_addNumber_27 : decode cX7_addNumber 27 = .ok (.sipush 255, 3) := by decide +kernel
theorem dX7_addNumber_30 : decode cX7_addNumber 30 = .ok (.iand, 1) := by decide +kernel
theorem dX7_addNumber_31 : decode cX7_addNumber 31 = .ok (.iastore, 1) := by decide +kernel
theorem dX7_addNumber_32 : decode cX7_addNumber 32 = .ok (.aload_n 0, 1) := by decide +kernel
theorem dX7_addNumber_33 : decode cX7_addNumber 33 = .ok (.dup, 1) := by decide +kernel
theorem dX7_addNumber_34 : decode cX7_addNumber 34 = .ok (.getfield 15, 3) := by decide +kernel
theorem dX7_addNumber_37 : decode cX7_addNumber 37 = .ok (.iconst 1, 1) := by decide +kernel
theorem dX7_addNumber_38 : decode cX7_addNumber 38 = .ok (.iadd, 1) := by decide +kernel
theorem dX7_addNumber_39 : decode cX7_addNumber 39 = .ok (.putfield 15, 3) := by decide +kernel
theorem dX7_addNumber_42 : decode cX7_addNumber 42 = .ok (.iinc 2 (-8), 3) := by decide +kernel
theorem dX7_addNumber_45 : decode cX7_addNumber 45 = .ok (.goto (-42), 3) := by decide +kernel
theorem dX7_addNumber_48 : decode cX7_addNumber 48 = .ok (.return_, 1) := by decide +kernel
theorem dX7_byteAt_0 : decode cX7_byteAt 0 = .ok (.iload_n 1, 1) := by decide +kernel
theorem dX7_byteAt_1 : decode cX7_byteAt 1 = .ok (.ifCond .lt 20, 3) := by decide +kernel
theorem dX7_byteAt_4 : decode cX7_byteAt 4 = .ok (.iload_n 1, 1) := by decide +kernel
theorem dX7_byteAt_5 : decode cX7_byteAt 5 = .ok (.aload_n 0, 1) := by decide +kernel
theorem dX7_byteAt_6 : decode cX7_byteAt 6 = .ok (.getfield 15, 3) := by decide +kernel
theorem dX7_byteAt_9 : decode cX7_byteAt 9 = .ok (.if_icmp .ge 12, 3) := by decide +kernel
theorem dX7_byteAt_12 : decode cX7_byteAt 12 = .ok (.aload_n 0, 1) := by decide +kernel
theorem dX7_byteAt_13 : decode cX7_byteAt 13 = .ok (.getfield 9, 3) := by decide +kernel
theorem dX7_byteAt_16 : decode cX7_byteAt 16 = .ok (.iload_n 1, 1) := by decide +kernel
theorem dX7_byteAt_17 : decode cX7_byteAt 17 = .ok (.iaload, 1) := by decide +kernel
theorem dX7_byteAt_18 : decode cX7_byteAt 18 = .ok (.goto 4, 3) := by decide +kernel
theorem dX7_byteAt_21 : decode cX7_byteAt 21 = .ok (.iconst 0, 1) := by decide +kernel
theorem dX7_byteAt_22 : decode cX7_byteAt 22 = .ok (.ireturn, 1) := by decide +kernel
theorem dX7_sortAt_0 : decode cX7_sortAt 0 = .ok (.iload_n 1, 1) := by decide +kernel
theorem dX7_sortAt_1 : decode cX7_sortAt 1 = .ok (.ifCond .lt 11, 3) := by decide +kernel
theorem dX7_sortAt_4 : decode cX7_sortAt 4 = .ok (.iload_n 1, 1) := by decide +kernel
theorem dX7_sortAt_5 : decode cX7_sortAt 5 = .ok (.aload_n 0, 1) := by decide +kernel
theorem dX7_sortAt_6 : decode cX7_sortAt 6 = .ok (.getfield 15, 3) := by decide +kernel
theorem dX7_sortAt_9 : decode cX7_sortAt 9 = .ok (.if_icmp .lt 5, 3) := by decide +kernel
theorem dX7_sortAt_12 : decode cX7_sortAt 12 = .ok (.iconst 0, 1) := by decide +kernel
theorem dX7_sortAt_13 : decode cX7_sortAt 13 = .ok (.ireturn, 1) := by decide +kernel
theorem dX7_sortAt_14 : decode cX7_sortAt 14 = .ok (.aload_n 0, 1) := by decide +kernel
theorem dX7_sortAt_15 : decode cX7_sortAt 15 = .ok (.getfield 9, 3) := by decide +kernel
theorem dX7_sortAt_18 : decode cX7_sortAt 18 = .ok (.iload_n 1, 1) := by decide +kernel
theorem dX7_sortAt_19 : decode cX7_sortAt 19 = .ok (.iaload, 1) := by decide +kernel
theorem dX7_sortAt_20 : decode cX7_sortAt 20 = .ok (.istore_n 2, 1) := by decide +kernel
theorem dX7_sortAt_21 : decode cX7_sortAt 21 = .ok (.iload_n 2, 1) := by decide +kernel
theorem dX7_sortAt_22 : decode cX7_sortAt 22 = .ok (.bipush 32, 2) := by decide +kernel
theorem dX7_sortAt_24 : decode cX7_sortAt 24 = .ok (.if_icmp .ne 5, 3) := by decide +kernel
theorem dX7_sortAt_27 : decode cX7_sortAt 27 = .ok (.iconst 1, 1) := by decide +kernel
theorem dX7_sortAt_28 : decode cX7_sortAt 28 = .ok (.ireturn, 1) := by decide +kernel
theorem dX7_sortAt_29 : decode cX7_sortAt 29 = .ok (.iload_n 2, 1) := by decide +kernel
theorem dX7_sortAt_30 : decode cX7_sortAt 30 = .ok (.bipush 97, 2) := by decide +kernel
theorem dX7_sortAt_32 : decode cX7_sortAt 32 = .ok (.if_icmp .lt 11, 3) := by decide +kernel
theorem dX7_sortAt_35 : decode cX7_sortAt 35 = .ok (.iload_n 2, 1) := by decide +kernel
theorem dX7_sortAt_36 : decode cX7_sortAt 36 = .ok (.bipush 122, 2) := by decide +kernel
theorem dX7_sortAt_38 : decode cX7_sortAt 38 = .ok (.if_icmp .gt 5, 3) := by decide +kernel
theorem dX7_sortAt_41 : decode cX7_sortAt 41 = .ok (.iconst 2, 1) := by decide +kernel
theorem dX7_sortAt_42 : decode cX7_sortAt 42 = .ok (.ireturn, 1) := by decide +kernel
theorem dX7_sortAt_43 : decode cX7_sortAt 43 = .ok (.iload_n 2, 1) := by decide +kernel
theorem dX7_sortAt_44 : decode cX7_sortAt 44 = .ok (.bipush 48, 2) := by decide +kernel
theorem dX7_sortAt_46 : decode cX7_sortAt 46 = .ok (.if_icmp .lt 13, 3) := by decide +kernel
theorem dX7_sortAt_49 : decode cX7_sortAt 49 = .ok (.iload_n 2, 1) := by decide +kernel
theorem dX7_sortAt_50 : decode cX7_sortAt 50 = .ok (.bipush 57, 2) := by decide +kernel
theorem dX7_sortAt_52 : decode cX7_sortAt 52 = .ok (.if_icmp .gt 7, 3) := by decide +kernel
theorem dX7_sortAt_55 : decode cX7_sortAt 55 = .ok (.iconst 3, 1) := by decide +kernel
theorem dX7_sortAt_56 : decode cX7_sortAt 56 = .ok (.goto 4, 3) := by decide +kernel
theorem dX7_sortAt_59 : decode cX7_sortAt 59 = .ok (.iconst 4, 1) := by decide +kernel
theorem dX7_sortAt_60 : decode cX7_sortAt 60 = .ok (.ireturn, 1) := by decide +kernel
theorem dX8_init_0 : decode cX8_init 0 = .ok (.aload_n 0, 1) := by decide +kernel
theorem dX8_init_1 : decode cX8_init 1 = .ok (.invokespecial 1, 3) := by decide +kernel
theorem dX8_init_4 : decode cX8_init 4 = .ok (.aload_n 0, 1) := by decide +kernel
theorem dX8_init_5 : decode cX8_init 5 = .ok (.new 7, 3) := by decide +kernel
theorem dX8_init_8 : decode cX8_init 8 = .ok (.dup, 1) := by decide +kernel
theorem dX8_init_9 : decode cX8_init 9 = .ok (.invokespecial 9, 3) := by decide +kernel
theorem dX8_init_12 : decode cX8_init 12 = .ok (.putfield 10, 3) := by decide +kernel
theorem dX8_init_15 : decode cX8_init 15 = .ok (.aload_n 0, 1) := by decide +kernel
theorem dX8_init_16 : decode cX8_init 16 = .ok (.new 16, 3) := by decide +kernel
theorem dX8_init_19 : decode cX8_init 19 = .ok (.dup, 1) := by decide +kernel
theorem dX8_init_20 : decode cX8_init 20 = .ok (.aload_n 0, 1) := by decide +kernel
theorem dX8_init_21 : decode cX8_init 21 = .ok (.getfield 10, 3) := by decide +kernel
theorem dX8_init_24 : decode cX8_init 24 = .ok (.invokespecial 18, 3) := by decide +kernel
theorem dX8_init_27 : decode cX8_init 27 = .ok (.putfield 21, 3) := by decide +kernel
theorem dX8_init_30 : decode cX8_init 30 = .ok (.aload_n 0, 1) := by decide +kernel
theorem dX8_init_31 : decode cX8_init 31 = .ok (.new 16, 3) := by decide +kernel
theorem dX8_init_34 : decode cX8_init 34 = .ok (.dup, 1) := by decide +kernel
theorem dX8_init_35 : decode cX8_init 35 = .ok (.aload_n 0, 1) := by decide +kernel
theorem dX8_init_36 : decode cX8_init 36 = .ok (.getfield 10, 3) := by decide +kernel
theorem dX8_init_39 : decode cX8_init 39 = .ok (.invokespecial 18, 3) := by decide +kernel
theorem dX8_init_42 : decode cX8_init 42 = .ok (.putfield 25, 3) := by decide +kernel
theorem dX8_init_45 : decode cX8_init 45 = .ok (.aload_n 0, 1) := by decide +kernel
theorem dX8_init_46 : decode cX8_init 46 = .ok (.new 16, 3) := by decide +kernel
theorem dX8_init_49 : decode cX8_init 49 = .ok (.dup, 1) := by decide +kernel
theorem dX8_init_50 : decode cX8_init 50 = .ok (.aload_n 0, 1) := by decide +kernel
theorem dX8_init_51 : decode cX8_init 51 = .ok (.getfield 10, 3) := by decide +kernel
theorem dX8_init_54 : decode cX8_init 54 = .ok (.invokespecial 18, 3) := by decide +kernel
theorem dX8_init_57 : decode cX8_init 57 = .ok (.putfield 28, 3) := by decide +kernel
theorem dX8_init_60 : decode cX8_init 60 = .ok (.aload_n 0, 1) := by decide +kernel
theorem dX8_init_61 : decode cX8_init 61 = .ok (.new 31, 3) := by decide +kernel
theorem dX8_init_64 : decode cX8_init 64 = .ok (.dup, 1) := by decide +kernel
theorem dX8_init_65 : decode cX8_init 65 = .ok (.invokespecial 33, 3) := by decide +kernel
theorem dX8_init_68 : decode cX8_init 68 = .ok (.putfield 34, 3) := by decide +kernel
theorem dX8_init_71 : decode cX8_init 71 = .ok (.aload_n 0, 1) := by decide +kernel
theorem dX8_init_72 : decode cX8_init 72 = .ok (.new 38, 3) := by decide +kernel
theorem dX8_init_75 : decode cX8_init 75 = .ok (.dup, 1) := by decide +kernel
theorem dX8_init_76 : decode cX8_init 76 = .ok (.aload_n 0, 1) := by decide +kernel
theorem dX8_init_77 : decode cX8_init 77 = .ok (.getfield 34, 3) := by decide +kernel
theorem dX8_init_80 : decode cX8_init 80 = .ok (.invokespecial 40, 3) := by decide +kernel
theorem dX8_init_83 : decode cX8_init 83 = .ok (.putfield 43, 3) := by decide +kernel
theorem dX8_init_86 : decode cX8_init 86 = .ok (.aload_n 0, 1) := by decide +kernel
theorem dX8_init_87 : decode cX8_init 87 = .ok (.iconst 4, 1) := by decide +kernel
theorem dX8_init_88 : decode cX8_init 88 = .ok (.anewarray 47, 3) := by decide +kernel
theorem dX8_init_91 : decode cX8_init 91 = .ok (.putfield 49, 3) := by decide +kernel
theorem dX8_init_94 : decode cX8_init 94 = .ok (.aload_n 0, 1) := by decide +kernel
theorem dX8_init_95 : decode cX8_init 95 = .ok (.iconst 5, 1) := by decide +kernel
theorem dX8_init_96 : decode cX8_init 96 = .ok (.anewarray 53, 3) := by decide +kernel
theorem dX8_init_99 : decode cX8_init 99 = .ok (.putfield 55, 3) := by decide +kernel
theorem dX8_init_102 : decode cX8_init 102 = .ok (.aload_n 0, 1) := by decide +kernel
theorem dX8_init_103 : decode cX8_init 103 = .ok (.bipush 60, 2) := by decide +kernel
theorem dX8_init_105 : decode cX8_init 105 = .ok (.newarray .int, 2) := by decide +kernel
theorem dX8_init_107 : decode cX8_init 107 = .ok (.putfield 59, 3) := by decide +kernel
theorem dX8_init_110 : decode cX8_init 110 = .ok (.iconst 0, 1) := by decide +kernel
theorem dX8_init_111 : decode cX8_init 111 = .ok (.istore_n 1, 1) := by decide +kernel
theorem dX8_init_112 : decode cX8_init 112 = .ok (.iload_n 1, 1) := by decide +kernel
theorem dX8_init_113 : decode cX8_init 113 = .ok (.iconst 4, 1) := by decide +kernel
theorem dX8_init_114 : decode cX8_init 114 = .ok (.if_icmp .ge 22, 3) := by decide +kernel
theorem dX8_init_117 : decode cX8_init 117 = .ok (.aload_n 0, 1) := by decide +kernel
theorem dX8_init_118 : decode cX8_init 118 = .ok (.getfield 49, 3) := by decide +kernel
theorem dX8_init_121 : decode cX8_init 121 = .ok (.iload_n 1, 1) := by decide +kernel
theorem dX8_init_122 : decode cX8_init 122 = .ok (.new 47, 3) := by decide +kernel
theorem dX8_init_125 : decode cX8_init 125 = .ok (.dup, 1) := by decide +kernel
theorem dX8_init_126 : decode cX8_init 126 = .ok (.invokespecial 63, 3) := by decide +kernel
theorem dX8_init_129 : decode cX8_init 129 = .ok (.aastore, 1) := by decide +kernel
theorem dX8_init_130 : decode cX8_init 130 = .ok (.iinc 1 1, 3) := by decide +kernel
theorem dX8_init_133 : decode cX8_init 133 = .ok (.goto (-21), 3) := by decide +kernel
theorem dX8_init_136 : decode cX8_init 136 = .ok (.iconst 0, 1) := by decide +kernel
theorem dX8_init_137 : decode cX8_init 137 = .ok (.istore_n 1, 1) := by decide +kernel
theorem dX8_init_138 : decode cX8_init 138 = .ok (.iload_n 1, 1) := by decide +kernel
theorem dX8_init_139 : decode cX8_init 139 = .ok (.iconst 5, 1) := by decide +kernel
theorem dX8_init_140 : decode cX8_init 140 = .ok (.if_icmp .ge 22, 3) := by decide +kernel
theorem dX8_init_143 : decode cX8_init 143 = .ok (.aload_n 0, 1) := by decide +kernel
theorem dX8_init_144 : decode cX8_init 144 = .ok (.getfield 55, 3) := by decide +kernel
theorem dX8_init_147 : decode cX8_init 147 = .ok (.iload_n 1, 1) := by decide +kernel
theorem dX8_init_148 : decode cX8_init 148 = .ok (.new 53, 3) := by decide +kernel
theorem dX8_init_151 : decode cX8_init 151 = .ok (.dup, 1) := by decide +kernel
theorem dX8_init_152 : decode cX8_init 152 = .ok (.invokespecial 64, 3) := by decide +kernel
theorem dX8_init_155 : decode cX8_init 155 = .ok (.aastore, 1) := by decide +kernel
theorem dX8_init_156 : decode cX8_init 156 = .ok (.iinc 1 1, 3) := by decide +kernel
theorem dX8_init_159 : decode cX8_init 159 = .ok (.goto (-21), 3) := by decide +kernel
theorem dX8_init_162 : decode cX8_init 162 = .ok (.return_, 1) := by decide +kernel
theorem dX8_land_0 : decode cX8_land 0 = .ok (.iload_n 1, 1) := by decide +kernel
theorem dX8_land_1 : decode cX8_land 1 = .ok (.invokestatic 65, 3) := by decide +kernel
theorem dX8_land_4 : decode cX8_land 4 = .ok (.ifCond .eq 20, 3) := by decide +kernel
theorem dX8_land_7 : decode cX8_land 7 = .ok (.iload_n 2, 1) := by decide +kernel
theorem dX8_land_8 : decode cX8_land 8 = .ok (.invokestatic 69, 3) := by decide +kernel
theorem dX8_land_11 : decode cX8_land 11 = .ok (.ifCond .eq 13, 3) := by decide +kernel
theorem dX8_land_14 : decode cX8_land 14 = .ok (.iload_n 3, 1) := by decide +kernel
theorem dX8_land_15 : decode cX8_land 15 = .ok (.iconst 0, 1) := by decide +kernel
theorem dX8_land_16 : decode cX8_land 16 = .ok (.bipush 20, 2) := by decide +kernel
theorem dX8_land_18 : decode cX8_land 18 = .ok (.invokestatic 72, 3) := by decide +kernel
theorem dX8_land_21 : decode cX8_land 21 = .ok (.ifCond .ne 6, 3) := by decide +kernel
theorem dX8_land_24 : decode cX8_land 24 = .ok (.ldc 76, 2) := by decide +kernel
theorem dX8_land_26 : decode cX8_land 26 = .ok (.ireturn, 1) := by decide +kernel
theorem dX8_land_27 : decode cX8_land 27 = .ok (.aload_n 0, 1) := by decide +kernel
theorem dX8_land_28 : decode cX8_land 28 = .ok (.getfield 21, 3) := by decide +kernel
theorem dX8_land_31 : decode cX8_land 31 = .ok (.getfield 77, 3) := by decide +kernel
theorem dX8_land_34 : decode cX8_land 34 = .ok (.iload_n 1, 1) := by decide +kernel
theorem dX8_land_35 : decode cX8_land 35 = .ok (.iload_n 3, 1) := by decide +kernel
theorem dX8_land_36 : decode cX8_land 36 = .ok (.iastore, 1) := by decide +kernel
theorem dX8_land_37 : decode cX8_land 37 = .ok (.aload_n 0, 1) := by decide +kernel
theorem dX8_land_38 : decode cX8_land 38 = .ok (.getfield 21, 3) := by decide +kernel
theorem dX8_land_41 : decode cX8_land 41 = .ok (.iload_n 1, 1) := by decide +kernel
theorem dX8_land_42 : decode cX8_land 42 = .ok (.iload_n 2, 1) := by decide +kernel
theorem dX8_land_43 : decode cX8_land 43 = .ok (.invokevirtual 80, 3) := by decide +kernel
theorem dX8_land_46 : decode cX8_land 46 = .ok (.ireturn, 1) := by decide +kernel
theorem dX8_told_0 : decode cX8_told 0 = .ok (.iload_n 1, 1) := by decide +kernel
theorem dX8_told_1 : decode cX8_told 1 = .ok (.invokestatic 65, 3) := by decide +kernel
theorem dX8_told_4 : decode cX8_told 4 = .ok (.ifCond .ne 6, 3) := by decide +kernel
theorem dX8_told_7 : decode cX8_told 7 = .ok (.ldc 76, 2) := by decide +kernel
theorem dX8_told_9 : decode cX8_told 9 = .ok (.ireturn, 1) := by decide +kernel
theorem dX8_told_10 : decode cX8_told 10 = .ok (.iload_n 2, 1) := by decide +kernel
theorem dX8_told_11 : decode cX8_told 11 = .ok (.tableswitch 146 0 7 #[45, 55, 65, 74, 83, 105, 115, 125], 45) := by decide +kernel
theorem dX8_told_56 : decode cX8_told 56 = .ok (.aload_n 0, 1) := by decide +kernel
theorem dX8_told_57 : decode cX8_told 57 = .ok (.getfield 21, 3) := by decide +kernel
theorem dX8_told_60 : decode cX8_told 60 = .ok (.getfield 84, 3) := by decide +kernel
theorem dX8_told_63 : decode cX8_told 63 = .ok (.iload_n 1, 1) := by decide +kernel
theorem dX8_told_64 : decode cX8_told 64 = .ok (.iaload, 1) := by decide +kernel
theorem dX8_told_65 : decode cX8_told 65 = .ok (.ireturn, 1) := by decide +kernel
theorem dX8_told_66 : decode cX8_told 66 = .ok (.aload_n 0, 1) := by decide +kernel
theorem dX8_told_67 : decode cX8_told 67 = .ok (.getfield 21, 3) := by decide +kernel
theorem dX8_told_70 : decode cX8_told 70 = .ok (.getfield 77, 3) := by decide +kernel
theorem dX8_told_73 : decode cX8_told 73 = .ok (.iload_n 1, 1) := by decide +kernel
theorem dX8_told_74 : decode cX8_told 74 = .ok (.iaload, 1) := by decide +kernel
theorem dX8_told_75 : decode cX8_told 75 = .ok (.ireturn, 1) := by decide +kernel
theorem dX8_told_76 : decode cX8_told 76 = .ok (.aload_n 0, 1) := by decide +kernel
theorem dX8_told_77 : decode cX8_told 77 = .ok (.getfield 21, 3) := by decide +kernel
theorem dX8_told_80 : decode cX8_told 80 = .ok (.iload_n 1, 1) := by decide +kernel
theorem dX8_told_81 : decode cX8_told 81 = .ok (.invokevirtual 87, 3) := by decide +kernel
theorem dX8_told_84 : decode cX8_told 84 = .ok (.ireturn, 1) := by decide +kernel
theorem dX8_told_85 : decode cX8_told 85 = .ok (.aload_n 0, 1) := by decide +kernel
theorem dX8_told_86 : decode cX8_told 86 = .ok (.getfield 21, 3) := by decide +kernel
theorem dX8_told_89 : decode cX8_told 89 = .ok (.iload_n 1, 1) := by decide +kernel
theorem dX8_told_90 : decode cX8_told 90 = .ok (.invokevirtual 91, 3) := by decide +kernel
theorem dX8_told_93 : decode cX8_told 93 = .ok (.ireturn, 1) := by decide +kernel
theorem dX8_told_94 : decode cX8_told 94 = .ok (.aload_n 0, 1) := by decide +kernel
theorem dX8_told_95 : decode cX8_told 95 = .ok (.getfield 21, 3) := by decide +kernel
theorem dX8_told_98 : decode cX8_told 98 = .ok (.getfield 84, 3) := by decide +kernel
theorem dX8_told_101 : decode cX8_told 101 = .ok (.iload_n 1, 1) := by decide +kernel
theorem dX8_told_102 : decode cX8_told 102 = .ok (.iaload, 1) := by decide +kernel
theorem dX8_told_103 : decode cX8_told 103 = .ok (.aload_n 0, 1) := by decide +kernel
theorem dX8_told_104 : decode cX8_told 104 = .ok (.getfield 21, 3) := by decide +kernel
theorem dX8_told_107 : decode cX8_told 107 = .ok (.getfield 77, 3) := by decide +kernel
theorem dX8_told_110 : decode cX8_told 110 = .ok (.iload_n 1, 1) := by decide +kernel
theorem dX8_told_111 : decode cX8_told 111 = .ok (.iaload, 1) := by decide +kernel
theorem dX8_told_112 : decode cX8_told 112 = .ok (.invokestatic 94, 3) := by decide +kernel
theorem dX8_told_115 : decode cX8_told 115 = .ok (.ireturn, 1) := by decide +kernel
theorem dX8_told_116 : decode cX8_told 116 = .ok (.aload_n 0, 1) := by decide +kernel
theorem dX8_told_117 : decode cX8_told 117 = .ok (.getfield 21, 3) := by decide +kernel
theorem dX8_told_120 : decode cX8_told 120 = .ok (.getfield 99, 3) := by decide +kernel
theorem dX8_told_123 : decode cX8_told 123 = .ok (.iload_n 1, 1) := by decide +kernel
theorem dX8_told_124 : decode cX8_told 124 = .ok (.iaload, 1) := by decide +kernel
theorem dX8_told_125 : decode cX8_told 125 = .ok (.ireturn, 1) := by decide +kernel
theorem dX8_told_126 : decode cX8_told 126 = .ok (.aload_n 0, 1) := by decide +kernel
theorem dX8_told_127 : decode cX8_told 127 = .ok (.getfield 21, 3) := by decide +kernel
theorem dX8_told_130 : decode cX8_told 130 = .ok (.getfield 102, 3) := by decide +kernel
theorem dX8_told_133 : decode cX8_told 133 = .ok (.iload_n 1, 1) := by decide +kernel
theorem dX8_told_134 : decode cX8_told 134 = .ok (.iaload, 1) := by decide +kernel
theorem dX8_told_135 : decode cX8_told 135 = .ok (.ireturn, 1) := by decide +kernel
theorem dX8_told_136 : decode cX8_told 136 = .ok (.aload_n 0, 1) := by decide +kernel
theorem dX8_told_137 : decode cX8_told 137 = .ok (.getfield 21, 3) := by decide +kernel
theorem dX8_told_140 : decode cX8_told 140 = .ok (.iconst 0, 1) := by decide +kernel
theorem dX8_told_141 : decode cX8_told 141 = .ok (.invokevirtual 105, 3) := by decide +kernel
theorem dX8_told_144 : decode cX8_told 144 = .ok (.iload_n 1, 1) := by decide +kernel
theorem dX8_told_145 : decode cX8_told 145 = .ok (.invokestatic 108, 3) := by decide +kernel
theorem dX8_told_148 : decode cX8_told 148 = .ok (.ifCond .eq 7, 3) := by decide +kernel
theorem dX8_told_151 : decode cX8_told 151 = .ok (.iconst 1, 1) := by decide +kernel
theorem dX8_told_152 : decode cX8_told 152 = .ok (.goto 4, 3) := by decide +kernel
theorem dX8_told_155 : decode cX8_told 155 = .ok (.iconst 0, 1) := by decide +kernel
theorem dX8_told_156 : decode cX8_told 156 = .ok (.ireturn, 1) := by decide +kernel
theorem dX8_told_157 : decode cX8_told 157 = .ok (.ldc 76, 2) := by decide +kernel
theorem dX8_told_159 : decode cX8_told 159 = .ok (.ireturn, 1) := by decide +kernel
theorem dX8_as_0 : decode cX8_as 0 = .ok (.iload_n 1, 1) := by decide +kernel
theorem dX8_as_1 : decode cX8_as 1 = .ok (.invokestatic 65, 3) := by decide +kernel
theorem dX8_as_4 : decode cX8_as 4 = .ok (.ifCond .eq 10, 3) := by decide +kernel
theorem dX8_as_7 : decode cX8_as 7 = .ok (.iload_n 2, 1) := by decide +kernel
theorem dX8_as_8 : decode cX8_as 8 = .ok (.invokestatic 69, 3) := by decide +kernel
theorem dX8_as_11 : decode cX8_as 11 = .ok (.ifCond .ne 6, 3) := by decide +kernel
theorem dX8_as_14 : decode cX8_as 14 = .ok (.ldc 76, 2) := by decide +kernel
theorem dX8_as_16 : decode cX8_as 16 = .ok (.ireturn, 1) := by decide +kernel
theorem dX8_as_17 : decode cX8_as 17 = .ok (.aload_n 0, 1) := by decide +kernel
theorem dX8_as_18 : decode cX8_as 18 = .ok (.getfield 21, 3) := by decide +kernel
theorem dX8_as_21 : decode cX8_as 21 = .ok (.getfield 84, 3) := by decide +kernel
theorem dX8_as_24 : decode cX8_as 24 = .ok (.iload_n 1, 1) := by decide +kernel
theorem dX8_as_25 : decode cX8_as 25 = .ok (.iaload, 1) := by decide +kernel
theorem dX8_as_26 : decode cX8_as 26 = .ok (.iload_n 2, 1) := by decide +kernel
theorem dX8_as_27 : decode cX8_as 27 = .ok (.invokestatic 114, 3) := by decide +kernel
theorem dX8_as_30 : decode cX8_as 30 = .ok (.ifCond .eq 15, 3) := by decide +kernel
theorem dX8_as_33 : decode cX8_as 33 = .ok (.aload_n 0, 1) := by decide +kernel
theorem dX8_as_34 : decode cX8_as 34 = .ok (.getfield 21, 3) := by decide +kernel
theorem dX8_as_37 : decode cX8_as 37 = .ok (.getfield 77, 3) := by decide +kernel
theorem dX8_as_40 : decode cX8_as 40 = .ok (.iload_n 1, 1) := by decide +kernel
theorem dX8_as_41 : decode cX8_as 41 = .ok (.iaload, 1) := by decide +kernel
theorem dX8_as_42 : decode cX8_as 42 = .ok (.goto 5, 3) := by decide +kernel
theorem dX8_as_45 : decode cX8_as 45 = .ok (.ldc 117, 2) := by decide +kernel
theorem dX8_as_47 : decode cX8_as 47 = .ok (.ireturn, 1) := by decide +kernel
theorem dX8_turns_0 : decode cX8_turns 0 = .ok (.iload_n 1, 1) := by decide +kernel
theorem dX8_turns_1 : decode cX8_turns 1 = .ok (.invokestatic 65, 3) := by decide +kernel
theorem dX8_turns_4 : decode cX8_turns 4 = .ok (.ifCond .eq 10, 3) := by decide +kernel
theorem dX8_turns_7 : decode cX8_turns 7 = .ok (.iload_n 2, 1) := by decide +kernel
theorem dX8_turns_8 : decode cX8_turns 8 = .ok (.invokestatic 69, 3) := by decide +kernel
theorem dX8_turns_11 : decode cX8_turns 11 = .ok (.ifCond .ne 6, 3) := by decide +kernel
theorem dX8_turns_14 : decode cX8_turns 14 = .ok (.ldc 76, 2) := by decide +kernel
theorem dX8_turns_16 : decode cX8_turns 16 = .ok (.ireturn, 1) := by decide +kernel
theorem dX8_turns_17 : decode cX8_turns 17 = .ok (.aload_n 0, 1) := by decide +kernel
theorem dX8_turns_18 : decode cX8_turns 18 = .ok (.getfield 21, 3) := by decide +kernel
theorem dX8_turns_21 : decode cX8_turns 21 = .ok (.iload_n 1, 1) := by decide +kernel
theorem dX8_turns_22 : decode cX8_turns 22 = .ok (.iload_n 2, 1) := by decide +kernel
theorem dX8_turns_23 : decode cX8_turns 23 = .ok (.invokevirtual 80, 3) := by decide +kernel
theorem dX8_turns_26 : decode cX8_turns 26 = .ok (.ireturn, 1) := by decide +kernel
theorem dX8_set_0 : decode cX8_set 0 = .ok (.iload_n 1, 1) := by decide +kernel
theorem dX8_set_1 : decode cX8_set 1 = .ok (.invokestatic 65, 3) := by decide +kernel
theorem dX8_set_4 : decode cX8_set 4 = .ok (.ifCond .ne 6, 3) := by decide +kernel
theorem dX8_set_7 : decode cX8_set 7 = .ok (.ldc 76, 2) := by decide +kernel
theorem dX8_set_9 : decode cX8_set 9 = .ok (.ireturn, 1) := by decide +kernel
theorem dX8_set_10 : decode cX8_set 10 = .ok (.iload_n 2, 1) := by decide +kernel
theorem dX8_set_11 : decode cX8_set 11 = .ok (.ifCond .ne 37, 3) := by decide +kernel
theorem dX8_set_14 : decode cX8_set 14 = .ok (.iload_n 3, 1) := by decide +kernel
theorem dX8_set_15 : decode cX8_set 15 = .ok (.iconst 0, 1) := by decide +kernel
theorem dX8_set_16 : decode cX8_set 16 = .ok (.bipush 99, 2) := by decide +kernel
theorem dX8_set_18 : decode cX8_set 18 = .ok (.invokestatic 72, 3) := by decide +kernel
theorem dX8_set_21 : decode cX8_set 21 = .ok (.ifCond .eq 27, 3) := by decide +kernel
theorem dX8_set_24 : decode cX8_set 24 = .ok (.aload_n 0, 1) := by decide +kernel
theorem dX8_set_25 : decode cX8_set 25 = .ok (.getfield 21, 3) := by decide +kernel
theorem dX8_set_28 : decode cX8_set 28 = .ok (.getfield 99, 3) := by decide +kernel
theorem dX8_set_31 : decode cX8_set 31 = .ok (.iload_n 1, 1) := by decide +kernel
theorem dX8_set_32 : decode cX8_set 32 = .ok (.iaload, 1) := by decide +kernel
theorem dX8_set_33 : decode cX8_set 33 = .ok (.istore 4, 2) := by decide +kernel
theorem dX8_set_35 : decode cX8_set 35 = .ok (.aload_n 0, 1) := by decide +kernel
theorem dX8_set_36 : decode cX8_set 36 = .ok (.getfield 21, 3) := by decide +kernel
theorem dX8_set_39 : decode cX8_set 39 = .ok (.getfield 99, 3) := by decide +kernel
theorem dX8_set_42 : decode cX8_set 42 = .ok (.iload_n 1, 1) := by decide +kernel
theorem dX8_set_43 : decode cX8_set 43 = .ok (.iload_n 3, 1) := by decide +kernel
theorem dX8_set_44 : decode cX8_set 44 = .ok (.iastore, 1) := by decide +kernel
theorem dX8_set_45 : decode cX8_set 45 = .ok (.iload 4, 2) := by decide +kernel
theorem dX8_set_47 : decode cX8_set 47 = .ok (.ireturn, 1) := by decide +kernel
theorem dX8_set_48 : decode cX8_set 48 = .ok (.iload_n 2, 1) := by decide +kernel
theorem dX8_set_49 : decode cX8_set 49 = .ok (.iconst 1, 1) := by decide +kernel
theorem dX8_set_50 : decode cX8_set 50 = .ok (.if_icmp .ne 40, 3) := by decide +kernel
theorem dX8_set_53 : decode cX8_set 53 = .ok (.iload_n 3, 1) := by decide +kernel
theorem dX8_set_54 : decode cX8_set 54 = .ok (.ldc 118, 2) := by decide +kernel
theorem dX8_set_56 : decode cX8_set 56 = .ok (.if_icmp .eq 10, 3) := by decide +kernel
theorem dX8_set_59 : decode cX8_set 59 = .ok (.iload_n 3, 1) := by decide +kernel
theorem dX8_set_60 : decode cX8_set 60 = .ok (.invokestatic 119, 3) := by decide +kernel
theorem dX8_set_63 : decode cX8_set 63 = .ok (.ifCond .eq 27, 3) := by decide +kernel
theorem dX8_set_66 : decode cX8_set 66 = .ok (.aload_n 0, 1) := by decide +kernel
theorem dX8_set_67 : decode cX8_set 67 = .ok (.getfield 21, 3) := by decide +kernel
theorem dX8_set_70 : decode cX8_set 70 = .ok (.getfield 102, 3) := by decide +kernel
theorem dX8_set_73 : decode cX8_set 73 = .ok (.iload_n 1, 1) := by decide +kernel
theorem dX8_set_74 : decode cX8_set 74 = .ok (.iaload, 1) := by decide +kernel
theorem dX8_set_75 : decode cX8_set 75 = .ok (.istore 4, 2) := by decide +kernel
theorem dX8_set_77 : decode cX8_set 77 = .ok (.aload_n 0, 1) := by decide +kernel
theorem dX8_set_78 : decode cX8_set 78 = .ok (.getfield 21, 3) := by decide +kernel
theorem dX8_set_81 : decode cX8_set 81 = .ok (.getfield 102, 3) := by decide +kernel
theorem dX8_set_84 : decode cX8_set 84 = .ok (.iload_n 1, 1) := by decide +kernel
theorem dX8_set_85 : decode cX8_set 85 = .ok (.iload_n 3, 1) := by decide +kernel
theorem dX8_set_86 : decode cX8_set 86 = .ok (.iastore, 1) := by decide +kernel
theorem dX8_set_87 : decode cX8_set 87 = .ok (.iload 4, 2) := by decide +kernel
theorem dX8_set_89 : decode cX8_set 89 = .ok (.ireturn, 1) := by decide +kernel
theorem dX8_set_90 : decode cX8_set 90 = .ok (.ldc 76, 2) := by decide +kernel
theorem dX8_set_92 : decode cX8_set 92 = .ok (.ireturn, 1) := by decide +kernel
theorem dX8_sea_0 : decode cX8_sea 0 = .ok (.iload_n 1, 1) := by decide +kernel
theorem dX8_sea_1 : decode cX8_sea 1 = .ok (.ifCond .lt 24, 3) := by decide +kernel
theorem dX8_sea_4 : decode cX8_sea 4 = .ok (.iload_n 1, 1) := by decide +kernel
theorem dX8_sea_5 : decode cX8_sea 5 = .ok (.getstatic 122, 3) := by decide +kernel
theorem dX8_sea_8 : decode cX8_sea 8 = .ok (.arraylength, 1) := by decide +kernel
theorem dX8_sea_9 : decode cX8_sea 9 = .ok (.if_icmp .ge 16, 3) := by decide +kernel
theorem dX8_sea_12 : decode cX8_sea 12 = .ok (.iload_n 2, 1) := by decide +kernel
theorem dX8_sea_13 : decode cX8_sea 13 = .ok (.iconst 0, 1) := by decide +kernel
theorem dX8_sea_14 : decode cX8_sea 14 = .ok (.getstatic 122, 3) := by decide +kernel
theorem dX8_sea_17 : decode cX8_sea 17 = .ok (.iload_n 1, 1) := by decide +kernel
theorem dX8_sea_18 : decode cX8_sea 18 = .ok (.iaload, 1) := by decide +kernel
theorem dX8_sea_19 : decode cX8_sea 19 = .ok (.invokestatic 72, 3) := by decide +kernel
theorem dX8_sea_22 : decode cX8_sea 22 = .ok (.ifCond .ne 6, 3) := by decide +kernel
theorem dX8_sea_25 : decode cX8_sea 25 = .ok (.ldc 76, 2) := by decide +kernel
theorem dX8_sea_27 : decode cX8_sea 27 = .ok (.ireturn, 1) := by decide +kernel
theorem dX8_sea_28 : decode cX8_sea 28 = .ok (.aload_n 0, 1) := by decide +kernel
theorem dX8_sea_29 : decode cX8_sea 29 = .ok (.getfield 21, 3) := by decide +kernel
theorem dX8_sea_32 : decode cX8_sea 32 = .ok (.getfield 125, 3) := by decide +kernel
theorem dX8_sea_35 : decode cX8_sea 35 = .ok (.iload_n 1, 1) := by decide +kernel
theorem dX8_sea_36 : decode cX8_sea 36 = .ok (.iaload, 1) := by decide +kernel
theorem dX8_sea_37 : decode cX8_sea 37 = .ok (.istore_n 3, 1) := by decide +kernel
theorem dX8_sea_38 : decode cX8_sea 38 = .ok (.aload_n 0, 1) := by decide +kernel
theorem dX8_sea_39 : decode cX8_sea 39 = .ok (.getfield 21, 3) := by decide +kernel
theorem dX8_sea_42 : decode cX8_sea 42 = .ok (.getfield 125, 3) := by decide +kernel
theorem dX8_sea_45 : decode cX8_sea 45 = .ok (.iload_n 1, 1) := by decide +kernel
theorem dX8_sea_46 : decode cX8_sea 46 = .ok (.iload_n 2, 1) := by decide +kernel
theorem dX8_sea_47 : decode cX8_sea 47 = .ok (.iastore, 1) := by decide +kernel
theorem dX8_sea_48 : decode cX8_sea 48 = .ok (.iload_n 3, 1) := by decide +kernel
theorem dX8_sea_49 : decode cX8_sea 49 = .ok (.ireturn, 1) := by decide +kernel
theorem dX8_deal_0 : decode cX8_deal 0 = .ok (.aload_n 0, 1) := by decide +kernel
theorem dX8_deal_1 : decode cX8_deal 1 = .ok (.getfield 21, 3) := by decide +kernel
theorem dX8_deal_4 : decode cX8_deal 4 = .ok (.invokevirtual 128, 3) := by decide +kernel
theorem dX8_deal_7 : decode cX8_deal 7 = .ok (.aload_n 0, 1) := by decide +kernel
theorem dX8_deal_8 : decode cX8_deal 8 = .ok (.getfield 21, 3) := by decide +kernel
theorem dX8_deal_11 : decode cX8_deal 11 = .ok (.iconst 0, 1) := by decide +kernel
theorem dX8_deal_12 : decode cX8_deal 12 = .ok (.invokevirtual 131, 3) := by decide +kernel
theorem dX8_deal_15 : decode cX8_deal 15 = .ok (.ireturn, 1) := by decide +kernel
theorem dX8_seed_0 : decode cX8_seed 0 = .ok (.aload_n 0, 1) := by decide +kernel
theorem dX8_seed_1 : decode cX8_seed 1 = .ok (.getfield 21, 3) := by decide +kernel
theorem dX8_seed_4 : decode cX8_seed 4 = .ok (.getfield 134, 3) := by decide +kernel
theorem dX8_seed_7 : decode cX8_seed 7 = .ok (.istore_n 2, 1) := by decide +kernel
theorem dX8_seed_8 : decode cX8_seed 8 = .ok (.aload_n 0, 1) := by decide +kernel
theorem dX8_seed_9 : decode cX8_seed 9 = .ok (.getfield 21, 3) := by decide +kernel
theorem dX8_seed_12 : decode cX8_seed 12 = .ok (.iload_n 1, 1) := by decide +kernel
theorem dX8_seed_13 : decode cX8_seed 13 = .ok (.putfield 134, 3) := by decide +kernel
theorem dX8_seed_16 : decode cX8_seed 16 = .ok (.iload_n 2, 1) := by decide +kernel
theorem dX8_seed_17 : decode cX8_seed 17 = .ok (.ireturn, 1) := by decide +kernel
theorem dX8_sky_0 : decode cX8_sky 0 = .ok (.iload_n 1, 1) := by decide +kernel
theorem dX8_sky_1 : decode cX8_sky 1 = .ok (.invokestatic 138, 3) := by decide +kernel
theorem dX8_sky_4 : decode cX8_sky 4 = .ok (.ifCond .ne 6, 3) := by decide +kernel
theorem dX8_sky_7 : decode cX8_sky 7 = .ok (.ldc 76, 2) := by decide +kernel
theorem dX8_sky_9 : decode cX8_sky 9 = .ok (.ireturn, 1) := by decide +kernel
theorem dX8_sky_10 : decode cX8_sky 10 = .ok (.iload_n 2, 1) := by decide +kernel
theorem dX8_sky_11 : decode cX8_sky 11 = .ok (.tableswitch 55 0 2 #[25, 34, 43], 25) := by decide +kernel
theorem dX8_sky_36 : decode cX8_sky 36 = .ok (.aload_n 0, 1) := by decide +kernel
theorem dX8_sky_37 : decode cX8_sky 37 = .ok (.getfield 21, 3) := by decide +kernel
theorem dX8_sky_40 : decode cX8_sky 40 = .ok (.iload_n 1, 1) := by decide +kernel
theorem dX8_sky_41 : decode cX8_sky 41 = .ok (.invokevirtual 141, 3) := by decide +kernel
theorem dX8_sky_44 : decode cX8_sky 44 = .ok (.ireturn, 1) := by decide +kernel
theorem dX8_sky_45 : decode cX8_sky 45 = .ok (.aload_n 0, 1) := by decide +kernel
theorem dX8_sky_46 : decode cX8_sky 46 = .ok (.getfield 21, 3) := by decide +kernel
theorem dX8_sky_49 : decode cX8_sky 49 = .ok (.iload_n 1, 1) := by decide +kernel
theorem dX8_sky_50 : decode cX8_sky 50 = .ok (.invokevirtual 131, 3) := by decide +kernel
theorem dX8_sky_53 : decode cX8_sky 53 = .ok (.ireturn, 1) := by decide +kernel
theorem dX8_sky_54 : decode cX8_sky 54 = .ok (.aload_n 0, 1) := by decide +kernel
theorem dX8_sky_55 : decode cX8_sky 55 = .ok (.getfield 21, 3) := by decide +kernel
theorem dX8_sky_58 : decode cX8_sky 58 = .ok (.iload_n 1, 1) := by decide +kernel
theorem dX8_sky_59 : decode cX8_sky 59 = .ok (.invokevirtual 105, 3) := by decide +kernel
theorem dX8_sky_62 : decode cX8_sky 62 = .ok (.invokestatic 144, 3) := by decide +kernel
theorem dX8_sky_65 : decode cX8_sky 65 = .ok (.ireturn, 1) := by decide +kernel
theorem dX8_sky_66 : decode cX8_sky 66 = .ok (.ldc 76, 2) := by decide +kernel
theorem dX8_sky_68 : decode cX8_sky 68 = .ok (.ireturn, 1) := by decide +kernel
theorem dX8_worst_0 : decode cX8_worst 0 = .ok (.iload_n 1, 1) := by decide +kernel
theorem dX8_worst_1 : decode cX8_worst 1 = .ok (.iconst 1, 1) := by decide +kernel
theorem dX8_worst_2 : decode cX8_worst 2 = .ok (.bipush 99, 2) := by decide +kernel
theorem dX8_worst_4 : decode cX8_worst 4 = .ok (.invokestatic 72, 3) := by decide +kernel
theorem dX8_worst_7 : decode cX8_worst 7 = .ok (.ifCond .eq 12, 3) := by decide +kernel
theorem dX8_worst_10 : decode cX8_worst 10 = .ok (.iload_n 2, 1) := by decide +kernel
theorem dX8_worst_11 : decode cX8_worst 11 = .ok (.iconst 0, 1) := by decide +kernel
theorem dX8_worst_12 : decode cX8_worst 12 = .ok (.iconst 1, 1) := by decide +kernel
theorem dX8_worst_13 : decode cX8_worst 13 = .ok (.invokestatic 72, 3) := by decide +kernel
theorem dX8_worst_16 : decode cX8_worst 16 = .ok (.ifCond .ne 6, 3) := by decide +kernel
theorem dX8_worst_19 : decode cX8_worst 19 = .ok (.ldc 76, 2) := by decide +kernel
theorem dX8_worst_21 : decode cX8_worst 21 = .ok (.ireturn, 1) := by decide +kernel
theorem dX8_worst_22 : decode cX8_worst 22 = .ok (.aload_n 0, 1) := by decide +kernel
theorem dX8_worst_23 : decode cX8_worst 23 = .ok (.getfield 21, 3) := by decide +kernel
theorem dX8_worst_26 : decode cX8_worst 26 = .ok (.iload_n 1, 1) := by decide +kernel
theorem dX8_worst_27 : decode cX8_worst 27 = .ok (.invokevirtual 147, 3) := by decide +kernel
theorem dX8_worst_30 : decode cX8_worst 30 = .ok (.istore_n 3, 1) := by decide +kernel
theorem dX8_worst_31 : decode cX8_worst 31 = .ok (.iload_n 2, 1) := by decide +kernel
theorem dX8_worst_32 : decode cX8_worst 32 = .ok (.ifCond .ne 7, 3) := by decide +kernel
theorem dX8_worst_35 : decode cX8_worst 35 = .ok (.iload_n 3, 1) := by decide +kernel
theorem dX8_worst_36 : decode cX8_worst 36 = .ok (.goto 11, 3) := by decide +kernel
theorem dX8_worst_39 : decode cX8_worst 39 = .ok (.aload_n 0, 1) := by decide +kernel
theorem dX8_worst_40 : decode cX8_worst 40 = .ok (.getfield 21, 3) := by decide +kernel
theorem dX8_worst_43 : decode cX8_worst 43 = .ok (.iload_n 3, 1) := by decide +kernel
theorem dX8_worst_44 : decode cX8_worst 44 = .ok (.invokevirtual 131, 3) := by decide +kernel
theorem dX8_worst_47 : decode cX8_worst 47 = .ok (.ireturn, 1) := by decide +kernel
theorem dX8_dryFor_0 : decode cX8_dryFor 0 = .ok (.iload_n 1, 1) := by decide +kernel
theorem dX8_dryFor_1 : decode cX8_dryFor 1 = .ok (.invokestatic 65, 3) := by decide +kernel
theorem dX8_dryFor_4 : decode cX8_dryFor 4 = .ok (.ifCond .eq 14, 3) := by decide +kernel
theorem dX8_dryFor_7 : decode cX8_dryFor 7 = .ok (.aload_n 0, 1) := by decide +kernel
theorem dX8_dryFor_8 : decode cX8_dryFor 8 = .ok (.getfield 21, 3) := by decide +kernel
theorem dX8_dryFor_11 : decode cX8_dryFor 11 = .ok (.iload_n 1, 1) := by decide +kernel
theorem dX8_dryFor_12 : decode cX8_dryFor 12 = .ok (.invokevirtual 150, 3) := by decide +kernel
theorem dX8_dryFor_15 : decode cX8_dryFor 15 = .ok (.goto 5, 3) := by decide +kernel
theorem dX8_dryFor_18 : decode cX8_dryFor 18 = .ok (.ldc 76, 2) := by decide +kernel
theorem dX8_dryFor_20 : decode cX8_dryFor 20 = .ok (.ireturn, 1) := by decide +kernel
theorem dX8_window_0 : decode cX8_window 0 = .ok (.iload_n 1, 1) := by decide +kernel
theorem dX8_window_1 : decode cX8_window 1 = .ok (.invokestatic 65, 3) := by decide +kernel
theorem dX8_window_4 : decode cX8_window 4 = .ok (.ifCond .eq 13, 3) := by decide +kernel
theorem dX8_window_7 : decode cX8_window 7 = .ok (.iload_n 2, 1) := by decide +kernel
theorem dX8_window_8 : decode cX8_window 8 = .ok (.iconst 1, 1) := by decide +kernel
theorem dX8_window_9 : decode cX8_window 9 = .ok (.bipush 24, 2) := by decide +kernel
theorem dX8_window_11 : decode cX8_window 11 = .ok (.invokestatic 72, 3) := by decide +kernel
theorem dX8_window_14 : decode cX8_window 14 = .ok (.ifCond .ne 6, 3) := by decide +kernel
theorem dX8_window_17 : decode cX8_window 17 = .ok (.ldc 76, 2) := by decide +kernel
theorem dX8_window_19 : decode cX8_window 19 = .ok (.ireturn, 1) := by decide +kernel
theorem dX8_window_20 : decode cX8_window 20 = .ok (.aload_n 0, 1) := by decide +kernel
theorem dX8_window_21 : decode cX8_window 21 = .ok (.getfield 21, 3) := by decide +kernel
theorem dX8_window_24 : decode cX8_window 24 = .ok (.iload_n 1, 1) := by decide +kernel
theorem dX8_window_25 : decode cX8_window 25 = .ok (.iload_n 2, 1) := by decide +kernel
theorem dX8_window_26 : decode cX8_window 26 = .ok (.invokevirtual 153, 3) := by decide +kernel
theorem dX8_window_29 : decode cX8_window 29 = .ok (.ireturn, 1) := by decide +kernel
theorem dX8_owns_0 : decode cX8_owns 0 = .ok (.iload_n 1, 1) := by decide +kernel
theorem dX8_owns_1 : decode cX8_owns 1 = .ok (.invokestatic 119, 3) := by decide +kernel
theorem dX8_owns_4 : decode cX8_owns 4 = .ok (.ifCond .eq 10, 3) := by decide +kernel
theorem dX8_owns_7 : decode cX8_owns 7 = .ok (.iload_n 2, 1) := by decide +kernel
theorem dX8_owns_8 : decode cX8_owns 8 = .ok (.invokestatic 138, 3) := by decide +kernel
theorem dX8_owns_11 : decode cX8_owns 11 = .ok (.ifCond .ne 6, 3) := by decide +kernel
theorem dX8_owns_14 : decode cX8_owns 14 = .ok (.ldc 76, 2) := by decide +kernel
theorem dX8_owns_16 : decode cX8_owns 16 = .ok (.ireturn, 1) := by decide +kernel
theorem dX8_owns_17 : decode cX8_owns 17 = .ok (.aload_n 0, 1) := by decide +kernel
theorem dX8_owns_18 : decode cX8_owns 18 = .ok (.getfield 21, 3) := by decide +kernel
theorem dX8_owns_21 : decode cX8_owns 21 = .ok (.iload_n 1, 1) := by decide +kernel
theorem dX8_owns_22 : decode cX8_owns 22 = .ok (.iload_n 2, 1) := by decide +kernel
theorem dX8_owns_23 : decode cX8_owns 23 = .ok (.invokevirtual 156, 3) := by decide +kernel
theorem dX8_owns_26 : decode cX8_owns 26 = .ok (.ireturn, 1) := by decide +kernel
theorem dX8_richest_0 : decode cX8_richest 0 = .ok (.iload_n 1, 1) := by decide +kernel
theorem dX8_richest_1 : decode cX8_richest 1 = .ok (.iconst 0, 1) := by decide +kernel
theorem dX8_richest_2 : decode cX8_richest 2 = .ok (.iconst 1, 1) := by decide +kernel
theorem dX8_richest_3 : decode cX8_richest 3 = .ok (.invokestatic 72, 3) := by decide +kernel
theorem dX8_richest_6 : decode cX8_richest 6 = .ok (.ifCond .ne 6, 3) := by decide +kernel
theorem dX8_richest_9 : decode cX8_richest 9 = .ok (.ldc 76, 2) := by decide +kernel
theorem dX8_richest_11 : decode cX8_richest 11 = .ok (.ireturn, 1) := by decide +kernel
theorem dX8_richest_12 : decode cX8_richest 12 = .ok (.aload_n 0, 1) := by decide +kernel
theorem dX8_richest_13 : decode cX8_richest 13 = .ok (.getfield 21, 3) := by decide +kernel
theorem dX8_richest_16 : decode cX8_richest 16 = .ok (.invokevirtual 159, 3) := by decide +kernel
theorem dX8_richest_19 : decode cX8_richest 19 = .ok (.istore_n 2, 1) := by decide +kernel
theorem dX8_richest_20 : decode cX8_richest 20 = .ok (.iload_n 1, 1) := by decide +kernel
theorem dX8_richest_21 : decode cX8_richest 21 = .ok (.ifCond .ne 7, 3) := by decide +kernel
theorem dX8_richest_24 : decode cX8_richest 24 = .ok (.iload_n 2, 1) := by decide +kernel
theorem dX8_richest_25 : decode cX8_richest 25 = .ok (.goto 11, 3) := by decide +kernel
theorem dX8_richest_28 : decode cX8_richest 28 = .ok (.aload_n 0, 1) := by decide +kernel
theorem dX8_richest_29 : decode cX8_richest 29 = .ok (.getfield 21, 3) := by decide +kernel
theorem dX8_richest_32 : decode cX8_richest 32 = .ok (.iload_n 2, 1) := by decide +kernel
theorem dX8_richest_33 : decode cX8_richest 33 = .ok (.invokevirtual 163, 3) := by decide +kernel
theorem dX8_richest_36 : decode cX8_richest 36 = .ok (.ireturn, 1) := by decide +kernel
theorem dX8_house_0 : decode cX8_house 0 = .ok (.iload_n 1, 1) := by decide +kernel
theorem dX8_house_1 : decode cX8_house 1 = .ok (.iconst 1, 1) := by decide +kernel
theorem dX8_house_2 : decode cX8_house 2 = .ok (.bipush 99, 2) := by decide +kernel
theorem dX8_house_4 : decode cX8_house 4 = .ok (.invokestatic 72, 3) := by decide +kernel
theorem dX8_house_7 : decode cX8_house 7 = .ok (.ifCond .ne 6, 3) := by decide +kernel
theorem dX8_house_10 : decode cX8_house 10 = .ok (.ldc 76, 2) := by decide +kernel
theorem dX8_house_12 : decode cX8_house 12 = .ok (.ireturn, 1) := by decide +kernel
theorem dX8_house_13 : decode cX8_house 13 = .ok (.aload_n 0, 1) := by decide +kernel
theorem dX8_house_14 : decode cX8_house 14 = .ok (.getfield 21, 3) := by decide +kernel
theorem dX8_house_17 : decode cX8_house 17 = .ok (.getfield 166, 3) := by decide +kernel
theorem dX8_house_20 : decode cX8_house 20 = .ok (.bipush 8, 2) := by decide +kernel
theorem dX8_house_22 : decode cX8_house 22 = .ok (.if_icmp .ge 14, 3) := by decide +kernel
theorem dX8_house_25 : decode cX8_house 25 = .ok (.aload_n 0, 1) := by decide +kernel
theorem dX8_house_26 : decode cX8_house 26 = .ok (.getfield 21, 3) := by decide +kernel
theorem dX8_house_29 : decode cX8_house 29 = .ok (.iload_n 1, 1) := by decide +kernel
theorem dX8_house_30 : decode cX8_house 30 = .ok (.invokevirtual 169, 3) := by decide +kernel
theorem dX8_house_33 : decode cX8_house 33 = .ok (.goto 5, 3) := by decide +kernel
theorem dX8_house_36 : decode cX8_house 36 = .ok (.ldc 172, 2) := by decide +kernel
theorem dX8_house_38 : decode cX8_house 38 = .ok (.ireturn, 1) := by decide +kernel
theorem dX8_houseTold_0 : decode cX8_houseTold 0 = .ok (.aload_n 0, 1) := by decide +kernel
theorem dX8_houseTold_1 : decode cX8_houseTold 1 = .ok (.iload_n 1, 1) := by decide +kernel
theorem dX8_houseTold_2 : decode cX8_houseTold 2 = .ok (.invokevirtual 173, 3) := by decide +kernel
theorem dX8_houseTold_5 : decode cX8_houseTold 5 = .ok (.ifCond .ne 6, 3) := by decide +kernel
theorem dX8_houseTold_8 : decode cX8_houseTold 8 = .ok (.ldc 76, 2) := by decide +kernel
theorem dX8_houseTold_10 : decode cX8_houseTold 10 = .ok (.ireturn, 1) := by decide +kernel
theorem dX8_houseTold_11 : decode cX8_houseTold 11 = .ok (.iload_n 2, 1) := by decide +kernel
theorem dX8_houseTold_12 : decode cX8_houseTold 12 = .ok (.lookupswitch 48 #[(0, 28), (1, 38)], 28) := by decide +kernel
theorem dX8_houseTold_40 : decode cX8_houseTold 40 = .ok (.aload_n 0, 1) := by decide +kernel
theorem dX8_houseTold_41 : decode cX8_houseTold 41 = .ok (.getfield 21, 3) := by decide +kernel
theorem dX8_houseTold_44 : decode cX8_houseTold 44 = .ok (.getfield 176, 3) := by decide +kernel
theorem dX8_houseTold_47 : decode cX8_houseTold 47 = .ok (.iload_n 1, 1) := by decide +kernel
theorem dX8_houseTold_48 : decode cX8_houseTold 48 = .ok (.iaload, 1) := by decide +kernel
theorem dX8_houseTold_49 : decode cX8_houseTold 49 = .ok (.ireturn, 1) := by decide +kernel
theorem dX8_houseTold_50 : decode cX8_houseTold 50 = .ok (.aload_n 0, 1) := by decide +kernel
theorem dX8_houseTold_51 : decode cX8_houseTold 51 = .ok (.getfield 21, 3) := by decide +kernel
theorem dX8_houseTold_54 : decode cX8_houseTold 54 = .ok (.getfield 179, 3) := by decide +kernel
theorem dX8_houseTold_57 : decode cX8_houseTold 57 = .ok (.iload_n 1, 1) := by decide +kernel
theorem dX8_houseTold_58 : decode cX8_houseTold 58 = .ok (.iaload, 1) := by decide +kernel
theorem dX8_houseTold_59 : decode cX8_houseTold 59 = .ok (.ireturn, 1) := by decide +kernel
theorem dX8_houseTold_60 : decode cX8_houseTold 60 = .ok (.ldc 76, 2) := by decide +kernel
theorem dX8_houseTold_62 : decode cX8_houseTold 62 = .ok (.ireturn, 1) := by decide +kernel
theorem dX8_settle_0 : decode cX8_settle 0 = .ok (.aload_n 0, 1) := by decide +kernel
theorem dX8_settle_1 : decode cX8_settle 1 = .ok (.iload_n 1, 1) := by decide +kernel
theorem dX8_settle_2 : decode cX8_settle 2 = .ok (.invokevirtual 173, 3) := by decide +kernel
theorem dX8_settle_5 : decode cX8_settle 5 = .ok (.ifCond .eq 16, 3) := by decide +kernel
theorem dX8_settle_8 : decode cX8_settle 8 = .ok (.iload_n 2, 1) := by decide +kernel
theorem dX8_settle_9 : decode cX8_settle 9 = .ok (.ldc 118, 2) := by decide +kernel
theorem dX8_settle_11 : decode cX8_settle 11 = .ok (.if_icmp .eq 13, 3) := by decide +kernel
theorem dX8_settle_14 : decode cX8_settle 14 = .ok (.iload_n 2, 1) := by decide +kernel
theorem dX8_settle_15 : decode cX8_settle 15 = .ok (.invokestatic 65, 3) := by decide +kernel
theorem dX8_settle_18 : decode cX8_settle 18 = .ok (.ifCond .ne 6, 3) := by decide +kernel
theorem dX8_settle_21 : decode cX8_settle 21 = .ok (.ldc 76, 2) := by decide +kernel
theorem dX8_settle_23 : decode cX8_settle 23 = .ok (.ireturn, 1) := by decide +kernel
theorem dX8_settle_24 : decode cX8_settle 24 = .ok (.aload_n 0, 1) := by decide +kernel
theorem dX8_settle_25 : decode cX8_settle 25 = .ok (.getfield 21, 3) := by decide +kernel
theorem dX8_settle_28 : decode cX8_settle 28 = .ok (.getfield 179, 3) := by decide +kernel
theorem dX8_settle_31 : decode cX8_settle 31 = .ok (.iload_n 1, 1) := by decide +kernel
theorem dX8_settle_32 : decode cX8_settle 32 = .ok (.iaload, 1) := by decide +kernel
theorem dX8_settle_33 : decode cX8_settle 33 = .ok (.istore_n 3, 1) := by decide +kernel
theorem dX8_settle_34 : decode cX8_settle 34 = .ok (.aload_n 0, 1) := by decide +kernel
theorem dX8_settle_35 : decode cX8_settle 35 = .ok (.getfield 21, 3) := by decide +kernel
theorem dX8_settle_38 : decode cX8_settle 38 = .ok (.getfield 179, 3) := by decide +kernel
theorem dX8_settle_41 : decode cX8_settle 41 = .ok (.iload_n 1, 1) := by decide +kernel
theorem dX8_settle_42 : decode cX8_settle 42 = .ok (.iload_n 2, 1) := by decide +kernel
theorem dX8_settle_43 : decode cX8_settle 43 = .ok (.iastore, 1) := by decide +kernel
theorem dX8_settle_44 : decode cX8_settle 44 = .ok (.iload_n 3, 1) := by decide +kernel
theorem dX8_settle_45 : decode cX8_settle 45 = .ok (.ireturn, 1) := by decide +kernel
theorem dX8_cut_0 : decode cX8_cut 0 = .ok (.iload_n 1, 1) := by decide +kernel
theorem dX8_cut_1 : decode cX8_cut 1 = .ok (.invokestatic 138, 3) := by decide +kernel
theorem dX8_cut_4 : decode cX8_cut 4 = .ok (.ifCond .eq 14, 3) := by decide +kernel
theorem dX8_cut_7 : decode cX8_cut 7 = .ok (.aload_n 0, 1) := by decide +kernel
theorem dX8_cut_8 : decode cX8_cut 8 = .ok (.getfield 21, 3) := by decide +kernel
theorem dX8_cut_11 : decode cX8_cut 11 = .ok (.iload_n 1, 1) := by decide +kernel
theorem dX8_cut_12 : decode cX8_cut 12 = .ok (.invokevirtual 182, 3) := by decide +kernel
theorem dX8_cut_15 : decode cX8_cut 15 = .ok (.goto 5, 3) := by decide +kernel
theorem dX8_cut_18 : decode cX8_cut 18 = .ok (.ldc 76, 2) := by decide +kernel
theorem dX8_cut_20 : decode cX8_cut 20 = .ok (.ireturn, 1) := by decide +kernel
theorem dX8_lack_0 : decode cX8_lack 0 = .ok (.iload_n 1, 1) := by decide +kernel
theorem dX8_lack_1 : decode cX8_lack 1 = .ok (.invokestatic 138, 3) := by decide +kernel
theorem dX8_lack_4 : decode cX8_lack 4 = .ok (.ifCond .eq 14, 3) := by decide +kernel
theorem dX8_lack_7 : decode cX8_lack 7 = .ok (.aload_n 0, 1) := by decide +kernel
theorem dX8_lack_8 : decode cX8_lack 8 = .ok (.getfield 21, 3) := by decide +kernel
theorem dX8_lack_11 : decode cX8_lack 11 = .ok (.iload_n 1, 1) := by decide +kernel
theorem dX8_lack_12 : decode cX8_lack 12 = .ok (.invokevirtual 185, 3) := by decide +kernel
theorem dX8_lack_15 : decode cX8_lack 15 = .ok (.goto 5, 3) := by decide +kernel
theorem dX8_lack_18 : decode cX8_lack 18 = .ok (.ldc 76, 2) := by decide +kernel
theorem dX8_lack_20 : decode cX8_lack 20 = .ok (.ireturn, 1) := by decide +kernel
theorem dX8_going_0 : decode cX8_going 0 = .ok (.aload_n 0, 1) := by decide +kernel
theorem dX8_going_1 : decode cX8_going 1 = .ok (.iload_n 1, 1) := by decide +kernel
theorem dX8_going_2 : decode cX8_going 2 = .ok (.invokevirtual 173, 3) := by decide +kernel
theorem dX8_going_5 : decode cX8_going 5 = .ok (.ifCond .eq 10, 3) := by decide +kernel
theorem dX8_going_8 : decode cX8_going 8 = .ok (.iload_n 2, 1) := by decide +kernel
theorem dX8_going_9 : decode cX8_going 9 = .ok (.invokestatic 65, 3) := by decide +kernel
theorem dX8_going_12 : decode cX8_going 12 = .ok (.ifCond .ne 6, 3) := by decide +kernel
theorem dX8_going_15 : decode cX8_going 15 = .ok (.ldc 76, 2) := by decide +kernel
theorem dX8_going_17 : decode cX8_going 17 = .ok (.ireturn, 1) := by decide +kernel
theorem dX8_going_18 : decode cX8_going 18 = .ok (.aload_n 0, 1) := by decide +kernel
theorem dX8_going_19 : decode cX8_going 19 = .ok (.getfield 21, 3) := by decide +kernel
theorem dX8_going_22 : decode cX8_going 22 = .ok (.getfield 179, 3) := by decide +kernel
theorem dX8_going_25 : decode cX8_going 25 = .ok (.iload_n 1, 1) := by decide +kernel
theorem dX8_going_26 : decode cX8_going 26 = .ok (.iaload, 1) := by decide +kernel
theorem dX8_going_27 : decode cX8_going 27 = .ok (.istore_n 3, 1) := by decide +kernel
theorem dX8_going_28 : decode cX8_going 28 = .ok (.iload_n 3, 1) := by decide +kernel
theorem dX8_going_29 : decode cX8_going 29 = .ok (.invokestatic 65, 3) := by decide +kernel
theorem dX8_going_32 : decode cX8_going 32 = .ok (.ifCond .eq 15, 3) := by decide +kernel
theorem dX8_going_35 : decode cX8_going 35 = .ok (.aload_n 0, 1) := by decide +kernel
theorem dX8_going_36 : decode cX8_going 36 = .ok (.getfield 21, 3) := by decide +kernel
theorem dX8_going_39 : decode cX8_going 39 = .ok (.iload_n 3, 1) := by decide +kernel
theorem dX8_going_40 : decode cX8_going 40 = .ok (.iload_n 2, 1) := by decide +kernel
theorem dX8_going_41 : decode cX8_going 41 = .ok (.invokevirtual 188, 3) := by decide +kernel
theorem dX8_going_44 : decode cX8_going 44 = .ok (.goto 5, 3) := by decide +kernel
theorem dX8_going_47 : decode cX8_going 47 = .ok (.ldc 191, 2) := by decide +kernel
theorem dX8_going_49 : decode cX8_going 49 = .ok (.ireturn, 1) := by decide +kernel
theorem dX8_run_0 : decode cX8_run 0 = .ok (.iload_n 1, 1) := by decide +kernel
theorem dX8_run_1 : decode cX8_run 1 = .ok (.iconst 1, 1) := by decide +kernel
theorem dX8_run_2 : decode cX8_run 2 = .ok (.bipush 99, 2) := by decide +kernel
theorem dX8_run_4 : decode cX8_run 4 = .ok (.invokestatic 72, 3) := by decide +kernel
theorem dX8_run_7 : decode cX8_run 7 = .ok (.ifCond .ne 6, 3) := by decide +kernel
theorem dX8_run_10 : decode cX8_run 10 = .ok (.ldc 76, 2) := by decide +kernel
theorem dX8_run_12 : decode cX8_run 12 = .ok (.ireturn, 1) := by decide +kernel
theorem dX8_run_13 : decode cX8_run 13 = .ok (.iconst 0, 1) := by decide +kernel
theorem dX8_run_14 : decode cX8_run 14 = .ok (.istore_n 2, 1) := by decide +kernel
theorem dX8_run_15 : decode cX8_run 15 = .ok (.iload_n 2, 1) := by decide +kernel
theorem dX8_run_16 : decode cX8_run 16 = .ok (.iload_n 1, 1) := by decide +kernel
theorem dX8_run_17 : decode cX8_run 17 = .ok (.if_icmp .ge 29, 3) := by decide +kernel
theorem dX8_run_20 : decode cX8_run 20 = .ok (.aload_n 0, 1) := by decide +kernel
theorem dX8_run_21 : decode cX8_run 21 = .ok (.getfield 21, 3) := by decide +kernel
theorem dX8_run_24 : decode cX8_run 24 = .ok (.getfield 192, 3) := by decide +kernel
theorem dX8_run_27 : decode cX8_run 27 = .ok (.sipush 9999, 3) := by decide +kernel
theorem dX8_run_30 : decode cX8_run 30 = .ok (.if_icmp .ge 16, 3) := by decide +kernel
theorem dX8_run_33 : decode cX8_run 33 = .ok (.aload_n 0, 1) := by decide +kernel
theorem dX8_run_34 : decode cX8_run 34 = .ok (.getfield 21, 3) := by decide +kernel
theorem dX8_run_37 : decode cX8_run 37 = .ok (.invokevirtual 195, 3) := by decide +kernel
theorem dX8_run_40 : decode cX8_run 40 = .ok (.iinc 2 1, 3) := by decide +kernel
theorem dX8_run_43 : decode cX8_run 43 = .ok (.goto (-28), 3) := by decide +kernel
theorem dX8_run_46 : decode cX8_run 46 = .ok (.aload_n 0, 1) := by decide +kernel
theorem dX8_run_47 : decode cX8_run 47 = .ok (.getfield 21, 3) := by decide +kernel
theorem dX8_run_50 : decode cX8_run 50 = .ok (.getfield 198, 3) := by decide +kernel
theorem dX8_run_53 : decode cX8_run 53 = .ok (.ireturn, 1) := by decide +kernel
theorem dX8_feed_0 : decode cX8_feed 0 = .ok (.aload_n 0, 1) := by decide +kernel
theorem dX8_feed_1 : decode cX8_feed 1 = .ok (.getfield 34, 3) := by decide +kernel
theorem dX8_feed_4 : decode cX8_feed 4 = .ok (.getfield 201, 3) := by decide +kernel
theorem dX8_feed_7 : decode cX8_feed 7 = .ok (.bipush 12, 2) := by decide +kernel
theorem dX8_feed_9 : decode cX8_feed 9 = .ok (.iadd, 1) := by decide +kernel
theorem dX8_feed_10 : decode cX8_feed 10 = .ok (.bipush 96, 2) := by decide +kernel
theorem dX8_feed_12 : decode cX8_feed 12 = .ok (.if_icmp .le 6, 3) := by decide +kernel
theorem dX8_feed_15 : decode cX8_feed 15 = .ok (.ldc 172, 2) := by decide +kernel
theorem dX8_feed_17 : decode cX8_feed 17 = .ok (.ireturn, 1) := by decide +kernel
theorem dX8_feed_18 : decode cX8_feed 18 = .ok (.aload_n 0, 1) := by decide +kernel
theorem dX8_feed_19 : decode cX8_feed 19 = .ok (.getfield 34, 3) := by decide +kernel
theorem dX8_feed_22 : decode cX8_feed 22 = .ok (.iload_n 1, 1) := by decide +kernel
theorem dX8_feed_23 : decode cX8_feed 23 = .ok (.invokevirtual 204, 3) := by decide +kernel
theorem dX8_feed_26 : decode cX8_feed 26 = .ok (.aload_n 0, 1) := by decide +kernel
theorem dX8_feed_27 : decode cX8_feed 27 = .ok (.getfield 34, 3) := by decide +kernel
theorem dX8_feed_30 : decode cX8_feed 30 = .ok (.iload_n 2, 1) := by decide +kernel
theorem dX8_feed_31 : decode cX8_feed 31 = .ok (.invokevirtual 204, 3) := by decide +kernel
theorem dX8_feed_34 : decode cX8_feed 34 = .ok (.aload_n 0, 1) := by decide +kernel
theorem dX8_feed_35 : decode cX8_feed 35 = .ok (.getfield 34, 3) := by decide +kernel
theorem dX8_feed_38 : decode cX8_feed 38 = .ok (.iload_n 3, 1) := by decide +kernel
theorem dX8_feed_39 : decode cX8_feed 39 = .ok (.invokevirtual 204, 3) := by decide +kernel
theorem dX8_feed_42 : decode cX8_feed 42 = .ok (.aload_n 0, 1) := by decide +kernel
theorem dX8_feed_43 : decode cX8_feed 43 = .ok (.getfield 34, 3) := by decide +kernel
theorem dX8_feed_46 : decode cX8_feed 46 = .ok (.getfield 201, 3) := by decide +kernel
theorem dX8_feed_49 : decode cX8_feed 49 = .ok (.ireturn, 1) := by decide +kernel
theorem dX8_trim_0 : decode cX8_trim 0 = .ok (.iload_n 1, 1) := by decide +kernel
theorem dX8_trim_1 : decode cX8_trim 1 = .ok (.iconst 0, 1) := by decide +kernel
theorem dX8_trim_2 : decode cX8_trim 2 = .ok (.aload_n 0, 1) := by decide +kernel
theorem dX8_trim_3 : decode cX8_trim 3 = .ok (.getfield 34, 3) := by decide +kernel
theorem dX8_trim_6 : decode cX8_trim 6 = .ok (.getfield 201, 3) := by decide +kernel
theorem dX8_trim_9 : decode cX8_trim 9 = .ok (.invokestatic 72, 3) := by decide +kernel
theorem dX8_trim_12 : decode cX8_trim 12 = .ok (.ifCond .ne 6, 3) := by decide +kernel
theorem dX8_trim_15 : decode cX8_trim 15 = .ok (.ldc 76, 2) := by decide +kernel
theorem dX8_trim_17 : decode cX8_trim 17 = .ok (.ireturn, 1) := by decide +kernel
theorem dX8_trim_18 : decode cX8_trim 18 = .ok (.aload_n 0, 1) := by decide +kernel
theorem dX8_trim_19 : decode cX8_trim 19 = .ok (.getfield 34, 3) := by decide +kernel
theorem dX8_trim_22 : decode cX8_trim 22 = .ok (.iload_n 1, 1) := by decide +kernel
theorem dX8_trim_23 : decode cX8_trim 23 = .ok (.putfield 201, 3) := by decide +kernel
theorem dX8_trim_26 : decode cX8_trim 26 = .ok (.iload_n 1, 1) := by decide +kernel
theorem dX8_trim_27 : decode cX8_trim 27 = .ok (.ireturn, 1) := by decide +kernel
theorem dX8_text_0 : decode cX8_text 0 = .ok (.aload_n 0, 1) := by decide +kernel
theorem dX8_text_1 : decode cX8_text 1 = .ok (.getfield 43, 3) := by decide +kernel
theorem dX8_text_4 : decode cX8_text 4 = .ok (.invokevirtual 208, 3) := by decide +kernel
theorem dX8_text_7 : decode cX8_text 7 = .ok (.istore_n 1, 1) := by decide +kernel
theorem dX8_text_8 : decode cX8_text 8 = .ok (.aload_n 0, 1) := by decide +kernel
theorem dX8_text_9 : decode cX8_text 9 = .ok (.getfield 34, 3) := by decide +kernel
theorem dX8_text_12 : decode cX8_text 12 = .ok (.iconst 0, 1) := by decide +kernel
theorem dX8_text_13 : decode cX8_text 13 = .ok (.putfield 201, 3) := by decide +kernel
theorem dX8_text_16 : decode cX8_text 16 = .ok (.iload_n 1, 1) := by decide +kernel
theorem dX8_text_17 : decode cX8_text 17 = .ok (.ldc 118, 2) := by decide +kernel
theorem dX8_text_19 : decode cX8_text 19 = .ok (.if_icmp .eq 8, 3) := by decide +kernel
theorem dX8_text_22 : decode cX8_text 22 = .ok (.bipush (-100), 2) := by decide +kernel
theorem dX8_text_24 : decode cX8_text 24 = .ok (.iload_n 1, 1) := by decide +kernel
theorem dX8_text_25 : decode cX8_text 25 = .ok (.isub, 1) := by decide +kernel
theorem dX8_text_26 : decode cX8_text 26 = .ok (.ireturn, 1) := by decide +kernel
theorem dX8_text_27 : decode cX8_text 27 = .ok (.aload_n 0, 1) := by decide +kernel
theorem dX8_text_28 : decode cX8_text 28 = .ok (.getfield 21, 3) := by decide +kernel
theorem dX8_text_31 : decode cX8_text 31 = .ok (.getfield 211, 3) := by decide +kernel
theorem dX8_text_34 : decode cX8_text 34 = .ok (.bipush 14, 2) := by decide +kernel
theorem dX8_text_36 : decode cX8_text 36 = .ok (.if_icmp .lt 6, 3) := by decide +kernel
theorem dX8_text_39 : decode cX8_text 39 = .ok (.ldc 172, 2) := by decide +kernel
theorem dX8_text_41 : decode cX8_text 41 = .ok (.ireturn, 1) := by decide +kernel
theorem dX8_text_42 : decode cX8_text 42 = .ok (.aload_n 0, 1) := by decide +kernel
theorem dX8_text_43 : decode cX8_text 43 = .ok (.getfield 21, 3) := by decide +kernel
theorem dX8_text_46 : decode cX8_text 46 = .ok (.getfield 211, 3) := by decide +kernel
theorem dX8_text_49 : decode cX8_text 49 = .ok (.istore_n 2, 1) := by decide +kernel
theorem dX8_text_50 : decode cX8_text 50 = .ok (.aload_n 0, 1) := by decide +kernel
theorem dX8_text_51 : decode cX8_text 51 = .ok (.getfield 10, 3) := by decide +kernel
theorem dX8_text_54 : decode cX8_text 54 = .ok (.iload_n 2, 1) := by decide +kernel
theorem dX8_text_55 : decode cX8_text 55 = .ok (.aload_n 0, 1) := by decide +kernel
theorem dX8_text_56 : decode cX8_text 56 = .ok (.getfield 43, 3) := by decide +kernel
theorem dX8_text_59 : decode cX8_text 59 = .ok (.invokevirtual 214, 3) := by decide +kernel
theorem dX8_text_62 : decode cX8_text 62 = .ok (.aload_n 0, 1) := by decide +kernel
theorem dX8_text_63 : decode cX8_text 63 = .ok (.getfield 21, 3) := by decide +kernel
theorem dX8_text_66 : decode cX8_text 66 = .ok (.iload_n 2, 1) := by decide +kernel
theorem dX8_text_67 : decode cX8_text 67 = .ok (.iconst 1, 1) := by decide +kernel
theorem dX8_text_68 : decode cX8_text 68 = .ok (.iadd, 1) := by decide +kernel
theorem dX8_text_69 : decode cX8_text 69 = .ok (.putfield 211, 3) := by decide +kernel
theorem dX8_text_72 : decode cX8_text 72 = .ok (.iload_n 2, 1) := by decide +kernel
theorem dX8_text_73 : decode cX8_text 73 = .ok (.ireturn, 1) := by decide +kernel
theorem dX8_textTold_0 : decode cX8_textTold 0 = .ok (.iload_n 1, 1) := by decide +kernel
theorem dX8_textTold_1 : decode cX8_textTold 1 = .ok (.iconst 0, 1) := by decide +kernel
theorem dX8_textTold_2 : decode cX8_textTold 2 = .ok (.aload_n 0, 1) := by decide +kernel
theorem dX8_textTold_3 : decode cX8_textTold 3 = .ok (.getfield 21, 3) := by decide +kernel
theorem dX8_textTold_6 : decode cX8_textTold 6 = .ok (.getfield 211, 3) := by decide +kernel
theorem dX8_textTold_9 : decode cX8_textTold 9 = .ok (.iconst 1, 1) := by decide +kernel
theorem dX8_textTold_10 : decode cX8_textTold 10 = .ok (.isub, 1) := by decide +kernel
theorem dX8_textTold_11 : decode cX8_textTold 11 = .ok (.invokestatic 72, 3) := by decide +kernel
theorem dX8_textTold_14 : decode cX8_textTold 14 = .ok (.ifCond .ne 6, 3) := by decide +kernel
theorem dX8_textTold_17 : decode cX8_textTold 17 = .ok (.ldc 76, 2) := by decide +kernel
theorem dX8_textTold_19 : decode cX8_textTold 19 = .ok (.ireturn, 1) := by decide +kernel
theorem dX8_textTold_20 : decode cX8_textTold 20 = .ok (.iload_n 2, 1) := by decide +kernel
theorem dX8_textTold_21 : decode cX8_textTold 21 = .ok (.lookupswitch 47 #[(0, 27), (1, 37)], 27) := by decide +kernel
theorem dX8_textTold_48 : decode cX8_textTold 48 = .ok (.aload_n 0, 1) := by decide +kernel
theorem dX8_textTold_49 : decode cX8_textTold 49 = .ok (.getfield 10, 3) := by decide +kernel
theorem dX8_textTold_52 : decode cX8_textTold 52 = .ok (.getfield 218, 3) := by decide +kernel
theorem dX8_textTold_55 : decode cX8_textTold 55 = .ok (.iload_n 1, 1) := by decide +kernel
theorem dX8_textTold_56 : decode cX8_textTold 56 = .ok (.iaload, 1) := by decide +kernel
theorem dX8_textTold_57 : decode cX8_textTold 57 = .ok (.ireturn, 1) := by decide +kernel
theorem dX8_textTold_58 : decode cX8_textTold 58 = .ok (.aload_n 0, 1) := by decide +kernel
theorem dX8_textTold_59 : decode cX8_textTold 59 = .ok (.getfield 10, 3) := by decide +kernel
theorem dX8_textTold_62 : decode cX8_textTold 62 = .ok (.getfield 221, 3) := by decide +kernel
theorem dX8_textTold_65 : decode cX8_textTold 65 = .ok (.iload_n 1, 1) := by decide +kernel
theorem dX8_textTold_66 : decode cX8_textTold 66 = .ok (.iaload, 1) := by decide +kernel
theorem dX8_textTold_67 : decode cX8_textTold 67 = .ok (.ireturn, 1) := by decide +kernel
theorem dX8_textTold_68 : decode cX8_textTold 68 = .ok (.ldc 76, 2) := by decide +kernel
theorem dX8_textTold_70 : decode cX8_textTold 70 = .ok (.ireturn, 1) := by decide +kernel
theorem dX8_why_0 : decode cX8_why 0 = .ok (.iload_n 1, 1) := by decide +kernel
theorem dX8_why_1 : decode cX8_why 1 = .ok (.iconst 0, 1) := by decide +kernel
theorem dX8_why_2 : decode cX8_why 2 = .ok (.iconst 2, 1) := by decide +kernel
theorem dX8_why_3 : decode cX8_why 3 = .ok (.invokestatic 72, 3) := by decide +kernel
theorem dX8_why_6 : decode cX8_why 6 = .ok (.ifCond .eq 21, 3) := by decide +kernel
theorem dX8_why_9 : decode cX8_why 9 = .ok (.aload_n 0, 1) := by decide +kernel
theorem dX8_why_10 : decode cX8_why 10 = .ok (.getfield 10, 3) := by decide +kernel
theorem dX8_why_13 : decode cX8_why 13 = .ok (.iload_n 1, 1) := by decide +kernel
theorem dX8_why_14 : decode cX8_why 14 = .ok (.aload_n 0, 1) := by decide +kernel
theorem dX8_why_15 : decode cX8_why 15 = .ok (.getfield 21, 3) := by decide +kernel
theorem dX8_why_18 : decode cX8_why 18 = .ok (.getfield 211, 3) := by decide +kernel
theorem dX8_why_21 : decode cX8_why 21 = .ok (.invokevirtual 224, 3) := by decide +kernel
theorem dX8_why_24 : decode cX8_why 24 = .ok (.goto 5, 3) := by decide +kernel
theorem dX8_why_27 : decode cX8_why 27 = .ok (.ldc 76, 2) := by decide +kernel
theorem dX8_why_29 : decode cX8_why 29 = .ok (.ireturn, 1) := by decide +kernel
theorem dX8_sheet_0 : decode cX8_sheet 0 = .ok (.iload_n 1, 1) := by decide +kernel
theorem dX8_sheet_1 : decode cX8_sheet 1 = .ok (.invokestatic 227, 3) := by decide +kernel
theorem dX8_sheet_4 : decode cX8_sheet 4 = .ok (.ifCond .eq 12, 3) := by decide +kernel
theorem dX8_sheet_7 : decode cX8_sheet 7 = .ok (.iload_n 2, 1) := by decide +kernel
theorem dX8_sheet_8 : decode cX8_sheet 8 = .ok (.iconst (-1), 1) := by decide +kernel
theorem dX8_sheet_9 : decode cX8_sheet 9 = .ok (.iconst 1, 1) := by decide +kernel
theorem dX8_sheet_10 : decode cX8_sheet 10 = .ok (.invokestatic 72, 3) := by decide +kernel
theorem dX8_sheet_13 : decode cX8_sheet 13 = .ok (.ifCond .ne 6, 3) := by decide +kernel
theorem dX8_sheet_16 : decode cX8_sheet 16 = .ok (.ldc 76, 2) := by decide +kernel
theorem dX8_sheet_18 : decode cX8_sheet 18 = .ok (.ireturn, 1) := by decide +kernel
theorem dX8_sheet_19 : decode cX8_sheet 19 = .ok (.iload_n 2, 1) := by decide +kernel
theorem dX8_sheet_20 : decode cX8_sheet 20 = .ok (.iconst (-1), 1) := by decide +kernel
theorem dX8_sheet_21 : decode cX8_sheet 21 = .ok (.if_icmp .ne 16, 3) := by decide +kernel
theorem dX8_sheet_24 : decode cX8_sheet 24 = .ok (.aload_n 0, 1) := by decide +kernel
theorem dX8_sheet_25 : decode cX8_sheet 25 = .ok (.getfield 49, 3) := by decide +kernel
theorem dX8_sheet_28 : decode cX8_sheet 28 = .ok (.iload_n 1, 1) := by decide +kernel
theorem dX8_sheet_29 : decode cX8_sheet 29 = .ok (.aaload, 1) := by decide +kernel
theorem dX8_sheet_30 : decode cX8_sheet 30 = .ok (.iconst (-1), 1) := by decide +kernel
theorem dX8_sheet_31 : decode cX8_sheet 31 = .ok (.iconst 0, 1) := by decide +kernel
theorem dX8_sheet_32 : decode cX8_sheet 32 = .ok (.invokevirtual 230, 3) := by decide +kernel
theorem dX8_sheet_35 : decode cX8_sheet 35 = .ok (.iconst 0, 1) := by decide +kernel
theorem dX8_sheet_36 : decode cX8_sheet 36 = .ok (.ireturn, 1) := by decide +kernel
theorem dX8_sheet_37 : decode cX8_sheet 37 = .ok (.iload_n 3, 1) := by decide +kernel
theorem dX8_sheet_38 : decode cX8_sheet 38 = .ok (.bipush 24, 2) := by decide +kernel
theorem dX8_sheet_40 : decode cX8_sheet 40 = .ok (.if_icmp .le 6, 3) := by decide +kernel
theorem dX8_sheet_43 : decode cX8_sheet 43 = .ok (.ldc 76, 2) := by decide +kernel
theorem dX8_sheet_45 : decode cX8_sheet 45 = .ok (.ireturn, 1) := by decide +kernel
theorem dX8_sheet_46 : decode cX8_sheet 46 = .ok (.iload_n 3, 1) := by decide +kernel
theorem dX8_sheet_47 : decode cX8_sheet 47 = .ok (.ifCond .ge 6, 3) := by decide +kernel
theorem dX8_sheet_50 : decode cX8_sheet 50 = .ok (.ldc 234, 2) := by decide +kernel
theorem dX8_sheet_52 : decode cX8_sheet 52 = .ok (.ireturn, 1) := by decide +kernel
theorem dX8_sheet_53 : decode cX8_sheet 53 = .ok (.aload_n 0, 1) := by decide +kernel
theorem dX8_sheet_54 : decode cX8_sheet 54 = .ok (.getfield 49, 3) := by decide +kernel
theorem dX8_sheet_57 : decode cX8_sheet 57 = .ok (.iload_n 1, 1) := by decide +kernel
theorem dX8_sheet_58 : decode cX8_sheet 58 = .ok (.aaload, 1) := by decide +kernel
theorem dX8_sheet_59 : decode cX8_sheet 59 = .ok (.iload_n 2, 1) := by decide +kernel
theorem dX8_sheet_60 : decode cX8_sheet 60 = .ok (.iload_n 3, 1) := by decide +kernel
theorem dX8_sheet_61 : decode cX8_sheet 61 = .ok (.invokevirtual 230, 3) := by decide +kernel
theorem dX8_sheet_64 : decode cX8_sheet 64 = .ok (.iload_n 3, 1) := by decide +kernel
theorem dX8_sheet_65 : decode cX8_sheet 65 = .ok (.ireturn, 1) := by decide +kernel
theorem dX8_mark_0 : decode cX8_mark 0 = .ok (.iload_n 1, 1) := by decide +kernel
theorem dX8_mark_1 : decode cX8_mark 1 = .ok (.invokestatic 227, 3) := by decide +kernel
theorem dX8_mark_4 : decode cX8_mark 4 = .ok (.ifCond .ne 6, 3) := by decide +kernel
theorem dX8_mark_7 : decode cX8_mark 7 = .ok (.ldc 76, 2) := by decide +kernel
theorem dX8_mark_9 : decode cX8_mark 9 = .ok (.ireturn, 1) := by decide +kernel
theorem dX8_mark_10 : decode cX8_mark 10 = .ok (.aload_n 0, 1) := by decide +kernel
theorem dX8_mark_11 : decode cX8_mark 11 = .ok (.getfield 49, 3) := by decide +kernel
theorem dX8_mark_14 : decode cX8_mark 14 = .ok (.iload_n 1, 1) := by decide +kernel
theorem dX8_mark_15 : decode cX8_mark 15 = .ok (.aaload, 1) := by decide +kernel
theorem dX8_mark_16 : decode cX8_mark 16 = .ok (.astore 4, 2) := by decide +kernel
theorem dX8_mark_18 : decode cX8_mark 18 = .ok (.aload 4, 2) := by decide +kernel
theorem dX8_mark_20 : decode cX8_mark 20 = .ok (.getfield 235, 3) := by decide +kernel
theorem dX8_mark_23 : decode cX8_mark 23 = .ok (.iconst (-1), 1) := by decide +kernel
theorem dX8_mark_24 : decode cX8_mark 24 = .ok (.if_icmp .ne 6, 3) := by decide +kernel
theorem dX8_mark_27 : decode cX8_mark 27 = .ok (.ldc 238, 2) := by decide +kernel
theorem dX8_mark_29 : decode cX8_mark 29 = .ok (.ireturn, 1) := by decide +kernel
theorem dX8_mark_30 : decode cX8_mark 30 = .ok (.aload 4, 2) := by decide +kernel
theorem dX8_mark_32 : decode cX8_mark 32 = .ok (.iload_n 2, 1) := by decide +kernel
theorem dX8_mark_33 : decode cX8_mark 33 = .ok (.invokevirtual 239, 3) := by decide +kernel
theorem dX8_mark_36 : decode cX8_mark 36 = .ok (.ifCond .ne 6, 3) := by decide +kernel
theorem dX8_mark_39 : decode cX8_mark 39 = .ok (.ldc 242, 2) := by decide +kernel
theorem dX8_mark_41 : decode cX8_mark 41 = .ok (.ireturn, 1) := by decide +kernel
theorem dX8_mark_42 : decode cX8_mark 42 = .ok (.aload 4, 2) := by decide +kernel
theorem dX8_mark_44 : decode cX8_mark 44 = .ok (.getfield 235, 3) := by decide +kernel
theorem dX8_mark_47 : decode cX8_mark 47 = .ok (.ifCond .ne 23, 3) := by decide +kernel
theorem dX8_mark_50 : decode cX8_mark 50 = .ok (.iload_n 3, 1) := by decide +kernel
theorem dX8_mark_51 : decode cX8_mark 51 = .ok (.ldc 118, 2) := by decide +kernel
theorem dX8_mark_53 : decode cX8_mark 53 = .ok (.if_icmp .ne 6, 3) := by decide +kernel
theorem dX8_mark_56 : decode cX8_mark 56 = .ok (.ldc 117, 2) := by decide +kernel
theorem dX8_mark_58 : decode cX8_mark 58 = .ok (.ireturn, 1) := by decide +kernel
theorem dX8_mark_59 : decode cX8_mark 59 = .ok (.aload 4, 2) := by decide +kernel
theorem dX8_mark_61 : decode cX8_mark 61 = .ok (.getfield 243, 3) := by decide +kernel
theorem dX8_mark_64 : decode cX8_mark 64 = .ok (.iload_n 2, 1) := by decide +kernel
theorem dX8_mark_65 : decode cX8_mark 65 = .ok (.iload_n 3, 1) := by decide +kernel
theorem dX8_mark_66 : decode cX8_mark 66 = .ok (.i2s, 1) := by decide +kernel
theorem dX8_mark_67 : decode cX8_mark 67 = .ok (.iastore, 1) := by decide +kernel
theorem dX8_mark_68 : decode cX8_mark 68 = .ok (.iconst 1, 1) := by decide +kernel
theorem dX8_mark_69 : decode cX8_mark 69 = .ok (.ireturn, 1) := by decide +kernel
theorem dX8_mark_70 : decode cX8_mark 70 = .ok (.iload_n 3, 1) := by decide +kernel
theorem dX8_mark_71 : decode cX8_mark 71 = .ok (.ldc 118, 2) := by decide +kernel
theorem dX8_mark_73 : decode cX8_mark 73 = .ok (.if_icmp .eq 17, 3) := by decide +kernel
theorem dX8_mark_76 : decode cX8_mark 76 = .ok (.iload_n 3, 1) := by decide +kernel
theorem dX8_mark_77 : decode cX8_mark 77 = .ok (.ldc 246, 2) := by decide +kernel
theorem dX8_mark_79 : decode cX8_mark 79 = .ok (.ldc 247, 2) := by decide +kernel
theorem dX8_mark_81 : decode cX8_mark 81 = .ok (.invokestatic 72, 3) := by decide +kernel
theorem dX8_mark_84 : decode cX8_mark 84 = .ok (.ifCond .ne 6, 3) := by decide +kernel
theorem dX8_mark_87 : decode cX8_mark 87 = .ok (.ldc 76, 2) := by decide +kernel
theorem dX8_mark_89 : decode cX8_mark 89 = .ok (.ireturn, 1) := by decide +kernel
theorem dX8_mark_90 : decode cX8_mark 90 = .ok (.aload 4, 2) := by decide +kernel
theorem dX8_mark_92 : decode cX8_mark 92 = .ok (.getfield 243, 3) := by decide +kernel
theorem dX8_mark_95 : decode cX8_mark 95 = .ok (.iload_n 2, 1) := by decide +kernel
theorem dX8_mark_96 : decode cX8_mark 96 = .ok (.iload_n 3, 1) := by decide +kernel
theorem dX8_mark_97 : decode cX8_mark 97 = .ok (.iastore, 1) := by decide +kernel
theorem dX8_mark_98 : decode cX8_mark 98 = .ok (.iconst 1, 1) := by decide +kernel
theorem dX8_mark_99 : decode cX8_mark 99 = .ok (.ireturn, 1) := by decide +kernel
theorem dX8_pour_0 : decode cX8_pour 0 = .ok (.iload_n 1, 1) := by decide +kernel
theorem dX8_pour_1 : decode cX8_pour 1 = .ok (.invokestatic 227, 3) := by decide +kernel
theorem dX8_pour_4 : decode cX8_pour 4 = .ok (.ifCond .eq 12, 3) := by decide +kernel
theorem dX8_pour_7 : decode cX8_pour 7 = .ok (.iload_n 2, 1) := by decide +kernel
theorem dX8_pour_8 : decode cX8_pour 8 = .ok (.iconst 0, 1) := by decide +kernel
theorem dX8_pour_9 : decode cX8_pour 9 = .ok (.iconst 4, 1) := by decide +kernel
theorem dX8_pour_10 : decode cX8_pour 10 = .ok (.invokestatic 72, 3) := by decide +kernel
theorem dX8_pour_13 : decode cX8_pour 13 = .ok (.ifCond .ne 6, 3) := by decide +kernel
theorem dX8_pour_16 : decode cX8_pour 16 = .ok (.ldc 76, 2) := by decide +kernel
theorem dX8_pour_18 : decode cX8_pour 18 = .ok (.ireturn, 1) := by decide +kernel
theorem dX8_pour_19 : decode cX8_pour 19 = .ok (.aload_n 0, 1) := by decide +kernel
theorem dX8_pour_20 : decode cX8_pour 20 = .ok (.getfield 49, 3) := by decide +kernel
theorem dX8_pour_23 : decode cX8_pour 23 = .ok (.iload_n 1, 1) := by decide +kernel
theorem dX8_pour_24 : decode cX8_pour 24 = .ok (.aaload, 1) := by decide +kernel
theorem dX8_pour_25 : decode cX8_pour 25 = .ok (.astore_n 3, 1) := by decide +kernel
theorem dX8_pour_26 : decode cX8_pour 26 = .ok (.aload_n 3, 1) := by decide +kernel
theorem dX8_pour_27 : decode cX8_pour 27 = .ok (.getfield 235, 3) := by decide +kernel
theorem dX8_pour_30 : decode cX8_pour 30 = .ok (.iconst (-1), 1) := by decide +kernel
theorem dX8_pour_31 : decode cX8_pour 31 = .ok (.if_icmp .ne 8, 3) := by decide +kernel
theorem dX8_pour_34 : decode cX8_pour 34 = .ok (.ldc 238, 2) := by decide +kernel
theorem dX8_pour_36 : decode cX8_pour 36 = .ok (.goto 12, 3) := by decide +kernel
theorem dX8_pour_39 : decode cX8_pour 39 = .ok (.aload_n 0, 1) := by decide +kernel
theorem dX8_pour_40 : decode cX8_pour 40 = .ok (.getfield 21, 3) := by decide +kernel
theorem dX8_pour_43 : decode cX8_pour 43 = .ok (.iload_n 2, 1) := by decide +kernel
theorem dX8_pour_44 : decode cX8_pour 44 = .ok (.aload_n 3, 1) := by decide +kernel
theorem dX8_pour_45 : decode cX8_pour 45 = .ok (.invokevirtual 248, 3) := by decide +kernel
theorem dX8_pour_48 : decode cX8_pour 48 = .ok (.ireturn, 1) := by decide +kernel
theorem dX8_reads_0 : decode cX8_reads 0 = .ok (.iload_n 1, 1) := by decide +kernel
theorem dX8_reads_1 : decode cX8_reads 1 = .ok (.invokestatic 227, 3) := by decide +kernel
theorem dX8_reads_4 : decode cX8_reads 4 = .ok (.ifCond .ne 6, 3) := by decide +kernel
theorem dX8_reads_7 : decode cX8_reads 7 = .ok (.ldc 76, 2) := by decide +kernel
theorem dX8_reads_9 : decode cX8_reads 9 = .ok (.ireturn, 1) := by decide +kernel
theorem dX8_reads_10 : decode cX8_reads 10 = .ok (.aload_n 0, 1) := by decide +kernel
theorem dX8_reads_11 : decode cX8_reads 11 = .ok (.getfield 49, 3) := by decide +kernel
theorem dX8_reads_14 : decode cX8_reads 14 = .ok (.iload_n 1, 1) := by decide +kernel
theorem dX8_reads_15 : decode cX8_reads 15 = .ok (.aaload, 1) := by decide +kernel
theorem dX8_reads_16 : decode cX8_reads 16 = .ok (.astore_n 2, 1) := by decide +kernel
theorem dX8_reads_17 : decode cX8_reads 17 = .ok (.aload_n 2, 1) := by decide +kernel
theorem dX8_reads_18 : decode cX8_reads 18 = .ok (.getfield 235, 3) := by decide +kernel
theorem dX8_reads_21 : decode cX8_reads 21 = .ok (.iconst (-1), 1) := by decide +kernel
theorem dX8_reads_22 : decode cX8_reads 22 = .ok (.if_icmp .ne 8, 3) := by decide +kernel
theorem dX8_reads_25 : decode cX8_reads 25 = .ok (.ldc 238, 2) := by decide +kernel
theorem dX8_reads_27 : decode cX8_reads 27 = .ok (.goto 11, 3) := by decide +kernel
theorem dX8_reads_30 : decode cX8_reads 30 = .ok (.aload_n 0, 1) := by decide +kernel
theorem dX8_reads_31 : decode cX8_reads 31 = .ok (.getfield 21, 3) := by decide +kernel
theorem dX8_reads_34 : decode cX8_reads 34 = .ok (.aload_n 2, 1) := by decide +kernel
theorem dX8_reads_35 : decode cX8_reads 35 = .ok (.invokevirtual 252, 3) := by decide +kernel
theorem dX8_reads_38 : decode cX8_reads 38 = .ok (.ireturn, 1) := by decide +kernel
theorem dX8_copy_0 : decode cX8_copy 0 = .ok (.iload_n 1, 1) := by decide +kernel
theorem dX8_copy_1 : decode cX8_copy 1 = .ok (.invokestatic 227, 3) := by decide +kernel
theorem dX8_copy_4 : decode cX8_copy 4 = .ok (.ifCond .eq 10, 3) := by decide +kernel
theorem dX8_copy_7 : decode cX8_copy 7 = .ok (.iload_n 3, 1) := by decide +kernel
theorem dX8_copy_8 : decode cX8_copy 8 = .ok (.invokestatic 227, 3) := by decide +kernel
theorem dX8_copy_11 : decode cX8_copy 11 = .ok (.ifCond .ne 6, 3) := by decide +kernel
theorem dX8_copy_14 : decode cX8_copy 14 = .ok (.ldc 76, 2) := by decide +kernel
theorem dX8_copy_16 : decode cX8_copy 16 = .ok (.ireturn, 1) := by decide +kernel
theorem dX8_copy_17 : decode cX8_copy 17 = .ok (.aload_n 0, 1) := by decide +kernel
theorem dX8_copy_18 : decode cX8_copy 18 = .ok (.getfield 49, 3) := by decide +kernel
theorem dX8_copy_21 : decode cX8_copy 21 = .ok (.iload_n 1, 1) := by decide +kernel
theorem dX8_copy_22 : decode cX8_copy 22 = .ok (.aaload, 1) := by decide +kernel
theorem dX8_copy_23 : decode cX8_copy 23 = .ok (.astore 6, 2) := by decide +kernel
theorem dX8_copy_25 : decode cX8_copy 25 = .ok (.aload_n 0, 1) := by decide +kernel
theorem dX8_copy_26 : decode cX8_copy 26 = .ok (.getfield 49, 3) := by decide +kernel
theorem dX8_copy_29 : decode cX8_copy 29 = .ok (.iload_n 3, 1) := by decide +kernel
theorem dX8_copy_30 : decode cX8_copy 30 = .ok (.aaload, 1) := by decide +kernel
theorem dX8_copy_31 : decode cX8_copy 31 = .ok (.astore 7, 2) := by decide +kernel
theorem dX8_copy_33 : decode cX8_copy 33 = .ok (.aload 6, 2) := by decide +kernel
theorem dX8_copy_35 : decode cX8_copy 35 = .ok (.getfield 235, 3) := by decide +kernel
theorem dX8_copy_38 : decode cX8_copy 38 = .ok (.iconst (-1), 1) := by decide +kernel
theorem dX8_copy_39 : decode cX8_copy 39 = .ok (.if_icmp .eq 12, 3) := by decide +kernel
theorem dX8_copy_42 : decode cX8_copy 42 = .ok (.aload 7, 2) := by decide +kernel
theorem dX8_copy_44 : decode cX8_copy 44 = .ok (.getfield 235, 3) := by decide +kernel
theorem dX8_copy_47 : decode cX8_copy 47 = .ok (.iconst (-1), 1) := by decide +kernel
theorem dX8_copy_48 : decode cX8_copy 48 = .ok (.if_icmp .ne 6, 3) := by decide +kernel
theorem dX8_copy_51 : decode cX8_copy 51 = .ok (.ldc 238, 2) := by decide +kernel
theorem dX8_copy_53 : decode cX8_copy 53 = .ok (.ireturn, 1) := by decide +kernel
theorem dX8_copy_54 : decode cX8_copy 54 = .ok (.aload 6, 2) := by decide +kernel
theorem dX8_copy_56 : decode cX8_copy 56 = .ok (.getfield 235, 3) := by decide +kernel
theorem dX8_copy_59 : decode cX8_copy 59 = .ok (.aload 7, 2) := by decide +kernel
theorem dX8_copy_61 : decode cX8_copy 61 = .ok (.getfield 235, 3) := by decide +kernel
theorem dX8_copy_64 : decode cX8_copy 64 = .ok (.if_icmp .eq 6, 3) := by decide +kernel
theorem dX8_copy_67 : decode cX8_copy 67 = .ok (.ldc 117, 2) := by decide +kernel
theorem dX8_copy_69 : decode cX8_copy 69 = .ok (.ireturn, 1) := by decide +kernel
theorem dX8_copy_70 : decode cX8_copy 70 = .ok (.aload 6, 2) := by decide +kernel
theorem dX8_copy_72 : decode cX8_copy 72 = .ok (.iload_n 2, 1) := by decide +kernel
theorem dX8_copy_73 : decode cX8_copy 73 = .ok (.iload 5, 2) := by decide +kernel
theorem dX8_copy_75 : decode cX8_copy 75 = .ok (.invokevirtual 256, 3) := by decide +kernel
theorem dX8_copy_78 : decode cX8_copy 78 = .ok (.ifCond .eq 15, 3) := by decide +kernel
theorem dX8_copy_81 : decode cX8_copy 81 = .ok (.aload 7, 2) := by decide +kernel
theorem dX8_copy_83 : decode cX8_copy 83 = .ok (.iload 4, 2) := by decide +kernel
theorem dX8_copy_85 : decode cX8_copy 85 = .ok (.iload 5, 2) := by decide +kernel
theorem dX8_copy_87 : decode cX8_copy 87 = .ok (.invokevirtual 256, 3) := by decide +kernel
theorem dX8_copy_90 : decode cX8_copy 90 = .ok (.ifCond .ne 6, 3) := by decide +kernel
theorem dX8_copy_93 : decode cX8_copy 93 = .ok (.ldc 242, 2) := by decide +kernel
theorem dX8_copy_95 : decode cX8_copy 95 = .ok (.ireturn, 1) := by decide +kernel
theorem dX8_copy_96 : decode cX8_copy 96 = .ok (.aload 6, 2) := by decide +kernel
theorem dX8_copy_98 : decode cX8_copy 98 = .ok (.getfield 243, 3) := by decide +kernel
theorem dX8_copy_101 : decode cX8_copy 101 = .ok (.iload_n 2, 1) := by decide +kernel
theorem dX8_copy_102 : decode cX8_copy 102 = .ok (.aload 7, 2) := by decide +kernel
theorem dX8_copy_104 : decode cX8_copy 104 = .ok (.getfield 243, 3) := by decide +kernel
theorem dX8_copy_107 : decode cX8_copy 107 = .ok (.iload 4, 2) := by decide +kernel
theorem dX8_copy_109 : decode cX8_copy 109 = .ok (.iload 5, 2) := by decide +kernel
theorem dX8_copy_111 : decode cX8_copy 111 = .ok (.invokestatic 259, 3) := by decide +kernel
theorem dX8_copy_114 : decode cX8_copy 114 = .ok (.iload 5, 2) := by decide +kernel
theorem dX8_copy_116 : decode cX8_copy 116 = .ok (.ireturn, 1) := by decide +kernel
theorem dX8_lay_0 : decode cX8_lay 0 = .ok (.iload_n 1, 1) := by decide +kernel
theorem dX8_lay_1 : decode cX8_lay 1 = .ok (.invokestatic 265, 3) := by decide +kernel
theorem dX8_lay_4 : decode cX8_lay 4 = .ok (.ifCond .eq 12, 3) := by decide +kernel
theorem dX8_lay_7 : decode cX8_lay 7 = .ok (.iload_n 2, 1) := by decide +kernel
theorem dX8_lay_8 : decode cX8_lay 8 = .ok (.iconst 0, 1) := by decide +kernel
theorem dX8_lay_9 : decode cX8_lay 9 = .ok (.iconst 3, 1) := by decide +kernel
theorem dX8_lay_10 : decode cX8_lay 10 = .ok (.invokestatic 72, 3) := by decide +kernel
theorem dX8_lay_13 : decode cX8_lay 13 = .ok (.ifCond .ne 6, 3) := by decide +kernel
theorem dX8_lay_16 : decode cX8_lay 16 = .ok (.ldc 76, 2) := by decide +kernel
theorem dX8_lay_18 : decode cX8_lay 18 = .ok (.ireturn, 1) := by decide +kernel
theorem dX8_lay_19 : decode cX8_lay 19 = .ok (.iload_n 2, 1) := by decide +kernel
theorem dX8_lay_20 : decode cX8_lay 20 = .ok (.iconst 1, 1) := by decide +kernel
theorem dX8_lay_21 : decode cX8_lay 21 = .ok (.if_icmp .ne 10, 3) := by decide +kernel
theorem dX8_lay_24 : decode cX8_lay 24 = .ok (.iload_n 3, 1) := by decide +kernel
theorem dX8_lay_25 : decode cX8_lay 25 = .ok (.invokestatic 65, 3) := by decide +kernel
theorem dX8_lay_28 : decode cX8_lay 28 = .ok (.ifCond .eq 15, 3) := by decide +kernel
theorem dX8_lay_31 : decode cX8_lay 31 = .ok (.iload_n 2, 1) := by decide +kernel
theorem dX8_lay_32 : decode cX8_lay 32 = .ok (.iconst 2, 1) := by decide +kernel
theorem dX8_lay_33 : decode cX8_lay 33 = .ok (.if_icmp .ne 13, 3) := by decide +kernel
theorem dX8_lay_36 : decode cX8_lay 36 = .ok (.iload_n 3, 1) := by decide +kernel
theorem dX8_lay_37 : decode cX8_lay 37 = .ok (.invokestatic 227, 3) := by decide +kernel
theorem dX8_lay_40 : decode cX8_lay 40 = .ok (.ifCond .ne 6, 3) := by decide +kernel
theorem dX8_lay_43 : decode cX8_lay 43 = .ok (.ldc 76, 2) := by decide +kernel
theorem dX8_lay_45 : decode cX8_lay 45 = .ok (.ireturn, 1) := by decide +kernel
theorem dX8_lay_46 : decode cX8_lay 46 = .ok (.iload_n 2, 1) := by decide +kernel
theorem dX8_lay_47 : decode cX8_lay 47 = .ok (.iconst 2, 1) := by decide +kernel
theorem dX8_lay_48 : decode cX8_lay 48 = .ok (.if_icmp .ne 19, 3) := by decide +kernel
theorem dX8_lay_51 : decode cX8_lay 51 = .ok (.aload_n 0, 1) := by decide +kernel
theorem dX8_lay_52 : decode cX8_lay 52 = .ok (.getfield 49, 3) := by decide +kernel
theorem dX8_lay_55 : decode cX8_lay 55 = .ok (.iload_n 3, 1) := by decide +kernel
theorem dX8_lay_56 : decode cX8_lay 56 = .ok (.aaload, 1) := by decide +kernel
theorem dX8_lay_57 : decode cX8_lay 57 = .ok (.getfield 235, 3) := by decide +kernel
theorem dX8_lay_60 : decode cX8_lay 60 = .ok (.iconst (-1), 1) := by decide +kernel
theorem dX8_lay_61 : decode cX8_lay 61 = .ok (.if_icmp .ne 6, 3) := by decide +kernel
theorem dX8_lay_64 : decode cX8_lay 64 = .ok (.ldc 238, 2) := by decide +kernel
theorem dX8_lay_66 : decode cX8_lay 66 = .ok (.ireturn, 1) := by decide +kernel
theorem dX8_lay_67 : decode cX8_lay 67 = .ok (.aload_n 0, 1) := by decide +kernel
theorem dX8_lay_68 : decode cX8_lay 68 = .ok (.getfield 55, 3) := by decide +kernel
theorem dX8_lay_71 : decode cX8_lay 71 = .ok (.iload_n 1, 1) := by decide +kernel
theorem dX8_lay_72 : decode cX8_lay 72 = .ok (.aaload, 1) := by decide +kernel
theorem dX8_lay_73 : decode cX8_lay 73 = .ok (.astore 4, 2) := by decide +kernel
theorem dX8_lay_75 : decode cX8_lay 75 = .ok (.aload 4, 2) := by decide +kernel
theorem dX8_lay_77 : decode cX8_lay 77 = .ok (.getfield 268, 3) := by decide +kernel
theorem dX8_lay_80 : decode cX8_lay 80 = .ok (.istore 5, 2) := by decide +kernel
theorem dX8_lay_82 : decode cX8_lay 82 = .ok (.aload 4, 2) := by decide +kernel
theorem dX8_lay_84 : decode cX8_lay 84 = .ok (.iload_n 2, 1) := by decide +kernel
theorem dX8_lay_85 : decode cX8_lay 85 = .ok (.putfield 268, 3) := by decide +kernel
theorem dX8_lay_88 : decode cX8_lay 88 = .ok (.iload_n 2, 1) := by decide +kernel
theorem dX8_lay_89 : decode cX8_lay 89 = .ok (.iconst 1, 1) := by decide +kernel
theorem dX8_lay_90 : decode cX8_lay 90 = .ok (.if_icmp .ne 34, 3) := by decide +kernel
theorem dX8_lay_93 : decode cX8_lay 93 = .ok (.aload 4, 2) := by decide +kernel
theorem dX8_lay_95 : decode cX8_lay 95 = .ok (.aload_n 0, 1) := by decide +kernel
theorem dX8_lay_96 : decode cX8_lay 96 = .ok (.getfield 21, 3) := by decide +kernel
theorem dX8_lay_99 : decode cX8_lay 99 = .ok (.getfield 84, 3) := by decide +kernel
theorem dX8_lay_102 : decode cX8_lay 102 = .ok (.iload_n 3, 1) := by decide +kernel
theorem dX8_lay_103 : decode cX8_lay 103 = .ok (.iaload, 1) := by decide +kernel
theorem dX8_lay_104 : decode cX8_lay 104 = .ok (.putfield 271, 3) := by decide +kernel
theorem dX8_lay_107 : decode cX8_lay 107 = .ok (.aload 4, 2) := by decide +kernel
theorem dX8_lay_109 : decode cX8_lay 109 = .ok (.aload_n 0, 1) := by decide +kernel
theorem dX8_lay_110 : decode cX8_lay 110 = .ok (.getfield 21, 3) := by decide +kernel
theorem dX8_lay_113 : decode cX8_lay 113 = .ok (.getfield 77, 3) := by decide +kernel
theorem dX8_lay_116 : decode cX8_lay 116 = .ok (.iload_n 3, 1) := by decide +kernel
theorem dX8_lay_117 : decode cX8_lay 117 = .ok (.iaload, 1) := by decide +kernel
theorem dX8_lay_118 : decode cX8_lay 118 = .ok (.putfield 274, 3) := by decide +kernel
theorem dX8_lay_121 : decode cX8_lay 121 = .ok (.goto 36, 3) := by decide +kernel
theorem dX8_lay_124 : decode cX8_lay 124 = .ok (.iload_n 2, 1) := by decide +kernel
theorem dX8_lay_125 : decode cX8_lay 125 = .ok (.iconst 2, 1) := by decide +kernel
theorem dX8_lay_126 : decode cX8_lay 126 = .ok (.if_icmp .ne 20, 3) := by decide +kernel
theorem dX8_lay_129 : decode cX8_lay 129 = .ok (.aload 4, 2) := by decide +kernel
theorem dX8_lay_131 : decode cX8_lay 131 = .ok (.getfield 277, 3) := by decide +kernel
theorem dX8_lay_134 : decode cX8_lay 134 = .ok (.aload_n 0, 1) := by decide +kernel
theorem dX8_lay_135 : decode cX8_lay 135 = .ok (.getfield 49, 3) := by decide +kernel
theorem dX8_lay_138 : decode cX8_lay 138 = .ok (.iload_n 3, 1) := by decide +kernel
theorem dX8_lay_139 : decode cX8_lay 139 = .ok (.aaload, 1) := by decide +kernel
theorem dX8_lay_140 : decode cX8_lay 140 = .ok (.invokevirtual 281, 3) := by decide +kernel
theorem dX8_lay_143 : decode cX8_lay 143 = .ok (.goto 14, 3) := by decide +kernel
theorem dX8_lay_146 : decode cX8_lay 146 = .ok (.iload_n 2, 1) := by decide +kernel
theorem dX8_lay_147 : decode cX8_lay 147 = .ok (.iconst 3, 1) := by decide +kernel
theorem dX8_lay_148 : decode cX8_lay 148 = .ok (.if_icmp .ne 9, 3) := by decide +kernel
theorem dX8_lay_151 : decode cX8_lay 151 = .ok (.aload 4, 2) := by decide +kernel
theorem dX8_lay_153 : decode cX8_lay 153 = .ok (.iload_n 3, 1) := by decide +kernel
theorem dX8_lay_154 : decode cX8_lay 154 = .ok (.putfield 285, 3) := by decide +kernel
theorem dX8_lay_157 : decode cX8_lay 157 = .ok (.iload 5, 2) := by decide +kernel
theorem dX8_lay_159 : decode cX8_lay 159 = .ok (.ireturn, 1) := by decide +kernel
theorem dX8_ask_0 : decode cX8_ask 0 = .ok (.iload_n 1, 1) := by decide +kernel
theorem dX8_ask_1 : decode cX8_ask 1 = .ok (.invokestatic 265, 3) := by decide +kernel
theorem dX8_ask_4 : decode cX8_ask 4 = .ok (.ifCond .eq 10, 3) := by decide +kernel
theorem dX8_ask_7 : decode cX8_ask 7 = .ok (.iload_n 2, 1) := by decide +kernel
theorem dX8_ask_8 : decode cX8_ask 8 = .ok (.invokestatic 69, 3) := by decide +kernel
theorem dX8_ask_11 : decode cX8_ask 11 = .ok (.ifCond .ne 6, 3) := by decide +kernel
theorem dX8_ask_14 : decode cX8_ask 14 = .ok (.ldc 76, 2) := by decide +kernel
theorem dX8_ask_16 : decode cX8_ask 16 = .ok (.ireturn, 1) := by decide +kernel
theorem dX8_ask_17 : decode cX8_ask 17 = .ok (.aload_n 0, 1) := by decide +kernel
theorem dX8_ask_18 : decode cX8_ask 18 = .ok (.getfield 55, 3) := by decide +kernel
theorem dX8_ask_21 : decode cX8_ask 21 = .ok (.iload_n 1, 1) := by decide +kernel
theorem dX8_ask_22 : decode cX8_ask 22 = .ok (.aaload, 1) := by decide +kernel
theorem dX8_ask_23 : decode cX8_ask 23 = .ok (.astore_n 3, 1) := by decide +kernel
theorem dX8_ask_24 : decode cX8_ask 24 = .ok (.aload_n 3, 1) := by decide +kernel
theorem dX8_ask_25 : decode cX8_ask 25 = .ok (.iconst 1, 1) := by decide +kernel
theorem dX8_ask_26 : decode cX8_ask 26 = .ok (.invokevirtual 288, 3) := by decide +kernel
theorem dX8_ask_29 : decode cX8_ask 29 = .ok (.istore 4, 2) := by decide +kernel
theorem dX8_ask_31 : decode cX8_ask 31 = .ok (.iload 4, 2) := by decide +kernel
theorem dX8_ask_33 : decode cX8_ask 33 = .ok (.ldc 118, 2) := by decide +kernel
theorem dX8_ask_35 : decode cX8_ask 35 = .ok (.if_icmp .eq 6, 3) := by decide +kernel
theorem dX8_ask_38 : decode cX8_ask 38 = .ok (.iload 4, 2) := by decide +kernel
theorem dX8_ask_40 : decode cX8_ask 40 = .ok (.ireturn, 1) := by decide +kernel
theorem dX8_ask_41 : decode cX8_ask 41 = .ok (.aload_n 3, 1) := by decide +kernel
theorem dX8_ask_42 : decode cX8_ask 42 = .ok (.getfield 271, 3) := by decide +kernel
theorem dX8_ask_45 : decode cX8_ask 45 = .ok (.iload_n 2, 1) := by decide +kernel
theorem dX8_ask_46 : decode cX8_ask 46 = .ok (.invokestatic 114, 3) := by decide +kernel
theorem dX8_ask_49 : decode cX8_ask 49 = .ok (.ifCond .eq 17, 3) := by decide +kernel
theorem dX8_ask_52 : decode cX8_ask 52 = .ok (.aload_n 3, 1) := by decide +kernel
theorem dX8_ask_53 : decode cX8_ask 53 = .ok (.getfield 271, 3) := by decide +kernel
theorem dX8_ask_56 : decode cX8_ask 56 = .ok (.aload_n 3, 1) := by decide +kernel
theorem dX8_ask_57 : decode cX8_ask 57 = .ok (.getfield 274, 3) := by decide +kernel
theorem dX8_ask_60 : decode cX8_ask 60 = .ok (.invokestatic 94, 3) := by decide +kernel
theorem dX8_ask_63 : decode cX8_ask 63 = .ok (.goto 5, 3) := by decide +kernel
theorem dX8_ask_66 : decode cX8_ask 66 = .ok (.ldc 117, 2) := by decide +kernel
theorem dX8_ask_68 : decode cX8_ask 68 = .ok (.ireturn, 1) := by decide +kernel
theorem dX8_item_0 : decode cX8_item 0 = .ok (.iload_n 1, 1) := by decide +kernel
theorem dX8_item_1 : decode cX8_item 1 = .ok (.invokestatic 265, 3) := by decide +kernel
theorem dX8_item_4 : decode cX8_item 4 = .ok (.ifCond .ne 6, 3) := by decide +kernel
theorem dX8_item_7 : decode cX8_item 7 = .ok (.ldc 76, 2) := by decide +kernel
theorem dX8_item_9 : decode cX8_item 9 = .ok (.ireturn, 1) := by decide +kernel
theorem dX8_item_10 : decode cX8_item 10 = .ok (.aload_n 0, 1) := by decide +kernel
theorem dX8_item_11 : decode cX8_item 11 = .ok (.getfield 55, 3) := by decide +kernel
theorem dX8_item_14 : decode cX8_item 14 = .ok (.iload_n 1, 1) := by decide +kernel
theorem dX8_item_15 : decode cX8_item 15 = .ok (.aaload, 1) := by decide +kernel
theorem dX8_item_16 : decode cX8_item 16 = .ok (.astore_n 3, 1) := by decide +kernel
theorem dX8_item_17 : decode cX8_item 17 = .ok (.aload_n 3, 1) := by decide +kernel
theorem dX8_item_18 : decode cX8_item 18 = .ok (.iconst 2, 1) := by decide +kernel
theorem dX8_item_19 : decode cX8_item 19 = .ok (.invokevirtual 288, 3) := by decide +kernel
theorem dX8_item_22 : decode cX8_item 22 = .ok (.istore 4, 2) := by decide +kernel
theorem dX8_item_24 : decode cX8_item 24 = .ok (.iload 4, 2) := by decide +kernel
theorem dX8_item_26 : decode cX8_item 26 = .ok (.ldc 118, 2) := by decide +kernel
theorem dX8_item_28 : decode cX8_item 28 = .ok (.if_icmp .eq 6, 3) := by decide +kernel
theorem dX8_item_31 : decode cX8_item 31 = .ok (.iload 4, 2) := by decide +kernel
theorem dX8_item_33 : decode cX8_item 33 = .ok (.ireturn, 1) := by decide +kernel
theorem dX8_item_34 : decode cX8_item 34 = .ok (.aload_n 3, 1) := by decide +kernel
theorem dX8_item_35 : decode cX8_item 35 = .ok (.getfield 277, 3) := by decide +kernel
theorem dX8_item_38 : decode cX8_item 38 = .ok (.iload_n 2, 1) := by decide +kernel
theorem dX8_item_39 : decode cX8_item 39 = .ok (.invokevirtual 239, 3) := by decide +kernel
theorem dX8_item_42 : decode cX8_item 42 = .ok (.ifCond .ne 6, 3) := by decide +kernel
theorem dX8_item_45 : decode cX8_item 45 = .ok (.ldc 242, 2) := by decide +kernel
theorem dX8_item_47 : decode cX8_item 47 = .ok (.ireturn, 1) := by decide +kernel
theorem dX8_item_48 : decode cX8_item 48 = .ok (.aload_n 3, 1) := by decide +kernel
theorem dX8_item_49 : decode cX8_item 49 = .ok (.getfield 277, 3) := by decide +kernel
theorem dX8_item_52 : decode cX8_item 52 = .ok (.getfield 243, 3) := by decide +kernel
theorem dX8_item_55 : decode cX8_item 55 = .ok (.iload_n 2, 1) := by decide +kernel
theorem dX8_item_56 : decode cX8_item 56 = .ok (.iaload, 1) := by decide +kernel
theorem dX8_item_57 : decode cX8_item 57 = .ok (.istore 5, 2) := by decide +kernel
theorem dX8_item_59 : decode cX8_item 59 = .ok (.iload 5, 2) := by decide +kernel
theorem dX8_item_61 : decode cX8_item 61 = .ok (.ldc 118, 2) := by decide +kernel
theorem dX8_item_63 : decode cX8_item 63 = .ok (.if_icmp .ne 8, 3) := by decide +kernel
theorem dX8_item_66 : decode cX8_item 66 = .ok (.ldc 117, 2) := by decide +kernel
theorem dX8_item_68 : decode cX8_item 68 = .ok (.goto 5, 3) := by decide +kernel
theorem dX8_item_71 : decode cX8_item 71 = .ok (.iload 5, 2) := by decide +kernel
theorem dX8_item_73 : decode cX8_item 73 = .ok (.ireturn, 1) := by decide +kernel
theorem dX8_rest_0 : decode cX8_rest 0 = .ok (.iload_n 1, 1) := by decide +kernel
theorem dX8_rest_1 : decode cX8_rest 1 = .ok (.invokestatic 265, 3) := by decide +kernel
theorem dX8_rest_4 : decode cX8_rest 4 = .ok (.ifCond .ne 6, 3) := by decide +kernel
theorem dX8_rest_7 : decode cX8_rest 7 = .ok (.ldc 76, 2) := by decide +kernel
theorem dX8_rest_9 : decode cX8_rest 9 = .ok (.ireturn, 1) := by decide +kernel
theorem dX8_rest_10 : decode cX8_rest 10 = .ok (.aload_n 0, 1) := by decide +kernel
theorem dX8_rest_11 : decode cX8_rest 11 = .ok (.getfield 55, 3) := by decide +kernel
theorem dX8_rest_14 : decode cX8_rest 14 = .ok (.iload_n 1, 1) := by decide +kernel
theorem dX8_rest_15 : decode cX8_rest 15 = .ok (.aaload, 1) := by decide +kernel
theorem dX8_rest_16 : decode cX8_rest 16 = .ok (.astore_n 3, 1) := by decide +kernel
theorem dX8_rest_17 : decode cX8_rest 17 = .ok (.aload_n 3, 1) := by decide +kernel
theorem dX8_rest_18 : decode cX8_rest 18 = .ok (.iconst 3, 1) := by decide +kernel
theorem dX8_rest_19 : decode cX8_rest 19 = .ok (.invokevirtual 288, 3) := by decide +kernel
theorem dX8_rest_22 : decode cX8_rest 22 = .ok (.istore 4, 2) := by decide +kernel
theorem dX8_rest_24 : decode cX8_rest 24 = .ok (.iload 4, 2) := by decide +kernel
theorem dX8_rest_26 : decode cX8_rest 26 = .ok (.ldc 118, 2) := by decide +kernel
theorem dX8_rest_28 : decode cX8_rest 28 = .ok (.if_icmp .eq 6, 3) := by decide +kernel
theorem dX8_rest_31 : decode cX8_rest 31 = .ok (.iload 4, 2) := by decide +kernel
theorem dX8_rest_33 : decode cX8_rest 33 = .ok (.ireturn, 1) := by decide +kernel
theorem dX8_rest_34 : decode cX8_rest 34 = .ok (.iload_n 2, 1) := by decide +kernel
theorem dX8_rest_35 : decode cX8_rest 35 = .ok (.ifCond .ne 8, 3) := by decide +kernel
theorem dX8_rest_38 : decode cX8_rest 38 = .ok (.ldc 191, 2) := by decide +kernel
theorem dX8_rest_40 : decode cX8_rest 40 = .ok (.goto 9, 3) := by decide +kernel
theorem dX8_rest_43 : decode cX8_rest 43 = .ok (.aload_n 3, 1) := by decide +kernel
theorem dX8_rest_44 : decode cX8_rest 44 = .ok (.getfield 285, 3) := by decide +kernel
theorem dX8_rest_47 : decode cX8_rest 47 = .ok (.iload_n 2, 1) := by decide +kernel
theorem dX8_rest_48 : decode cX8_rest 48 = .ok (.irem, 1) := by decide +kernel
theorem dX8_rest_49 : decode cX8_rest 49 = .ok (.ireturn, 1) := by decide +kernel
theorem dX8_tell_0 : decode cX8_tell 0 = .ok (.aload_n 0, 1) := by decide +kernel
theorem dX8_tell_1 : decode cX8_tell 1 = .ok (.getfield 291, 3) := by decide +kernel
theorem dX8_tell_4 : decode cX8_tell 4 = .ok (.bipush 60, 2) := by decide +kernel
theorem dX8_tell_6 : decode cX8_tell 6 = .ok (.if_icmp .lt 6, 3) := by decide +kernel
theorem dX8_tell_9 : decode cX8_tell 9 = .ok (.ldc 172, 2) := by decide +kernel
theorem dX8_tell_11 : decode cX8_tell 11 = .ok (.ireturn, 1) := by decide +kernel
theorem dX8_tell_12 : decode cX8_tell 12 = .ok (.aload_n 0, 1) := by decide +kernel
theorem dX8_tell_13 : decode cX8_tell 13 = .ok (.getfield 59, 3) := by decide +kernel
theorem dX8_tell_16 : decode cX8_tell 16 = .ok (.aload_n 0, 1) := by decide +kernel
theorem dX8_tell_17 : decode cX8_tell 17 = .ok (.getfield 291, 3) := by decide +kernel
theorem dX8_tell_20 : decode cX8_tell 20 = .ok (.iload_n 1, 1) := by decide +kernel
theorem dX8_tell_21 : decode cX8_tell 21 = .ok (.iastore, 1) := by decide +kernel
theorem dX8_tell_22 : decode cX8_tell 22 = .ok (.aload_n 0, 1) := by decide +kernel
theorem dX8_tell_23 : decode cX8_tell 23 = .ok (.dup, 1) := by decide +kernel
theorem dX8_tell_24 : decode cX8_tell 24 = .ok (.getfield 291, 3) := by decide +kernel
theorem dX8_tell_27 : decode cX8_tell 27 = .ok (.iconst 1, 1) := by decide +kernel
theorem dX8_tell_28 : decode cX8_tell 28 = .ok (.iadd, 1) := by decide +kernel
theorem dX8_tell_29 : decode cX8_tell 29 = .ok (.putfield 291, 3) := by decide +kernel
theorem dX8_tell_32 : decode cX8_tell 32 = .ok (.aload_n 0, 1) := by decide +kernel
theorem dX8_tell_33 : decode cX8_tell 33 = .ok (.getfield 291, 3) := by decide +kernel
theorem dX8_tell_36 : decode cX8_tell 36 = .ok (.ireturn, 1) := by decide +kernel
theorem dX8_check_0 : decode cX8_check 0 = .ok (.aload_n 0, 1) := by decide +kernel
theorem dX8_check_1 : decode cX8_check 1 = .ok (.getfield 291, 3) := by decide +kernel
theorem dX8_check_4 : decode cX8_check 4 = .ok (.istore_n 2, 1) := by decide +kernel
theorem dX8_check_5 : decode cX8_check 5 = .ok (.aload_n 0, 1) := by decide +kernel
theorem dX8_check_6 : decode cX8_check 6 = .ok (.iconst 0, 1) := by decide +kernel
theorem dX8_check_7 : decode cX8_check 7 = .ok (.putfield 291, 3) := by decide +kernel
theorem dX8_check_10 : decode cX8_check 10 = .ok (.iload_n 1, 1) := by decide +kernel
theorem dX8_check_11 : decode cX8_check 11 = .ok (.iconst 1, 1) := by decide +kernel
theorem dX8_check_12 : decode cX8_check 12 = .ok (.bipush 30, 2) := by decide +kernel
theorem dX8_check_14 : decode cX8_check 14 = .ok (.invokestatic 72, 3) := by decide +kernel
theorem dX8_check_17 : decode cX8_check 17 = .ok (.ifCond .ne 6, 3) := by decide +kernel
theorem dX8_check_20 : decode cX8_check 20 = .ok (.ldc 76, 2) := by decide +kernel
theorem dX8_check_22 : decode cX8_check 22 = .ok (.ireturn, 1) := by decide +kernel
theorem dX8_check_23 : decode cX8_check 23 = .ok (.aload_n 0, 1) := by decide +kernel
theorem dX8_check_24 : decode cX8_check 24 = .ok (.getfield 294, 3) := by decide +kernel
theorem dX8_check_27 : decode cX8_check 27 = .ok (.ifCond .ne 6, 3) := by decide +kernel
theorem dX8_check_30 : decode cX8_check 30 = .ok (.ldc 191, 2) := by decide +kernel
theorem dX8_check_32 : decode cX8_check 32 = .ok (.ireturn, 1) := by decide +kernel
theorem dX8_check_33 : decode cX8_check 33 = .ok (.aload_n 0, 1) := by decide +kernel
theorem dX8_check_34 : decode cX8_check 34 = .ok (.getfield 28, 3) := by decide +kernel
theorem dX8_check_37 : decode cX8_check 37 = .ok (.aload_n 0, 1) := by decide +kernel
theorem dX8_check_38 : decode cX8_check 38 = .ok (.getfield 25, 3) := by decide +kernel
theorem dX8_check_41 : decode cX8_check 41 = .ok (.invokevirtual 298, 3) := by decide +kernel
theorem dX8_check_44 : decode cX8_check 44 = .ok (.aload_n 0, 1) := by decide +kernel
theorem dX8_check_45 : decode cX8_check 45 = .ok (.iload_n 1, 1) := by decide +kernel
theorem dX8_check_46 : decode cX8_check 46 = .ok (.iload_n 2, 1) := by decide +kernel
theorem dX8_check_47 : decode cX8_check 47 = .ok (.invokevirtual 301, 3) := by decide +kernel
theorem dX8_check_50 : decode cX8_check 50 = .ok (.ireturn, 1) := by decide +kernel
theorem dX8_keep_0 : decode cX8_keep 0 = .ok (.aload_n 0, 1) := by decide +kernel
theorem dX8_keep_1 : decode cX8_keep 1 = .ok (.getfield 25, 3) := by decide +kernel
theorem dX8_keep_4 : decode cX8_keep 4 = .ok (.aload_n 0, 1) := by decide +kernel
theorem dX8_keep_5 : decode cX8_keep 5 = .ok (.getfield 21, 3) := by decide +kernel
theorem dX8_keep_8 : decode cX8_keep 8 = .ok (.invokevirtual 298, 3) := by decide +kernel
theorem dX8_keep_11 : decode cX8_keep 11 = .ok (.aload_n 0, 1) := by decide +kernel
theorem dX8_keep_12 : decode cX8_keep 12 = .ok (.iconst 1, 1) := by decide +kernel
theorem dX8_keep_13 : decode cX8_keep 13 = .ok (.putfield 294, 3) := by decide +kernel
theorem dX8_keep_16 : decode cX8_keep 16 = .ok (.aload_n 0, 1) := by decide +kernel
theorem dX8_keep_17 : decode cX8_keep 17 = .ok (.getfield 21, 3) := by decide +kernel
theorem dX8_keep_20 : decode cX8_keep 20 = .ok (.getfield 166, 3) := by decide +kernel
theorem dX8_keep_23 : decode cX8_keep 23 = .ok (.ireturn, 1) := by decide +kernel
theorem dX8_back_0 : decode cX8_back 0 = .ok (.aload_n 0, 1) := by decide +kernel
theorem dX8_back_1 : decode cX8_back 1 = .ok (.getfield 294, 3) := by decide +kernel
theorem dX8_back_4 : decode cX8_back 4 = .ok (.ifCond .ne 6, 3) := by decide +kernel
theorem dX8_back_7 : decode cX8_back 7 = .ok (.ldc 191, 2) := by decide +kernel
theorem dX8_back_9 : decode cX8_back 9 = .ok (.ireturn, 1) := by decide +kernel
theorem dX8_back_10 : decode cX8_back 10 = .ok (.aload_n 0, 1) := by decide +kernel
theorem dX8_back_11 : decode cX8_back 11 = .ok (.getfield 21, 3) := by decide +kernel
theorem dX8_back_14 : decode cX8_back 14 = .ok (.aload_n 0, 1) := by decide +kernel
theorem dX8_back_15 : decode cX8_back 15 = .ok (.getfield 25, 3) := by decide +kernel
theorem dX8_back_18 : decode cX8_back 18 = .ok (.invokevirtual 298, 3) := by decide +kernel
theorem dX8_back_21 : decode cX8_back 21 = .ok (.aload_n 0, 1) := by decide +kernel
theorem dX8_back_22 : decode cX8_back 22 = .ok (.getfield 21, 3) := by decide +kernel
theorem dX8_back_25 : decode cX8_back 25 = .ok (.getfield 166, 3) := by decide +kernel
theorem dX8_back_28 : decode cX8_back 28 = .ok (.ireturn, 1) := by decide +kernel
theorem dX8_count_0 : decode cX8_count 0 = .ok (.iload_n 1, 1) := by decide +kernel
theorem dX8_count_1 : decode cX8_count 1 = .ok (.tableswitch 134 0 9 #[55, 63, 71, 79, 87, 97, 105, 113, 118, 126], 55) := by decide +kernel
theorem dX8_count_56 : decode cX8_count 56 = .ok (.aload_n 0, 1) := by decide +kernel
theorem dX8_count_57 : decode cX8_count 57 = .ok (.getfield 21, 3) := by decide +kernel
theorem dX8_count_60 : decode cX8_count 60 = .ok (.getfield 192, 3) := by decide +kernel
theorem dX8_count_63 : decode cX8_count 63 = .ok (.ireturn, 1) := by decide +kernel
theorem dX8_count_64 : decode cX8_count 64 = .ok (.aload_n 0, 1) := by decide +kernel
theorem dX8_count_65 : decode cX8_count 65 = .ok (.getfield 21, 3) := by decide +kernel
theorem dX8_count_68 : decode cX8_count 68 = .ok (.getfield 166, 3) := by decide +kernel
theorem dX8_count_71 : decode cX8_count 71 = .ok (.ireturn, 1) := by decide +kernel
theorem dX8_count_72 : decode cX8_count 72 = .ok (.aload_n 0, 1) := by decide +kernel
theorem dX8_count_73 : decode cX8_count 73 = .ok (.getfield 21, 3) := by decide +kernel
theorem dX8_count_76 : decode cX8_count 76 = .ok (.invokevirtual 304, 3) := by decide +kernel
theorem dX8_count_79 : decode cX8_count 79 = .ok (.ireturn, 1) := by decide +kernel
theorem dX8_count_80 : decode cX8_count 80 = .ok (.aload_n 0, 1) := by decide +kernel
theorem dX8_count_81 : decode cX8_count 81 = .ok (.getfield 21, 3) := by decide +kernel
theorem dX8_count_84 : decode cX8_count 84 = .ok (.getfield 198, 3) := by decide +kernel
theorem dX8_count_87 : decode cX8_count 87 = .ok (.ireturn, 1) := by decide +kernel
theorem dX8_count_88 : decode cX8_count 88 = .ok (.aload_n 0, 1) := by decide +kernel
theorem dX8_count_89 : decode cX8_count 89 = .ok (.getfield 21, 3) := by decide +kernel
theorem dX8_count_92 : decode cX8_count 92 = .ok (.getfield 125, 3) := by decide +kernel
theorem dX8_count_95 : decode cX8_count 95 = .ok (.iconst 3, 1) := by decide +kernel
theorem dX8_count_96 : decode cX8_count 96 = .ok (.iaload, 1) := by decide +kernel
theorem dX8_count_97 : decode cX8_count 97 = .ok (.ireturn, 1) := by decide +kernel
theorem dX8_count_98 : decode cX8_count 98 = .ok (.aload_n 0, 1) := by decide +kernel
theorem dX8_count_99 : decode cX8_count 99 = .ok (.getfield 21, 3) := by decide +kernel
theorem dX8_count_102 : decode cX8_count 102 = .ok (.invokevirtual 307, 3) := by decide +kernel
theorem dX8_count_105 : decode cX8_count 105 = .ok (.ireturn, 1) := by decide +kernel
theorem dX8_count_106 : decode cX8_count 106 = .ok (.aload_n 0, 1) := by decide +kernel
theorem dX8_count_107 : decode cX8_count 107 = .ok (.getfield 21, 3) := by decide +kernel
theorem dX8_count_110 : decode cX8_count 110 = .ok (.getfield 211, 3) := by decide +kernel
theorem dX8_count_113 : decode cX8_count 113 = .ok (.ireturn, 1) := by decide +kernel
theorem dX8_count_114 : decode cX8_count 114 = .ok (.aload_n 0, 1) := by decide +kernel
theorem dX8_count_115 : decode cX8_count 115 = .ok (.getfield 291, 3) := by decide +kernel
theorem dX8_count_118 : decode cX8_count 118 = .ok (.ireturn, 1) := by decide +kernel
theorem dX8_count_119 : decode cX8_count 119 = .ok (.aload_n 0, 1) := by decide +kernel
theorem dX8_count_120 : decode cX8_count 120 = .ok (.getfield 34, 3) := by decide +kernel
theorem dX8_count_123 : decode cX8_count 123 = .ok (.getfield 201, 3) := by decide +kernel
theorem dX8_count_126 : decode cX8_count 126 = .ok (.ireturn, 1) := by decide +kernel
theorem dX8_count_127 : decode cX8_count 127 = .ok (.aload_n 0, 1) := by decide +kernel
theorem dX8_count_128 : decode cX8_count 128 = .ok (.getfield 21, 3) := by decide +kernel
theorem dX8_count_131 : decode cX8_count 131 = .ok (.getfield 134, 3) := by decide +kernel
theorem dX8_count_134 : decode cX8_count 134 = .ok (.ireturn, 1) := by decide +kernel
theorem dX8_count_135 : decode cX8_count 135 = .ok (.ldc 76, 2) := by decide +kernel
theorem dX8_count_137 : decode cX8_count 137 = .ok (.ireturn, 1) := by decide +kernel
theorem dX8_firstWrong_0 : decode cX8_firstWrong 0 = .ok (.iconst 0, 1) := by decide +kernel
theorem dX8_firstWrong_1 : decode cX8_firstWrong 1 = .ok (.istore_n 3, 1) := by decide +kernel
theorem dX8_firstWrong_2 : decode cX8_firstWrong 2 = .ok (.iconst 0, 1) := by decide +kernel
theorem dX8_firstWrong_3 : decode cX8_firstWrong 3 = .ok (.istore 4, 2) := by decide +kernel
theorem dX8_firstWrong_5 : decode cX8_firstWrong 5 = .ok (.iload 4, 2) := by decide +kernel
theorem dX8_firstWrong_7 : decode cX8_firstWrong 7 = .ok (.iload_n 1, 1) := by decide +kernel
theorem dX8_firstWrong_8 : decode cX8_firstWrong 8 = .ok (.if_icmp .ge 86, 3) := by decide +kernel
theorem dX8_firstWrong_11 : decode cX8_firstWrong 11 = .ok (.aload_n 0, 1) := by decide +kernel
theorem dX8_firstWrong_12 : decode cX8_firstWrong 12 = .ok (.getfield 28, 3) := by decide +kernel
theorem dX8_firstWrong_15 : decode cX8_firstWrong 15 = .ok (.getfield 192, 3) := by decide +kernel
theorem dX8_firstWrong_18 : decode cX8_firstWrong 18 = .ok (.sipush 9999, 3) := by decide +kernel
theorem dX8_firstWrong_21 : decode cX8_firstWrong 21 = .ok (.if_icmp .ge 73, 3) := by decide +kernel
theorem dX8_firstWrong_24 : decode cX8_firstWrong 24 = .ok (.iload_n 3, 1) := by decide +kernel
theorem dX8_firstWrong_25 : decode cX8_firstWrong 25 = .ok (.iload_n 2, 1) := by decide +kernel
theorem dX8_firstWrong_26 : decode cX8_firstWrong 26 = .ok (.if_icmp .ge 20, 3) := by decide +kernel
theorem dX8_firstWrong_29 : decode cX8_firstWrong 29 = .ok (.aload_n 0, 1) := by decide +kernel
theorem dX8_firstWrong_30 : decode cX8_firstWrong 30 = .ok (.getfield 59, 3) := by decide +kernel
theorem dX8_firstWrong_33 : decode cX8_firstWrong 33 = .ok (.iload_n 3, 1) := by decide +kernel
theorem dX8_firstWrong_34 : decode cX8_firstWrong 34 = .ok (.iaload, 1) := by decide +kernel
theorem dX8_firstWrong_35 : decode cX8_firstWrong 35 = .ok (.aload_n 0, 1) := by decide +kernel
theorem dX8_firstWrong_36 : decode cX8_firstWrong 36 = .ok (.getfield 28, 3) := by decide +kernel
theorem dX8_firstWrong_39 : decode cX8_firstWrong 39 = .ok (.iconst 0, 1) := by decide +kernel
theorem dX8_firstWrong_40 : decode cX8_firstWrong 40 = .ok (.invokevirtual 131, 3) := by decide +kernel
theorem dX8_firstWrong_43 : decode cX8_firstWrong 43 = .ok (.if_icmp .eq 7, 3) := by decide +kernel
theorem dX8_firstWrong_46 : decode cX8_firstWrong 46 = .ok (.iload_n 3, 1) := by decide +kernel
theorem dX8_firstWrong_47 : decode cX8_firstWrong 47 = .ok (.iconst 1, 1) := by decide +kernel
theorem dX8_firstWrong_48 : decode cX8_firstWrong 48 = .ok (.iadd, 1) := by decide +kernel
theorem dX8_firstWrong_49 : decode cX8_firstWrong 49 = .ok (.ireturn, 1) := by decide +kernel
theorem dX8_firstWrong_50 : decode cX8_firstWrong 50 = .ok (.iinc 3 1, 3) := by decide +kernel
theorem dX8_firstWrong_53 : decode cX8_firstWrong 53 = .ok (.aload_n 0, 1) := by decide +kernel
theorem dX8_firstWrong_54 : decode cX8_firstWrong 54 = .ok (.getfield 28, 3) := by decide +kernel
theorem dX8_firstWrong_57 : decode cX8_firstWrong 57 = .ok (.invokevirtual 195, 3) := by decide +kernel
theorem dX8_firstWrong_60 : decode cX8_firstWrong 60 = .ok (.iload_n 3, 1) := by decide +kernel
theorem dX8_firstWrong_61 : decode cX8_firstWrong 61 = .ok (.iload_n 2, 1) := by decide +kernel
theorem dX8_firstWrong_62 : decode cX8_firstWrong 62 = .ok (.if_icmp .ge 19, 3) := by decide +kernel
theorem dX8_firstWrong_65 : decode cX8_firstWrong 65 = .ok (.aload_n 0, 1) := by decide +kernel
theorem dX8_firstWrong_66 : decode cX8_firstWrong 66 = .ok (.getfield 59, 3) := by decide +kernel
theorem dX8_firstWrong_69 : decode cX8_firstWrong 69 = .ok (.iload_n 3, 1) := by decide +kernel
theorem dX8_firstWrong_70 : decode cX8_firstWrong 70 = .ok (.iaload, 1) := by decide +kernel
theorem dX8_firstWrong_71 : decode cX8_firstWrong 71 = .ok (.aload_n 0, 1) := by decide +kernel
theorem dX8_firstWrong_72 : decode cX8_firstWrong 72 = .ok (.getfield 28, 3) := by decide +kernel
theorem dX8_firstWrong_75 : decode cX8_firstWrong 75 = .ok (.invokevirtual 304, 3) := by decide +kernel
theorem dX8_firstWrong_78 : decode cX8_firstWrong 78 = .ok (.if_icmp .eq 7, 3) := by decide +kernel
theorem dX8_firstWrong_81 : decode cX8_firstWrong 81 = .ok (.iload_n 3, 1) := by decide +kernel
theorem dX8_firstWrong_82 : decode cX8_firstWrong 82 = .ok (.iconst 1, 1) := by decide +kernel
theorem dX8_firstWrong_83 : decode cX8_firstWrong 83 = .ok (.iadd, 1) := by decide +kernel
theorem dX8_firstWrong_84 : decode cX8_firstWrong 84 = .ok (.ireturn, 1) := by decide +kernel
theorem dX8_firstWrong_85 : decode cX8_firstWrong 85 = .ok (.iinc 3 1, 3) := by decide +kernel
theorem dX8_firstWrong_88 : decode cX8_firstWrong 88 = .ok (.iinc 4 1, 3) := by decide +kernel
theorem dX8_firstWrong_91 : decode cX8_firstWrong 91 = .ok (.goto (-86), 3) := by decide +kernel
theorem dX8_firstWrong_94 : decode cX8_firstWrong 94 = .ok (.iload_n 3, 1) := by decide +kernel
theorem dX8_firstWrong_95 : decode cX8_firstWrong 95 = .ok (.iload_n 2, 1) := by decide +kernel
theorem dX8_firstWrong_96 : decode cX8_firstWrong 96 = .ok (.if_icmp .ge 9, 3) := by decide +kernel
theorem dX8_firstWrong_99 : decode cX8_firstWrong 99 = .ok (.iload_n 3, 1) := by decide +kernel
theorem dX8_firstWrong_100 : decode cX8_firstWrong 100 = .ok (.iconst 1, 1) := by decide +kernel
theorem dX8_firstWrong_101 : decode cX8_firstWrong 101 = .ok (.iadd, 1) := by decide +kernel
theorem dX8_firstWrong_102 : decode cX8_firstWrong 102 = .ok (.goto 4, 3) := by decide +kernel
theorem dX8_firstWrong_105 : decode cX8_firstWrong 105 = .ok (.iconst 0, 1) := by decide +kernel
theorem dX8_firstWrong_106 : decode cX8_firstWrong 106 = .ok (.ireturn, 1) := by decide +kernel
theorem dX8_isHouse_0 : decode cX8_isHouse 0 = .ok (.iload_n 1, 1) := by decide +kernel
theorem dX8_isHouse_1 : decode cX8_isHouse 1 = .ok (.iconst 0, 1) := by decide +kernel
theorem dX8_isHouse_2 : decode cX8_isHouse 2 = .ok (.aload_n 0, 1) := by decide +kernel
theorem dX8_isHouse_3 : decode cX8_isHouse 3 = .ok (.getfield 21, 3) := by decide +kernel
theorem dX8_isHouse_6 : decode cX8_isHouse 6 = .ok (.getfield 166, 3) := by decide +kernel
theorem dX8_isHouse_9 : decode cX8_isHouse 9 = .ok (.iconst 1, 1) := by decide +kernel
theorem dX8_isHouse_10 : decode cX8_isHouse 10 = .ok (.isub, 1) := by decide +kernel
theorem dX8_isHouse_11 : decode cX8_isHouse 11 = .ok (.invokestatic 72, 3) := by decide +kernel
theorem dX8_isHouse_14 : decode cX8_isHouse 14 = .ok (.ireturn, 1) := by decide +kernel
theorem dX8_isCell_0 : decode cX8_isCell 0 = .ok (.iload_n 0, 1) := by decide +kernel
theorem dX8_isCell_1 : decode cX8_isCell 1 = .ok (.iconst 0, 1) := by decide +kernel
theorem dX8_isCell_2 : decode cX8_isCell 2 = .ok (.bipush 29, 2) := by decide +kernel
theorem dX8_isCell_4 : decode cX8_isCell 4 = .ok (.invokestatic 72, 3) := by decide +kernel
theorem dX8_isCell_7 : decode cX8_isCell 7 = .ok (.ireturn, 1) := by decide +kernel
theorem dX8_isKind_0 : decode cX8_isKind 0 = .ok (.iload_n 0, 1) := by decide +kernel
theorem dX8_isKind_1 : decode cX8_isKind 1 = .ok (.iconst 0, 1) := by decide +kernel
theorem dX8_isKind_2 : decode cX8_isKind 2 = .ok (.iconst 5, 1) := by decide +kernel
theorem dX8_isKind_3 : decode cX8_isKind 3 = .ok (.invokestatic 72, 3) := by decide +kernel
theorem dX8_isKind_6 : decode cX8_isKind 6 = .ok (.ireturn, 1) := by decide +kernel
theorem dX8_isOwner_0 : decode cX8_isOwner 0 = .ok (.iload_n 0, 1) := by decide +kernel
theorem dX8_isOwner_1 : decode cX8_isOwner 1 = .ok (.iconst 0, 1) := by decide +kernel
theorem dX8_isOwner_2 : decode cX8_isOwner 2 = .ok (.bipush 7, 2) := by decide +kernel
theorem dX8_isOwner_4 : decode cX8_isOwner 4 = .ok (.invokestatic 72, 3) := by decide +kernel
theorem dX8_isOwner_7 : decode cX8_isOwner 7 = .ok (.ireturn, 1) := by decide +kernel
theorem dX8_areHoursOn_0 : decode cX8_areHoursOn 0 = .ok (.iload_n 0, 1) := by decide +kernel
theorem dX8_areHoursOn_1 : decode cX8_areHoursOn 1 = .ok (.iconst 0, 1) := by decide +kernel
theorem dX8_areHoursOn_2 : decode cX8_areHoursOn 2 = .ok (.sipush 199, 3) := by decide +kernel
theorem dX8_areHoursOn_5 : decode cX8_areHoursOn 5 = .ok (.invokestatic 72, 3) := by decide +kernel
theorem dX8_areHoursOn_8 : decode cX8_areHoursOn 8 = .ok (.ireturn, 1) := by decide +kernel
theorem dX8_isSheet_0 : decode cX8_isSheet 0 = .ok (.iload_n 0, 1) := by decide +kernel
theorem dX8_isSheet_1 : decode cX8_isSheet 1 = .ok (.iconst 0, 1) := by decide +kernel
theorem dX8_isSheet_2 : decode cX8_isSheet 2 = .ok (.iconst 3, 1) := by decide +kernel
theorem dX8_isSheet_3 : decode cX8_isSheet 3 = .ok (.invokestatic 72, 3) := by decide +kernel
theorem dX8_isSheet_6 : decode cX8_isSheet 6 = .ok (.ireturn, 1) := by decide +kernel
theorem dX8_isSlot_0 : decode cX8_isSlot 0 = .ok (.iload_n 0, 1) := by decide +kernel
theorem dX8_isSlot_1 : decode cX8_isSlot 1 = .ok (.iconst 0, 1) := by decide +kernel
theorem dX8_isSlot_2 : decode cX8_isSlot 2 = .ok (.iconst 4, 1) := by decide +kernel
theorem dX8_isSlot_3 : decode cX8_isSlot 3 = .ok (.invokestatic 72, 3) := by decide +kernel
theorem dX8_isSlot_6 : decode cX8_isSlot 6 = .ok (.ireturn, 1) := by decide +kernel
theorem dX8_within_0 : decode cX8_within 0 = .ok (.iload_n 0, 1) := by decide +kernel
theorem dX8_within_1 : decode cX8_within 1 = .ok (.iload_n 1, 1) := by decide +kernel
theorem dX8_within_2 : decode cX8_within 2 = .ok (.if_icmp .lt 12, 3) := by decide +kernel
theorem dX8_within_5 : decode cX8_within 5 = .ok (.iload_n 0, 1) := by decide +kernel
theorem dX8_within_6 : decode cX8_within 6 = .ok (.iload_n 2, 1) := by decide +kernel
theorem dX8_within_7 : decode cX8_within 7 = .ok (.if_icmp .gt 7, 3) := by decide +kernel
theorem dX8_within_10 : decode cX8_within 10 = .ok (.iconst 1, 1) := by decide +kernel
theorem dX8_within_11 : decode cX8_within 11 = .ok (.goto 4, 3) := by decide +kernel
theorem dX8_within_14 : decode cX8_within 14 = .ok (.iconst 0, 1) := by decide +kernel
theorem dX8_within_15 : decode cX8_within 15 = .ok (.ireturn, 1) := by decide +kernel
theorem dX8_hold_0 : decode cX8_hold 0 = .ok (.iload_n 1, 1) := by decide +kernel
theorem dX8_hold_1 : decode cX8_hold 1 = .ok (.iload_n 2, 1) := by decide +kernel
theorem dX8_hold_2 : decode cX8_hold 2 = .ok (.iload_n 0, 1) := by decide +kernel
theorem dX8_hold_3 : decode cX8_hold 3 = .ok (.invokestatic 310, 3) := by decide +kernel
theorem dX8_hold_6 : decode cX8_hold 6 = .ok (.invokestatic 315, 3) := by decide +kernel
theorem dX8_hold_9 : decode cX8_hold 9 = .ok (.ireturn, 1) := by decide +kernel
theorem dJ6_bitCount_0f7a4_0 : decode cJ6_bitCount_0f7a4 0 = .ok (.iload_n 0, 1) := by decide +kernel
theorem dJ6_bitCount_0f7a4_1 : decode cJ6_bitCount_0f7a4 1 = .ok (.iload_n 0, 1) := by decide +kernel
theorem dJ6_bitCount_0f7a4_2 : decode cJ6_bitCount_0f7a4 2 = .ok (.iconst 1, 1) := by decide +kernel
theorem dJ6_bitCount_0f7a4_3 : decode cJ6_bitCount_0f7a4 3 = .ok (.iushr, 1) := by decide +kernel
theorem dJ6_bitCount_0f7a4_4 : decode cJ6_bitCount_0f7a4 4 = .ok (.ldc_w 265, 3) := by decide +kernel
theorem dJ6_bitCount_0f7a4_7 : decode cJ6_bitCount_0f7a4 7 = .ok (.iand, 1) := by decide +kernel
theorem dJ6_bitCount_0f7a4_8 : decode cJ6_bitCount_0f7a4 8 = .ok (.isub, 1) := by decide +kernel
theorem dJ6_bitCount_0f7a4_9 : decode cJ6_bitCount_0f7a4 9 = .ok (.istore_n 0, 1) := by decide +kernel
theorem dJ6_bitCount_0f7a4_10 : decode cJ6_bitCount_0f7a4 10 = .ok (.iload_n 0, 1) := by decide +kernel
theorem dJ6_bitCount_0f7a4_11 : decode cJ6_bitCount_0f7a4 11 = .ok (.ldc_w 266, 3) := by decide +kernel
theorem dJ6_bitCount_0f7a4_14 : decode cJ6_bitCount_0f7a4 14 = .ok (.iand, 1) := by decide +kernel
theorem dJ6_bitCount_0f7a4_15 : decode cJ6_bitCount_0f7a4 15 = .ok (.iload_n 0, 1) := by decide +kernel
theorem dJ6_bitCount_0f7a4_16 : decode cJ6_bitCount_0f7a4 16 = .ok (.iconst 2, 1) := by decide +kernel
theorem dJ6_bitCount_0f7a4_17 : decode cJ6_bitCount_0f7a4 17 = .ok (.iushr, 1) := by decide +kernel
theorem dJ6_bitCount_0f7a4_18 : decode cJ6_bitCount_0f7a4 18 = .ok (.ldc_w 266, 3) := by decide +kernel
theorem dJ6_bitCount_0f7a4_21 : decode cJ6_bitCount_0f7a4 21 = .ok (.iand, 1) := by decide +kernel
theorem dJ6_bitCount_0f7a4_22 : decode cJ6_bitCount_0f7a4 22 = .ok (.iadd, 1) := by decide +kernel
theorem dJ6_bitCount_0f7a4_23 : decode cJ6_bitCount_0f7a4 23 = .ok (.istore_n 0, 1) := by decide +kernel
theorem dJ6_bitCount_0f7a4_24 : decode cJ6_bitCount_0f7a4 24 = .ok (.iload_n 0, 1) := by decide +kernel
theorem dJ6_bitCount_0f7a4_25 : decode cJ6_bitCount_0f7a4 25 = .ok (.iload_n 0, 1) := by decide +kernel
theorem dJ6_bitCount_0f7a4_26 : decode cJ6_bitCount_0f7a4 26 = .ok (.iconst 4, 1) := by decide +kernel
theorem dJ6_bitCount_0f7a4_27 : decode cJ6_bitCount_0f7a4 27 = .ok (.iushr, 1) := by decide +kernel
theorem dJ6_bitCount_0f7a4_28 : decode cJ6_bitCount_0f7a4 28 = .ok (.iadd, 1) := by decide +kernel
theorem dJ6_bitCount_0f7a4_29 : decode cJ6_bitCount_0f7a4 29 = .ok (.ldc_w 267, 3) := by decide +kernel
theorem dJ6_bitCount_0f7a4_32 : decode cJ6_bitCount_0f7a4 32 = .ok (.iand, 1) := by decide +kernel
theorem dJ6_bitCount_0f7a4_33 : decode cJ6_bitCount_0f7a4 33 = .ok (.istore_n 0, 1) := by decide +kernel
theorem dJ6_bitCount_0f7a4_34 : decode cJ6_bitCount_0f7a4 34 = .ok (.iload_n 0, 1) := by decide +kernel
theorem dJ6_bitCount_0f7a4_35 : decode cJ6_bitCount_0f7a4 35 = .ok (.iload_n 0, 1) := by decide +kernel
theorem dJ6_bitCount_0f7a4_36 : decode cJ6_bitCount_0f7a4 36 = .ok (.bipush 8, 2) := by decide +kernel
theorem dJ6_bitCount_0f7a4_38 : decode cJ6_bitCount_0f7a4 38 = .ok (.iushr, 1) := by decide +kernel
theorem dJ6_bitCount_0f7a4_39 : decode cJ6_bitCount_0f7a4 39 = .ok (.iadd, 1) := by decide +kernel
theorem dJ6_bitCount_0f7a4_40 : decode cJ6_bitCount_0f7a4 40 = .ok (.istore_n 0, 1) := by decide +kernel
theorem dJ6_bitCount_0f7a4_41 : decode cJ6_bitCount_0f7a4 41 = .ok (.iload_n 0, 1) := by decide +kernel
theorem dJ6_bitCount_0f7a4_42 : decode cJ6_bitCount_0f7a4 42 = .ok (.iload_n 0, 1) := by decide +kernel
theorem dJ6_bitCount_0f7a4_43 : decode cJ6_bitCount_0f7a4 43 = .ok (.bipush 16, 2) := by decide +kernel
theorem dJ6_bitCount_0f7a4_45 : decode cJ6_bitCount_0f7a4 45 = .ok (.iushr, 1) := by decide +kernel
theorem dJ6_bitCount_0f7a4_46 : decode cJ6_bitCount_0f7a4 46 = .ok (.iadd, 1) := by decide +kernel
theorem dJ6_bitCount_0f7a4_47 : decode cJ6_bitCount_0f7a4 47 = .ok (.istore_n 0, 1) := by decide +kernel
theorem dJ6_bitCount_0f7a4_48 : decode cJ6_bitCount_0f7a4 48 = .ok (.iload_n 0, 1) := by decide +kernel
theorem dJ6_bitCount_0f7a4_49 : decode cJ6_bitCount_0f7a4 49 = .ok (.bipush 63, 2) := by decide +kernel
theorem dJ6_bitCount_0f7a4_51 : decode cJ6_bitCount_0f7a4 51 = .ok (.iand, 1) := by decide +kernel
theorem dJ6_bitCount_0f7a4_52 : decode cJ6_bitCount_0f7a4 52 = .ok (.ireturn, 1) := by decide +kernel
theorem dJ9_max_7cf53_0 : decode cJ9_max_7cf53 0 = .ok (.iload_n 0, 1) := by decide +kernel
theorem dJ9_max_7cf53_1 : decode cJ9_max_7cf53 1 = .ok (.iload_n 1, 1) := by decide +kernel
theorem dJ9_max_7cf53_2 : decode cJ9_max_7cf53 2 = .ok (.if_icmp .lt 7, 3) := by decide +kernel
theorem dJ9_max_7cf53_5 : decode cJ9_max_7cf53 5 = .ok (.iload_n 0, 1) := by decide +kernel
theorem dJ9_max_7cf53_6 : decode cJ9_max_7cf53 6 = .ok (.goto 4, 3) := by decide +kernel
theorem dJ9_max_7cf53_9 : decode cJ9_max_7cf53 9 = .ok (.iload_n 1, 1) := by decide +kernel
theorem dJ9_max_7cf53_10 : decode cJ9_max_7cf53 10 = .ok (.ireturn, 1) := by decide +kernel
theorem dJ9_min_7cf53_0 : decode cJ9_min_7cf53 0 = .ok (.iload_n 0, 1) := by decide +kernel
theorem dJ9_min_7cf53_1 : decode cJ9_min_7cf53 1 = .ok (.iload_n 1, 1) := by decide +kernel
theorem dJ9_min_7cf53_2 : decode cJ9_min_7cf53 2 = .ok (.if_icmp .gt 7, 3) := by decide +kernel
theorem dJ9_min_7cf53_5 : decode cJ9_min_7cf53 5 = .ok (.iload_n 0, 1) := by decide +kernel
theorem dJ9_min_7cf53_6 : decode cJ9_min_7cf53 6 = .ok (.goto 4, 3) := by decide +kernel
theorem dJ9_min_7cf53_9 : decode cJ9_min_7cf53 9 = .ok (.iload_n 1, 1) := by decide +kernel
theorem dJ9_min_7cf53_10 : decode cJ9_min_7cf53 10 = .ok (.ireturn, 1) := by decide +kernel
theorem dJ0_length_8abf5_0 : decode cJ0_length_8abf5 0 = .ok (.aload_n 0, 1) := by decide +kernel
theorem dJ0_length_8abf5_1 : decode cJ0_length_8abf5 1 = .ok (.getfield 9, 3) := by decide +kernel
theorem dJ0_length_8abf5_4 : decode cJ0_length_8abf5 4 = .ok (.arraylength, 1) := by decide +kernel
theorem dJ0_length_8abf5_5 : decode cJ0_length_8abf5 5 = .ok (.aload_n 0, 1) := by decide +kernel
theorem dJ0_length_8abf5_6 : decode cJ0_length_8abf5 6 = .ok (.invokevirtual 335, 3) := by decide +kernel
theorem dJ0_length_8abf5_9 : decode cJ0_length_8abf5 9 = .ok (.ishr, 1) := by decide +kernel
theorem dJ0_length_8abf5_10 : decode cJ0_length_8abf5 10 = .ok (.ireturn, 1) := by decide +kernel
theorem dJ0_charAt_5068e_0 : decode cJ0_charAt_5068e 0 = .ok (.aload_n 0, 1) := by decide +kernel
theorem dJ0_charAt_5068e_1 : decode cJ0_charAt_5068e 1 = .ok (.invokevirtual 492, 3) := by decide +kernel
theorem dJ0_charAt_5068e_4 : decode cJ0_charAt_5068e 4 = .ok (.ifCond .eq 12, 3) := by decide +kernel
theorem dJ0_charAt_5068e_7 : decode cJ0_charAt_5068e 7 = .ok (.aload_n 0, 1) := by decide +kernel
theorem dJ0_charAt_5068e_8 : decode cJ0_charAt_5068e 8 = .ok (.getfield 9, 3) := by decide +kernel
theorem dJ0_charAt_5068e_11 : decode cJ0_charAt_5068e 11 = .ok (.iload_n 1, 1) := by decide +kernel
theorem dJ0_charAt_5068e_12 : decode cJ0_charAt_5068e 12 = .ok (.invokestatic 495, 3) := by decide +kernel
theorem dJ0_charAt_5068e_15 : decode cJ0_charAt_5068e 15 = .ok (.ireturn, 1) := by decide +kernel
theorem dJ0_charAt_5068e_16 : decode cJ0_charAt_5068e 16 = .ok (.aload_n 0, 1) := by decide +kernel
theorem dJ0_charAt_5068e_17 : decode cJ0_charAt_5068e 17 = .ok (.getfield 9, 3) := by decide +kernel
theorem dJ0_charAt_5068e_20 : decode cJ0_charAt_5068e 20 = .ok (.iload_n 1, 1) := by decide +kernel
theorem dJ0_charAt_5068e_21 : decode cJ0_charAt_5068e 21 = .ok (.invokestatic 498, 3) := by decide +kernel
theorem dJ0_charAt_5068e_24 : decode cJ0_charAt_5068e 24 = .ok (.ireturn, 1) := by decide +kernel
theorem dJ0_indexOf_0f7a4_0 : decode cJ0_indexOf_0f7a4 0 = .ok (.aload_n 0, 1) := by decide +kernel
theorem dJ0_indexOf_0f7a4_1 : decode cJ0_indexOf_0f7a4 1 = .ok (.iload_n 1, 1) := by decide +kernel
theorem dJ0_indexOf_0f7a4_2 : decode cJ0_indexOf_0f7a4 2 = .ok (.iconst 0, 1) := by decide +kernel
theorem dJ0_indexOf_0f7a4_3 : decode cJ0_indexOf_0f7a4 3 = .ok (.invokevirtual 633, 3) := by decide +kernel
theorem dJ0_indexOf_0f7a4_6 : decode cJ0_indexOf_0f7a4 6 = .ok (.ireturn, 1) := by decide +kernel
theorem dJ0_indexOf_7cf53_0 : decode cJ0_indexOf_7cf53 0 = .ok (.aload_n 0, 1) := by decide +kernel
theorem dJ0_indexOf_7cf53_1 : decode cJ0_indexOf_7cf53 1 = .ok (.invokevirtual 492, 3) := by decide +kernel
theorem dJ0_indexOf_7cf53_4 : decode cJ0_indexOf_7cf53 4 = .ok (.ifCond .eq 19, 3) := by decide +kernel
theorem dJ0_indexOf_7cf53_7 : decode cJ0_indexOf_7cf53 7 = .ok (.aload_n 0, 1) := by decide +kernel
theorem dJ0_indexOf_7cf53_8 : decode cJ0_indexOf_7cf53 8 = .ok (.getfield 9, 3) := by decide +kernel
theorem dJ0_indexOf_7cf53_11 : decode cJ0_indexOf_7cf53 11 = .ok (.iload_n 1, 1) := by decide +kernel
theorem dJ0_indexOf_7cf53_12 : decode cJ0_indexOf_7cf53 12 = .ok (.iload_n 2, 1) := by decide +kernel
theorem dJ0_indexOf_7cf53_13 : decode cJ0_indexOf_7cf53 13 = .ok (.aload_n 0, 1) := by decide +kernel
theorem dJ0_indexOf_7cf53_14 : decode cJ0_indexOf_7cf53 14 = .ok (.invokevirtual 505, 3) := by decide +kernel
theorem dJ0_indexOf_7cf53_17 : decode cJ0_indexOf_7cf53 17 = .ok (.invokestatic 637, 3) := by decide +kernel
theorem dJ0_indexOf_7cf53_20 : decode cJ0_indexOf_7cf53 20 = .ok (.goto 16, 3) := by decide +kernel
theorem dJ0_indexOf_7cf53_23 : decode cJ0_indexOf_7cf53 23 = .ok (.aload_n 0, 1) := by decide +kernel
theorem dJ0_indexOf_7cf53_24 : decode cJ0_indexOf_7cf53 24 = .ok (.getfield 9, 3) := by decide +kernel
theorem dJ0_indexOf_7cf53_27 : decode cJ0_indexOf_7cf53 27 = .ok (.iload_n 1, 1) := by decide +kernel
theorem dJ0_indexOf_7cf53_28 : decode cJ0_indexOf_7cf53 28 = .ok (.iload_n 2, 1) := by decide +kernel
theorem dJ0_indexOf_7cf53_29 : decode cJ0_indexOf_7cf53 29 = .ok (.aload_n 0, 1) := by decide +kernel
theorem dJ0_indexOf_7cf53_30 : decode cJ0_indexOf_7cf53 30 = .ok (.invokevirtual 505, 3) := by decide +kernel
theorem dJ0_indexOf_7cf53_33 : decode cJ0_indexOf_7cf53 33 = .ok (.invokestatic 640, 3) := by decide +kernel
theorem dJ0_indexOf_7cf53_36 : decode cJ0_indexOf_7cf53 36 = .ok (.ireturn, 1) := by decide +kernel
theorem dJ0_coder_7d493_0 : decode cJ0_coder_7d493 0 = .ok (.getstatic 38, 3) := by decide +kernel
theorem dJ0_coder_7d493_3 : decode cJ0_coder_7d493 3 = .ok (.ifCond .eq 10, 3) := by decide +kernel
theorem dJ0_coder_7d493_6 : decode cJ0_coder_7d493 6 = .ok (.aload_n 0, 1) := by decide +kernel
theorem dJ0_coder_7d493_7 : decode cJ0_coder_7d493 7 = .ok (.getfield 15, 3) := by decide +kernel
theorem dJ0_coder_7d493_10 : decode cJ0_coder_7d493 10 = .ok (.goto 4, 3) := by decide +kernel
theorem dJ0_coder_7d493_13 : decode cJ0_coder_7d493 13 = .ok (.iconst 1, 1) := by decide +kernel
theorem dJ0_coder_7d493_14 : decode cJ0_coder_7d493 14 = .ok (.ireturn, 1) := by decide +kernel
theorem dJ0_isLatin1_aae02_0 : decode cJ0_isLatin1_aae02 0 = .ok (.getstatic 38, 3) := by decide +kernel
theorem dJ0_isLatin1_aae02_3 : decode cJ0_isLatin1_aae02 3 = .ok (.ifCond .eq 14, 3) := by decide +kernel
theorem dJ0_isLatin1_aae02_6 : decode cJ0_isLatin1_aae02 6 = .ok (.aload_n 0, 1) := by decide +kernel
theorem dJ0_isLatin1_aae02_7 : decode cJ0_isLatin1_aae02 7 = .ok (.getfield 15, 3) := by decide +kernel
theorem dJ0_isLatin1_aae02_10 : decode cJ0_isLatin1_aae02 10 = .ok (.ifCond .ne 7, 3) := by decide +kernel
theorem dJ0_isLatin1_aae02_13 : decode cJ0_isLatin1_aae02 13 = .ok (.iconst 1, 1) := by decide +kernel
theorem dJ0_isLatin1_aae02_14 : decode cJ0_isLatin1_aae02 14 = .ok (.goto 4, 3) := by decide +kernel
theorem dJ0_isLatin1_aae02_17 : decode cJ0_isLatin1_aae02 17 = .ok (.iconst 0, 1) := by decide +kernel
theorem dJ0_isLatin1_aae02_18 : decode cJ0_isLatin1_aae02 18 = .ok (.ireturn, 1) := by decide +kernel
theorem dJ0_checkIndex_df160_0 : decode cJ0_checkIndex_df160 0 = .ok (.iload_n 0, 1) := by decide +kernel
theorem dJ0_checkIndex_df160_1 : decode cJ0_checkIndex_df160 1 = .ok (.iload_n 1, 1) := by decide +kernel
theorem dJ0_checkIndex_df160_2 : decode cJ0_checkIndex_df160 2 = .ok (.getstatic 1053, 3) := by decide +kernel
theorem dJ0_checkIndex_df160_5 : decode cJ0_checkIndex_df160 5 = .ok (.invokestatic 1059, 3) := by decide +kernel
theorem dJ0_checkIndex_df160_8 : decode cJ0_checkIndex_df160 8 = .ok (.pop, 1) := by decide +kernel
theorem dJ0_checkIndex_df160_9 : decode cJ0_checkIndex_df160 9 = .ok (.return_, 1) := by decide +kernel
theorem dJ1_charAt_3b067_0 : decode cJ1_charAt_3b067 0 = .ok (.iload_n 1, 1) := by decide +kernel
theorem dJ1_charAt_3b067_1 : decode cJ1_charAt_3b067 1 = .ok (.aload_n 0, 1) := by decide +kernel
theorem dJ1_charAt_3b067_2 : decode cJ1_charAt_3b067 2 = .ok (.arraylength, 1) := by decide +kernel
theorem dJ1_charAt_3b067_3 : decode cJ1_charAt_3b067 3 = .ok (.invokestatic 9, 3) := by decide +kernel
theorem dJ1_charAt_3b067_6 : decode cJ1_charAt_3b067 6 = .ok (.aload_n 0, 1) := by decide +kernel
theorem dJ1_charAt_3b067_7 : decode cJ1_charAt_3b067 7 = .ok (.iload_n 1, 1) := by decide +kernel
theorem dJ1_charAt_3b067_8 : decode cJ1_charAt_3b067 8 = .ok (.baload, 1) := by decide +kernel
theorem dJ1_charAt_3b067_9 : decode cJ1_charAt_3b067 9 = .ok (.sipush 255, 3) := by decide +kernel
theorem dJ1_charAt_3b067_12 : decode cJ1_charAt_3b067 12 = .ok (.iand, 1) := by decide +kernel
theorem dJ1_charAt_3b067_13 : decode cJ1_charAt_3b067 13 = .ok (.i2c, 1) := by decide +kernel
theorem dJ1_charAt_3b067_14 : decode cJ1_charAt_3b067 14 = .ok (.ireturn, 1) := by decide +kernel
theorem dJ1_canEncode_9a6ad_0 : decode cJ1_canEncode_9a6ad 0 = .ok (.iload_n 0, 1) := by decide +kernel
theorem dJ1_canEncode_9a6ad_1 : decode cJ1_canEncode_9a6ad 1 = .ok (.ifCond .lt 14, 3) := by decide +kernel
theorem dJ1_canEncode_9a6ad_4 : decode cJ1_canEncode_9a6ad 4 = .ok (.iload_n 0, 1) := by decide +kernel
theorem dJ1_canEncode_9a6ad_5 : decode cJ1_canEncode_9a6ad 5 = .ok (.sipush 255, 3) := by decide +kernel
theorem dJ1_canEncode_9a6ad_8 : decode cJ1_canEncode_9a6ad 8 = .ok (.if_icmp .gt 7, 3) := by decide +kernel
theorem dJ1_canEncode_9a6ad_11 : decode cJ1_canEncode_9a6ad 11 = .ok (.iconst 1, 1) := by decide +kernel
theorem dJ1_canEncode_9a6ad_12 : decode cJ1_canEncode_9a6ad 12 = .ok (.goto 4, 3) := by decide +kernel
theorem dJ1_canEncode_9a6ad_15 : decode cJ1_canEncode_9a6ad 15 = .ok (.iconst 0, 1) := by decide +kernel
theorem dJ1_canEncode_9a6ad_16 : decode cJ1_canEncode_9a6ad 16 = .ok (.ireturn, 1) := by decide +kernel
theorem dJ1_indexOf_4cfef_0 : decode cJ1_indexOf_4cfef 0 = .ok (.iload_n 1, 1) := by decide +kernel
theorem dJ1_indexOf_4cfef_1 : decode cJ1_indexOf_4cfef 1 = .ok (.invokestatic 88, 3) := by decide +kernel
theorem dJ1_indexOf_4cfef_4 : decode cJ1_indexOf_4cfef 4 = .ok (.ifCond .ne 5, 3) := by decide +kernel
theorem dJ1_indexOf_4cfef_7 : decode cJ1_indexOf_4cfef 7 = .ok (.iconst (-1), 1) := by decide +kernel
theorem dJ1_indexOf_4cfef_8 : decode cJ1_indexOf_4cfef 8 = .ok (.ireturn, 1) := by decide +kernel
theorem dJ1_indexOf_4cfef_9 : decode cJ1_indexOf_4cfef 9 = .ok (.iload_n 2, 1) := by decide +kernel
theorem dJ1_indexOf_4cfef_10 : decode cJ1_indexOf_4cfef 10 = .ok (.iconst 0, 1) := by decide +kernel
theorem dJ1_indexOf_4cfef_11 : decode cJ1_indexOf_4cfef 11 = .ok (.invokestatic 92, 3) := by decide +kernel
theorem dJ1_indexOf_4cfef_14 : decode cJ1_indexOf_4cfef 14 = .ok (.istore_n 2, 1) := by decide +kernel
theorem dJ1_indexOf_4cfef_15 : decode cJ1_indexOf_4cfef 15 = .ok (.iload_n 3, 1) := by decide +kernel
theorem dJ1_indexOf_4cfef_16 : decode cJ1_indexOf_4cfef 16 = .ok (.aload_n 0, 1) := by decide +kernel
theorem dJ1_indexOf_4cfef_17 : decode cJ1_indexOf_4cfef 17 = .ok (.arraylength, 1) := by decide +kernel
theorem dJ1_indexOf_4cfef_18 : decode cJ1_indexOf_4cfef 18 = .ok (.invokestatic 38, 3) := by decide +kernel
theorem dJ1_indexOf_4cfef_21 : decode cJ1_indexOf_4cfef 21 = .ok (.istore_n 3, 1) := by decide +kernel
theorem dJ1_indexOf_4cfef_22 : decode cJ1_indexOf_4cfef 22 = .ok (.iload_n 2, 1) := by decide +kernel
theorem dJ1_indexOf_4cfef_23 : decode cJ1_indexOf_4cfef 23 = .ok (.iload_n 3, 1) := by decide +kernel
theorem dJ1_indexOf_4cfef_24 : decode cJ1_indexOf_4cfef 24 = .ok (.if_icmp .lt 5, 3) := by decide +kernel
theorem dJ1_indexOf_4cfef_27 : decode cJ1_indexOf_4cfef 27 = .ok (.iconst (-1), 1) := by decide +kernel
theorem dJ1_indexOf_4cfef_28 : decode cJ1_indexOf_4cfef 28 = .ok (.ireturn, 1) := by decide +kernel
theorem dJ1_indexOf_4cfef_29 : decode cJ1_indexOf_4cfef 29 = .ok (.aload_n 0, 1) := by decide +kernel
theorem dJ1_indexOf_4cfef_30 : decode cJ1_indexOf_4cfef 30 = .ok (.iload_n 1, 1) := by decide +kernel
theorem dJ1_indexOf_4cfef_31 : decode cJ1_indexOf_4cfef 31 = .ok (.iload_n 2, 1) := by decide +kernel
theorem dJ1_indexOf_4cfef_32 : decode cJ1_indexOf_4cfef 32 = .ok (.iload_n 3, 1) := by decide +kernel
theorem dJ1_indexOf_4cfef_33 : decode cJ1_indexOf_4cfef 33 = .ok (.invokestatic 95, 3) := by decide +kernel
theorem dJ1_indexOf_4cfef_36 : decode cJ1_indexOf_4cfef 36 = .ok (.ireturn, 1) := by decide +kernel
theorem dJ1_indexOfChar_4cfef_0 : decode cJ1_indexOfChar_4cfef 0 = .ok (.iload_n 1, 1) := by decide +kernel
theorem dJ1_indexOfChar_4cfef_1 : decode cJ1_indexOfChar_4cfef 1 = .ok (.i2b, 1) := by decide +kernel
theorem dJ1_indexOfChar_4cfef_2 : decode cJ1_indexOfChar_4cfef 2 = .ok (.istore 4, 2) := by decide +kernel
theorem dJ1_indexOfChar_4cfef_4 : decode cJ1_indexOfChar_4cfef 4 = .ok (.iload_n 2, 1) := by decide +kernel
theorem dJ1_indexOfChar_4cfef_5 : decode cJ1_indexOfChar_4cfef 5 = .ok (.istore 5, 2) := by decide +kernel
theorem dJ1_indexOfChar_4cfef_7 : decode cJ1_indexOfChar_4cfef 7 = .ok (.iload 5, 2) := by decide +kernel
theorem dJ1_indexOfChar_4cfef_9 : decode cJ1_indexOfChar_4cfef 9 = .ok (.iload_n 3, 1) := by decide +kernel
theorem dJ1_indexOfChar_4cfef_10 : decode cJ1_indexOfChar_4cfef 10 = .ok (.if_icmp .ge 21, 3) := by decide +kernel
theorem dJ1_indexOfChar_4cfef_13 : decode cJ1_indexOfChar_4cfef 13 = .ok (.aload_n 0, 1) := by decide +kernel
theorem dJ1_indexOfChar_4cfef_14 : decode cJ1_indexOfChar_4cfef 14 = .ok (.iload 5, 2) := by decide +kernel
theorem dJ1_indexOfChar_4cfef_16 : decode cJ1_indexOfChar_4cfef 16 = .ok (.baload, 1) := by decide +kernel
theorem dJ1_indexOfChar_4cfef_17 : decode cJ1_indexOfChar_4cfef 17 = .ok (.iload 4, 2) := by decide +kernel
theorem dJ1_indexOfChar_4cfef_19 : decode cJ1_indexOfChar_4cfef 19 = .ok (.if_icmp .ne 6, 3) := by decide +kernel
theorem dJ1_indexOfChar_4cfef_22 : decode cJ1_indexOfChar_4cfef 22 = .ok (.iload 5, 2) := by decide +kernel
theorem dJ1_indexOfChar_4cfef_24 : decode cJ1_indexOfChar_4cfef 24 = .ok (.ireturn, 1) := by decide +kernel
theorem dJ1_indexOfChar_4cfef_25 : decode cJ1_indexOfChar_4cfef 25 = .ok (.iinc 5 1, 3) := by decide +kernel
theorem dJ1_indexOfChar_4cfef_28 : decode cJ1_indexOfChar_4cfef 28 = .ok (.goto (-21), 3) := by decide +kernel
theorem dJ1_indexOfChar_4cfef_31 : decode cJ1_indexOfChar_4cfef 31 = .ok (.iconst (-1), 1) := by decide +kernel
theorem dJ1_indexOfChar_4cfef_32 : decode cJ1_indexOfChar_4cfef 32 = .ok (.ireturn, 1) := by decide +kernel
theorem dJ7_fill_53178_0 : decode cJ7_fill_53178 0 = .ok (.iconst 0, 1) := by decide +kernel
theorem dJ7_fill_53178_1 : decode cJ7_fill_53178 1 = .ok (.istore_n 2, 1) := by decide +kernel
theorem dJ7_fill_53178_2 : decode cJ7_fill_53178 2 = .ok (.aload_n 0, 1) := by decide +kernel
theorem dJ7_fill_53178_3 : decode cJ7_fill_53178 3 = .ok (.arraylength, 1) := by decide +kernel
theorem dJ7_fill_53178_4 : decode cJ7_fill_53178 4 = .ok (.istore_n 3, 1) := by decide +kernel
theorem dJ7_fill_53178_5 : decode cJ7_fill_53178 5 = .ok (.iload_n 2, 1) := by decide +kernel
theorem dJ7_fill_53178_6 : decode cJ7_fill_53178 6 = .ok (.iload_n 3, 1) := by decide +kernel
theorem dJ7_fill_53178_7 : decode cJ7_fill_53178 7 = .ok (.if_icmp .ge 13, 3) := by decide +kernel
theorem dJ7_fill_53178_10 : decode cJ7_fill_53178 10 = .ok (.aload_n 0, 1) := by decide +kernel
theorem dJ7_fill_53178_11 : decode cJ7_fill_53178 11 = .ok (.iload_n 2, 1) := by decide +kernel
theorem dJ7_fill_53178_12 : decode cJ7_fill_53178 12 = .ok (.iload_n 1, 1) := by decide +kernel
theorem dJ7_fill_53178_13 : decode cJ7_fill_53178 13 = .ok (.iastore, 1) := by decide +kernel
theorem dJ7_fill_53178_14 : decode cJ7_fill_53178 14 = .ok (.iinc 2 1, 3) := by decide +kernel
theorem dJ7_fill_53178_17 : decode cJ7_fill_53178 17 = .ok (.goto (-12), 3) := by decide +kernel
theorem dJ7_fill_53178_20 : decode cJ7_fill_53178 20 = .ok (.return_, 1) := by decide +kernel
theorem dJ3_checkIndex_8e157_0 : decode cJ3_checkIndex_8e157 0 = .ok (.iload_n 0, 1) := by decide +kernel
theorem dJ3_checkIndex_8e157_1 : decode cJ3_checkIndex_8e157 1 = .ok (.ifCond .lt 8, 3) := by decide +kernel
theorem dJ3_checkIndex_8e157_4 : decode cJ3_checkIndex_8e157 4 = .ok (.iload_n 0, 1) := by decide +kernel
theorem dJ3_checkIndex_8e157_5 : decode cJ3_checkIndex_8e157 5 = .ok (.iload_n 1, 1) := by decide +kernel
theorem dJ3_checkIndex_8e157_6 : decode cJ3_checkIndex_8e157 6 = .ok (.if_icmp .lt 10, 3) := by decide +kernel
theorem dJ3_checkIndex_8e157_9 : decode cJ3_checkIndex_8e157 9 = .ok (.aload_n 2, 1) := by decide +kernel
theorem dJ3_checkIndex_8e157_10 : decode cJ3_checkIndex_8e157 10 = .ok (.iload_n 0, 1) := by decide +kernel
theorem dJ3_checkIndex_8e157_11 : decode cJ3_checkIndex_8e157 11 = .ok (.iload_n 1, 1) := by decide +kernel
theorem dJ3_checkIndex_8e157_12 : decode cJ3_checkIndex_8e157 12 = .ok (.invokestatic 95, 3) := by decide +kernel
theorem dJ3_checkIndex_8e157_15 : decode cJ3_checkIndex_8e157 15 = .ok (.athrow, 1) := by decide +kernel
theorem dJ3_checkIndex_8e157_16 : decode cJ3_checkIndex_8e157 16 = .ok (.iload_n 0, 1) := by decide +kernel
theorem dJ3_checkIndex_8e157_17 : decode cJ3_checkIndex_8e157 17 = .ok (.ireturn, 1) := by decide +kernel
