/-! instructions, by program -/
theorem d_CS_init_0 : decode b_CS_init 0 = .ok (.aload_n 0, 1) := by decide +kernel
theorem d_CS_init_1 : decode b_CS_init 1 = .ok (.invokespecial 1, 3) := by decide +kernel
theorem d_CS_init_4 : decode b_CS_init 4 = .ok (.aload_n 0, 1) := by decide +kernel
theorem d_CS_init_5 : decode b_CS_init 5 = .ok (.bipush 6, 2) := by decide +kernel
theorem d_CS_init_7 : decode b_CS_init 7 = .ok (.anewarray 9, 3) := by decide +kernel
theorem d_CS_init_10 : decode b_CS_init 10 = .ok (.putfield 11, 3) := by decide +kernel
theorem d_CS_init_13 : decode b_CS_init 13 = .ok (.iconst 0, 1) := by decide +kernel
theorem d_CS_init_14 : decode b_CS_init 14 = .ok (.istore_n 1, 1) := by decide +kernel
theorem d_CS_init_15 : decode b_CS_init 15 = .ok (.iload_n 1, 1) := by decide +kernel
theorem d_CS_init_16 : decode b_CS_init 16 = .ok (.bipush 6, 2) := by decide +kernel
theorem d_CS_init_18 : decode b_CS_init 18 = .ok (.if_icmp .ge 22, 3) := by decide +kernel
theorem d_CS_init_21 : decode b_CS_init 21 = .ok (.aload_n 0, 1) := by decide +kernel
theorem d_CS_init_22 : decode b_CS_init 22 = .ok (.getfield 11, 3) := by decide +kernel
theorem d_CS_init_25 : decode b_CS_init 25 = .ok (.iload_n 1, 1) := by decide +kernel
theorem d_CS_init_26 : decode b_CS_init 26 = .ok (.new 9, 3) := by decide +kernel
theorem d_CS_init_29 : decode b_CS_init 29 = .ok (.dup, 1) := by decide +kernel
theorem d_CS_init_30 : decode b_CS_init 30 = .ok (.invokespecial 15, 3) := by decide +kernel
theorem d_CS_init_33 : decode b_CS_init 33 = .ok (.aastore, 1) := by decide +kernel
theorem d_CS_init_34 : decode b_CS_init 34 = .ok (.iinc 1 1, 3) := by decide +kernel
theorem d_CS_init_37 : decode b_CS_init 37 = .ok (.goto (-22), 3) := by decide +kernel
theorem d_CS_init_40 : decode b_CS_init 40 = .ok (.aload_n 0, 1) := by decide +kernel
theorem d_CS_init_41 : decode b_CS_init 41 = .ok (.bipush 8, 2) := by decide +kernel
theorem d_CS_init_43 : decode b_CS_init 43 = .ok (.anewarray 16, 3) := by decide +kernel
theorem d_CS_init_46 : decode b_CS_init 46 = .ok (.putfield 18, 3) := by decide +kernel
theorem d_CS_init_49 : decode b_CS_init 49 = .ok (.iconst 0, 1) := by decide +kernel
theorem d_CS_init_50 : decode b_CS_init 50 = .ok (.istore_n 1, 1) := by decide +kernel
theorem d_CS_init_51 : decode b_CS_init 51 = .ok (.iload_n 1, 1) := by decide +kernel
theorem d_CS_init_52 : decode b_CS_init 52 = .ok (.bipush 8, 2) := by decide +kernel
theorem d_CS_init_54 : decode b_CS_init 54 = .ok (.if_icmp .ge 22, 3) := by decide +kernel
theorem d_CS_init_57 : decode b_CS_init 57 = .ok (.aload_n 0, 1) := by decide +kernel
theorem d_CS_init_58 : decode b_CS_init 58 = .ok (.getfield 18, 3) := by decide +kernel
theorem d_CS_init_61 : decode b_CS_init 61 = .ok (.iload_n 1, 1) := by decide +kernel
theorem d_CS_init_62 : decode b_CS_init 62 = .ok (.new 16, 3) := by decide +kernel
theorem d_CS_init_65 : decode b_CS_init 65 = .ok (.dup, 1) := by decide +kernel
theorem d_CS_init_66 : decode b_CS_init 66 = .ok (.invokespecial 22, 3) := by decide +kernel
theorem d_CS_init_69 : decode b_CS_init 69 = .ok (.aastore, 1) := by decide +kernel
theorem d_CS_init_70 : decode b_CS_init 70 = .ok (.iinc 1 1, 3) := by decide +kernel
theorem d_CS_init_73 : decode b_CS_init 73 = .ok (.goto (-22), 3) := by decide +kernel
theorem d_CS_init_76 : decode b_CS_init 76 = .ok (.aload_n 0, 1) := by decide +kernel
theorem d_CS_init_77 : decode b_CS_init 77 = .ok (.bipush 40, 2) := by decide +kernel
theorem d_CS_init_79 : decode b_CS_init 79 = .ok (.anewarray 23, 3) := by decide +kernel
theorem d_CS_init_82 : decode b_CS_init 82 = .ok (.putfield 25, 3) := by decide +kernel
theorem d_CS_init_85 : decode b_CS_init 85 = .ok (.iconst 0, 1) := by decide +kernel
theorem d_CS_init_86 : decode b_CS_init 86 = .ok (.istore_n 1, 1) := by decide +kernel
theorem d_CS_init_87 : decode b_CS_init 87 = .ok (.iload_n 1, 1) := by decide +kernel
theorem d_CS_init_88 : decode b_CS_init 88 = .ok (.bipush 40, 2) := by decide +kernel
theorem d_CS_init_90 : decode b_CS_init 90 = .ok (.if_icmp .ge 22, 3) := by decide +kernel
theorem d_CS_init_93 : decode b_CS_init 93 = .ok (.aload_n 0, 1) := by decide +kernel
theorem d_CS_init_94 : decode b_CS_init 94 = .ok (.getfield 25, 3) := by decide +kernel
theorem d_CS_init_97 : decode b_CS_init 97 = .ok (.iload_n 1, 1) := by decide +kernel
theorem d_CS_init_98 : decode b_CS_init 98 = .ok (.new 23, 3) := by decide +kernel
theorem d_CS_init_101 : decode b_CS_init 101 = .ok (.dup, 1) := by decide +kernel
theorem d_CS_init_102 : decode b_CS_init 102 = .ok (.invokespecial 29, 3) := by decide +kernel
theorem d_CS_init_105 : decode b_CS_init 105 = .ok (.aastore, 1) := by decide +kernel
theorem d_CS_init_106 : decode b_CS_init 106 = .ok (.iinc 1 1, 3) := by decide +kernel
theorem d_CS_init_109 : decode b_CS_init 109 = .ok (.goto (-22), 3) := by decide +kernel
theorem d_CS_init_112 : decode b_CS_init 112 = .ok (.aload_n 0, 1) := by decide +kernel
theorem d_CS_init_113 : decode b_CS_init 113 = .ok (.new 30, 3) := by decide +kernel
theorem d_CS_init_116 : decode b_CS_init 116 = .ok (.dup, 1) := by decide +kernel
theorem d_CS_init_117 : decode b_CS_init 117 = .ok (.invokespecial 32, 3) := by decide +kernel
theorem d_CS_init_120 : decode b_CS_init 120 = .ok (.putfield 33, 3) := by decide +kernel
theorem d_CS_init_123 : decode b_CS_init 123 = .ok (.aload_n 0, 1) := by decide +kernel
theorem d_CS_init_124 : decode b_CS_init 124 = .ok (.bipush 16, 2) := by decide +kernel
theorem d_CS_init_126 : decode b_CS_init 126 = .ok (.anewarray 37, 3) := by decide +kernel
theorem d_CS_init_129 : decode b_CS_init 129 = .ok (.putfield 39, 3) := by decide +kernel
theorem d_CS_init_132 : decode b_CS_init 132 = .ok (.iconst 0, 1) := by decide +kernel
theorem d_CS_init_133 : decode b_CS_init 133 = .ok (.istore_n 1, 1) := by decide +kernel
theorem d_CS_init_134 : decode b_CS_init 134 = .ok (.iload_n 1, 1) := by decide +kernel
theorem d_CS_init_135 : decode b_CS_init 135 = .ok (.bipush 16, 2) := by decide +kernel
theorem d_CS_init_137 : decode b_CS_init 137 = .ok (.if_icmp .ge 22, 3) := by decide +kernel
theorem d_CS_init_140 : decode b_CS_init 140 = .ok (.aload_n 0, 1) := by decide +kernel
theorem d_CS_init_141 : decode b_CS_init 141 = .ok (.getfield 39, 3) := by decide +kernel
theorem d_CS_init_144 : decode b_CS_init 144 = .ok (.iload_n 1, 1) := by decide +kernel
theorem d_CS_init_145 : decode b_CS_init 145 = .ok (.new 37, 3) := by decide +kernel
theorem d_CS_init_148 : decode b_CS_init 148 = .ok (.dup, 1) := by decide +kernel
theorem d_CS_init_149 : decode b_CS_init 149 = .ok (.invokespecial 43, 3) := by decide +kernel
theorem d_CS_init_152 : decode b_CS_init 152 = .ok (.aastore, 1) := by decide +kernel
theorem d_CS_init_153 : decode b_CS_init 153 = .ok (.iinc 1 1, 3) := by decide +kernel
theorem d_CS_init_156 : decode b_CS_init 156 = .ok (.goto (-22), 3) := by decide +kernel
theorem d_CS_init_159 : decode b_CS_init 159 = .ok (.return_, 1) := by decide +kernel
theorem d_CS_route_0 : decode b_CS_route 0 = .ok (.iload_n 1, 1) := by decide +kernel
theorem d_CS_route_1 : decode b_CS_route 1 = .ok (.iconst 1, 1) := by decide +kernel
theorem d_CS_route_2 : decode b_CS_route 2 = .ok (.sipush 9999, 3) := by decide +kernel
theorem d_CS_route_5 : decode b_CS_route 5 = .ok (.invokestatic 44, 3) := by decide +kernel
theorem d_CS_route_8 : decode b_CS_route 8 = .ok (.ifCond .eq 21, 3) := by decide +kernel
theorem d_CS_route_11 : decode b_CS_route 11 = .ok (.iload_n 2, 1) := by decide +kernel
theorem d_CS_route_12 : decode b_CS_route 12 = .ok (.invokestatic 48, 3) := by decide +kernel
theorem d_CS_route_15 : decode b_CS_route 15 = .ok (.ifCond .eq 14, 3) := by decide +kernel
theorem d_CS_route_18 : decode b_CS_route 18 = .ok (.iload_n 3, 1) := by decide +kernel
theorem d_CS_route_19 : decode b_CS_route 19 = .ok (.iconst 0, 1) := by decide +kernel
theorem d_CS_route_20 : decode b_CS_route 20 = .ok (.sipush 2000, 3) := by decide +kernel
theorem d_CS_route_23 : decode b_CS_route 23 = .ok (.invokestatic 44, 3) := by decide +kernel
theorem d_CS_route_26 : decode b_CS_route 26 = .ok (.ifCond .ne 5, 3) := by decide +kernel
theorem d_CS_route_29 : decode b_CS_route 29 = .ok (.iconst 0, 1) := by decide +kernel
theorem d_CS_route_30 : decode b_CS_route 30 = .ok (.ireturn, 1) := by decide +kernel
theorem d_CS_route_31 : decode b_CS_route 31 = .ok (.aload_n 0, 1) := by decide +kernel
theorem d_CS_route_32 : decode b_CS_route 32 = .ok (.iload_n 1, 1) := by decide +kernel
theorem d_CS_route_33 : decode b_CS_route 33 = .ok (.invokevirtual 52, 3) := by decide +kernel
theorem d_CS_route_36 : decode b_CS_route 36 = .ok (.astore 4, 2) := by decide +kernel
theorem d_CS_route_38 : decode b_CS_route 38 = .ok (.aload 4, 2) := by decide +kernel
theorem d_CS_route_40 : decode b_CS_route 40 = .ok (.ifnonnull 14, 3) := by decide +kernel
theorem d_CS_route_43 : decode b_CS_route 43 = .ok (.aload_n 0, 1) := by decide +kernel
theorem d_CS_route_44 : decode b_CS_route 44 = .ok (.getfield 56, 3) := by decide +kernel
theorem d_CS_route_47 : decode b_CS_route 47 = .ok (.bipush 6, 2) := by decide +kernel
theorem d_CS_route_49 : decode b_CS_route 49 = .ok (.if_icmp .lt 5, 3) := by decide +kernel
theorem d_CS_route_52 : decode b_CS_route 52 = .ok (.iconst 0, 1) := by decide +kernel
theorem d_CS_route_53 : decode b_CS_route 53 = .ok (.ireturn, 1) := by decide +kernel
theorem d_CS_route_54 : decode b_CS_route 54 = .ok (.aload_n 0, 1) := by decide +kernel
theorem d_CS_route_55 : decode b_CS_route 55 = .ok (.aload 4, 2) := by decide +kernel
theorem d_CS_route_57 : decode b_CS_route 57 = .ok (.aconst_null, 1) := by decide +kernel
theorem d_CS_route_58 : decode b_CS_route 58 = .ok (.invokevirtual 60, 3) := by decide +kernel
theorem d_CS_route_61 : decode b_CS_route 61 = .ok (.aload 4, 2) := by decide +kernel
theorem d_CS_route_63 : decode b_CS_route 63 = .ok (.ifnonnull 24, 3) := by decide +kernel
theorem d_CS_route_66 : decode b_CS_route 66 = .ok (.aload_n 0, 1) := by decide +kernel
theorem d_CS_route_67 : decode b_CS_route 67 = .ok (.getfield 11, 3) := by decide +kernel
theorem d_CS_route_70 : decode b_CS_route 70 = .ok (.aload_n 0, 1) := by decide +kernel
theorem d_CS_route_71 : decode b_CS_route 71 = .ok (.getfield 56, 3) := by decide +kernel
theorem d_CS_route_74 : decode b_CS_route 74 = .ok (.aaload, 1) := by decide +kernel
theorem d_CS_route_75 : decode b_CS_route 75 = .ok (.astore 4, 2) := by decide +kernel
theorem d_CS_route_77 : decode b_CS_route 77 = .ok (.aload_n 0, 1) := by decide +kernel
theorem d_CS_route_78 : decode b_CS_route 78 = .ok (.dup, 1) := by decide +kernel
theorem d_CS_route_79 : decode b_CS_route 79 = .ok (.getfield 56, 3) := by decide +kernel
theorem d_CS_route_82 : decode b_CS_route 82 = .ok (.iconst 1, 1) := by decide +kernel
theorem d_CS_route_83 : decode b_CS_route 83 = .ok (.iadd, 1) := by decide +kernel
theorem d_CS_route_84 : decode b_CS_route 84 = .ok (.putfield 56, 3) := by decide +kernel
theorem d_CS_route_87 : decode b_CS_route 87 = .ok (.aload 4, 2) := by decide +kernel
theorem d_CS_route_89 : decode b_CS_route 89 = .ok (.iload_n 1, 1) := by decide +kernel
theorem d_CS_route_90 : decode b_CS_route 90 = .ok (.putfield 64, 3) := by decide +kernel
theorem d_CS_route_93 : decode b_CS_route 93 = .ok (.aload 4, 2) := by decide +kernel
theorem d_CS_route_95 : decode b_CS_route 95 = .ok (.iload_n 2, 1) := by decide +kernel
theorem d_CS_route_96 : decode b_CS_route 96 = .ok (.putfield 67, 3) := by decide +kernel
theorem d_CS_route_99 : decode b_CS_route 99 = .ok (.aload 4, 2) := by decide +kernel
theorem d_CS_route_101 : decode b_CS_route 101 = .ok (.iload_n 3, 1) := by decide +kernel
theorem d_CS_route_102 : decode b_CS_route 102 = .ok (.putfield 70, 3) := by decide +kernel
theorem d_CS_route_105 : decode b_CS_route 105 = .ok (.iconst 1, 1) := by decide +kernel
theorem d_CS_route_106 : decode b_CS_route 106 = .ok (.ireturn, 1) := by decide +kernel
theorem d_CS_card_0 : decode b_CS_card 0 = .ok (.iload_n 1, 1) := by decide +kernel
theorem d_CS_card_1 : decode b_CS_card 1 = .ok (.invokestatic 73, 3) := by decide +kernel
theorem d_CS_card_4 : decode b_CS_card 4 = .ok (.ifCond .eq 30, 3) := by decide +kernel
theorem d_CS_card_7 : decode b_CS_card 7 = .ok (.iload_n 2, 1) := by decide +kernel
theorem d_CS_card_8 : decode b_CS_card 8 = .ok (.ldc 76, 2) := by decide +kernel
theorem d_CS_card_10 : decode b_CS_card 10 = .ok (.ldc 77, 2) := by decide +kernel
theorem d_CS_card_12 : decode b_CS_card 12 = .ok (.invokestatic 44, 3) := by decide +kernel
theorem d_CS_card_15 : decode b_CS_card 15 = .ok (.ifCond .eq 19, 3) := by decide +kernel
theorem d_CS_card_18 : decode b_CS_card 18 = .ok (.iload_n 3, 1) := by decide +kernel
theorem d_CS_card_19 : decode b_CS_card 19 = .ok (.ldc 76, 2) := by decide +kernel
theorem d_CS_card_21 : decode b_CS_card 21 = .ok (.ldc 77, 2) := by decide +kernel
theorem d_CS_card_23 : decode b_CS_card 23 = .ok (.invokestatic 44, 3) := by decide +kernel
theorem d_CS_card_26 : decode b_CS_card 26 = .ok (.ifCond .eq 8, 3) := by decide +kernel
theorem d_CS_card_29 : decode b_CS_card 29 = .ok (.iload_n 2, 1) := by decide +kernel
theorem d_CS_card_30 : decode b_CS_card 30 = .ok (.iload_n 3, 1) := by decide +kernel
theorem d_CS_card_31 : decode b_CS_card 31 = .ok (.if_icmp .ge 5, 3) := by decide +kernel
theorem d_CS_card_34 : decode b_CS_card 34 = .ok (.iconst (-1), 1) := by decide +kernel
theorem d_CS_card_35 : decode b_CS_card 35 = .ok (.ireturn, 1) := by decide +kernel
theorem d_CS_card_36 : decode b_CS_card 36 = .ok (.aload_n 0, 1) := by decide +kernel
theorem d_CS_card_37 : decode b_CS_card 37 = .ok (.iload_n 1, 1) := by decide +kernel
theorem d_CS_card_38 : decode b_CS_card 38 = .ok (.invokevirtual 78, 3) := by decide +kernel
theorem d_CS_card_41 : decode b_CS_card 41 = .ok (.ifnull 6, 3) := by decide +kernel
theorem d_CS_card_44 : decode b_CS_card 44 = .ok (.bipush (-2), 2) := by decide +kernel
theorem d_CS_card_46 : decode b_CS_card 46 = .ok (.ireturn, 1) := by decide +kernel
theorem d_CS_card_47 : decode b_CS_card 47 = .ok (.aload_n 0, 1) := by decide +kernel
theorem d_CS_card_48 : decode b_CS_card 48 = .ok (.getfield 82, 3) := by decide +kernel
theorem d_CS_card_51 : decode b_CS_card 51 = .ok (.bipush 8, 2) := by decide +kernel
theorem d_CS_card_53 : decode b_CS_card 53 = .ok (.if_icmp .lt 6, 3) := by decide +kernel
theorem d_CS_card_56 : decode b_CS_card 56 = .ok (.bipush (-3), 2) := by decide +kernel
theorem d_CS_card_58 : decode b_CS_card 58 = .ok (.ireturn, 1) := by decide +kernel
theorem d_CS_card_59 : decode b_CS_card 59 = .ok (.aload_n 0, 1) := by decide +kernel
theorem d_CS_card_60 : decode b_CS_card 60 = .ok (.aconst_null, 1) := by decide +kernel
theorem d_CS_card_61 : decode b_CS_card 61 = .ok (.aconst_null, 1) := by decide +kernel
theorem d_CS_card_62 : decode b_CS_card 62 = .ok (.invokevirtual 60, 3) := by decide +kernel
theorem d_CS_card_65 : decode b_CS_card 65 = .ok (.aload_n 0, 1) := by decide +kernel
theorem d_CS_card_66 : decode b_CS_card 66 = .ok (.getfield 18, 3) := by decide +kernel
theorem d_CS_card_69 : decode b_CS_card 69 = .ok (.aload_n 0, 1) := by decide +kernel
theorem d_CS_card_70 : decode b_CS_card 70 = .ok (.getfield 82, 3) := by decide +kernel
theorem d_CS_card_73 : decode b_CS_card 73 = .ok (.aaload, 1) := by decide +kernel
theorem d_CS_card_74 : decode b_CS_card 74 = .ok (.astore 4, 2) := by decide +kernel
theorem d_CS_card_76 : decode b_CS_card 76 = .ok (.aload_n 0, 1) := by decide +kernel
theorem d_CS_card_77 : decode b_CS_card 77 = .ok (.dup, 1) := by decide +kernel
theorem d_CS_card_78 : decode b_CS_card 78 = .ok (.getfield 82, 3) := by decide +kernel
theorem d_CS_card_81 : decode b_CS_card 81 = .ok (.iconst 1, 1) := by decide +kernel
theorem d_CS_card_82 : decode b_CS_card 82 = .ok (.iadd, 1) := by decide +kernel
theorem d_CS_card_83 : decode b_CS_card 83 = .ok (.putfield 82, 3) := by decide +kernel
theorem d_CS_card_86 : decode b_CS_card 86 = .ok (.aload 4, 2) := by decide +kernel
theorem d_CS_card_88 : decode b_CS_card 88 = .ok (.iload_n 1, 1) := by decide +kernel
theorem d_CS_card_89 : decode b_CS_card 89 = .ok (.putfield 85, 3) := by decide +kernel
theorem d_CS_card_92 : decode b_CS_card 92 = .ok (.aload 4, 2) := by decide +kernel
theorem d_CS_card_94 : decode b_CS_card 94 = .ok (.iload_n 2, 1) := by decide +kernel
theorem d_CS_card_95 : decode b_CS_card 95 = .ok (.putfield 88, 3) := by decide +kernel
theorem d_CS_card_98 : decode b_CS_card 98 = .ok (.aload 4, 2) := by decide +kernel
theorem d_CS_card_100 : decode b_CS_card 100 = .ok (.iload_n 3, 1) := by decide +kernel
theorem d_CS_card_101 : decode b_CS_card 101 = .ok (.putfield 91, 3) := by decide +kernel
theorem d_CS_card_104 : decode b_CS_card 104 = .ok (.aload_n 0, 1) := by decide +kernel
theorem d_CS_card_105 : decode b_CS_card 105 = .ok (.getfield 82, 3) := by decide +kernel
theorem d_CS_card_108 : decode b_CS_card 108 = .ok (.ireturn, 1) := by decide +kernel
theorem d_CS_authorise_0 : decode b_CS_authorise 0 = .ok (.iload_n 1, 1) := by decide +kernel
theorem d_CS_authorise_1 : decode b_CS_authorise 1 = .ok (.iload_n 2, 1) := by decide +kernel
theorem d_CS_authorise_2 : decode b_CS_authorise 2 = .ok (.invokestatic 94, 3) := by decide +kernel
theorem d_CS_authorise_5 : decode b_CS_authorise 5 = .ok (.ifCond .ne 21, 3) := by decide +kernel
theorem d_CS_authorise_8 : decode b_CS_authorise 8 = .ok (.iload_n 3, 1) := by decide +kernel
theorem d_CS_authorise_9 : decode b_CS_authorise 9 = .ok (.invokestatic 73, 3) := by decide +kernel
theorem d_CS_authorise_12 : decode b_CS_authorise 12 = .ok (.ifCond .eq 14, 3) := by decide +kernel
theorem d_CS_authorise_15 : decode b_CS_authorise 15 = .ok (.iload 4, 2) := by decide +kernel
theorem d_CS_authorise_17 : decode b_CS_authorise 17 = .ok (.iconst 1, 1) := by decide +kernel
theorem d_CS_authorise_18 : decode b_CS_authorise 18 = .ok (.ldc 98, 2) := by decide +kernel
theorem d_CS_authorise_20 : decode b_CS_authorise 20 = .ok (.invokestatic 44, 3) := by decide +kernel
theorem d_CS_authorise_23 : decode b_CS_authorise 23 = .ok (.ifCond .ne 5, 3) := by decide +kernel
theorem d_CS_authorise_26 : decode b_CS_authorise 26 = .ok (.iconst (-1), 1) := by decide +kernel
theorem d_CS_authorise_27 : decode b_CS_authorise 27 = .ok (.ireturn, 1) := by decide +kernel
theorem d_CS_authorise_28 : decode b_CS_authorise 28 = .ok (.aload_n 0, 1) := by decide +kernel
theorem d_CS_authorise_29 : decode b_CS_authorise 29 = .ok (.iload_n 1, 1) := by decide +kernel
theorem d_CS_authorise_30 : decode b_CS_authorise 30 = .ok (.iload_n 2, 1) := by decide +kernel
theorem d_CS_authorise_31 : decode b_CS_authorise 31 = .ok (.invokevirtual 99, 3) := by decide +kernel
theorem d_CS_authorise_34 : decode b_CS_authorise 34 = .ok (.astore 6, 2) := by decide +kernel
theorem d_CS_authorise_36 : decode b_CS_authorise 36 = .ok (.aload 6, 2) := by decide +kernel
theorem d_CS_authorise_38 : decode b_CS_authorise 38 = .ok (.ifnull 14, 3) := by decide +kernel
theorem d_CS_authorise_41 : decode b_CS_authorise 41 = .ok (.aload 6, 2) := by decide +kernel
theorem d_CS_authorise_43 : decode b_CS_authorise 43 = .ok (.iload_n 3, 1) := by decide +kernel
theorem d_CS_authorise_44 : decode b_CS_authorise 44 = .ok (.iload 4, 2) := by decide +kernel
theorem d_CS_authorise_46 : decode b_CS_authorise 46 = .ok (.iload 5, 2) := by decide +kernel
theorem d_CS_authorise_48 : decode b_CS_authorise 48 = .ok (.invokestatic 103, 3) := by decide +kernel
theorem d_CS_authorise_51 : decode b_CS_authorise 51 = .ok (.ireturn, 1) := by decide +kernel
theorem d_CS_authorise_52 : decode b_CS_authorise 52 = .ok (.aload_n 0, 1) := by decide +kernel
theorem d_CS_authorise_53 : decode b_CS_authorise 53 = .ok (.getfield 107, 3) := by decide +kernel
theorem d_CS_authorise_56 : decode b_CS_authorise 56 = .ok (.bipush 40, 2) := by decide +kernel
theorem d_CS_authorise_58 : decode b_CS_authorise 58 = .ok (.if_icmp .lt 6, 3) := by decide +kernel
theorem d_CS_authorise_61 : decode b_CS_authorise 61 = .ok (.bipush (-3), 2) := by decide +kernel
theorem d_CS_authorise_63 : decode b_CS_authorise 63 = .ok (.ireturn, 1) := by decide +kernel
theorem d_CS_authorise_64 : decode b_CS_authorise 64 = .ok (.aload_n 0, 1) := by decide +kernel
theorem d_CS_authorise_65 : decode b_CS_authorise 65 = .ok (.iload_n 3, 1) := by decide +kernel
theorem d_CS_authorise_66 : decode b_CS_authorise 66 = .ok (.invokevirtual 110, 3) := by decide +kernel
theorem d_CS_authorise_69 : decode b_CS_authorise 69 = .ok (.astore 7, 2) := by decide +kernel
theorem d_CS_authorise_71 : decode b_CS_authorise 71 = .ok (.aload_n 0, 1) := by decide +kernel
theorem d_CS_authorise_72 : decode b_CS_authorise 72 = .ok (.iload_n 3, 1) := by decide +kernel
theorem d_CS_authorise_73 : decode b_CS_authorise 73 = .ok (.aload 7, 2) := by decide +kernel
theorem d_CS_authorise_75 : decode b_CS_authorise 75 = .ok (.iload 4, 2) := by decide +kernel
theorem d_CS_authorise_77 : decode b_CS_authorise 77 = .ok (.iload 5, 2) := by decide +kernel
theorem d_CS_authorise_79 : decode b_CS_authorise 79 = .ok (.invokevirtual 113, 3) := by decide +kernel
theorem d_CS_authorise_82 : decode b_CS_authorise 82 = .ok (.istore 8, 2) := by decide +kernel
theorem d_CS_authorise_84 : decode b_CS_authorise 84 = .ok (.aload_n 0, 1) := by decide +kernel
theorem d_CS_authorise_85 : decode b_CS_authorise 85 = .ok (.iload_n 1, 1) := by decide +kernel
theorem d_CS_authorise_86 : decode b_CS_authorise 86 = .ok (.iload_n 2, 1) := by decide +kernel
theorem d_CS_authorise_87 : decode b_CS_authorise 87 = .ok (.invokevirtual 117, 3) := by decide +kernel
theorem d_CS_authorise_90 : decode b_CS_authorise 90 = .ok (.astore 6, 2) := by decide +kernel
theorem d_CS_authorise_92 : decode b_CS_authorise 92 = .ok (.aload 6, 2) := by decide +kernel
theorem d_CS_authorise_94 : decode b_CS_authorise 94 = .ok (.iload_n 3, 1) := by decide +kernel
theorem d_CS_authorise_95 : decode b_CS_authorise 95 = .ok (.putfield 120, 3) := by decide +kernel
theorem d_CS_authorise_98 : decode b_CS_authorise 98 = .ok (.aload 6, 2) := by decide +kernel
theorem d_CS_authorise_100 : decode b_CS_authorise 100 = .ok (.iload 4, 2) := by decide +kernel
theorem d_CS_authorise_102 : decode b_CS_authorise 102 = .ok (.putfield 121, 3) := by decide +kernel
theorem d_CS_authorise_105 : decode b_CS_authorise 105 = .ok (.aload 6, 2) := by decide +kernel
theorem d_CS_authorise_107 : decode b_CS_authorise 107 = .ok (.iload 5, 2) := by decide +kernel
theorem d_CS_authorise_109 : decode b_CS_authorise 109 = .ok (.putfield 124, 3) := by decide +kernel
theorem d_CS_authorise_112 : decode b_CS_authorise 112 = .ok (.aload 6, 2) := by decide +kernel
theorem d_CS_authorise_114 : decode b_CS_authorise 114 = .ok (.iload 8, 2) := by decide +kernel
theorem d_CS_authorise_116 : decode b_CS_authorise 116 = .ok (.putfield 128, 3) := by decide +kernel
theorem d_CS_authorise_119 : decode b_CS_authorise 119 = .ok (.iload 8, 2) := by decide +kernel
theorem d_CS_authorise_121 : decode b_CS_authorise 121 = .ok (.iconst 1, 1) := by decide +kernel
theorem d_CS_authorise_122 : decode b_CS_authorise 122 = .ok (.if_icmp .lt 62, 3) := by decide +kernel
theorem d_CS_authorise_125 : decode b_CS_authorise 125 = .ok (.aload 7, 2) := by decide +kernel
theorem d_CS_authorise_127 : decode b_CS_authorise 127 = .ok (.ifnull 57, 3) := by decide +kernel
theorem d_CS_authorise_130 : decode b_CS_authorise 130 = .ok (.aload 6, 2) := by decide +kernel
theorem d_CS_authorise_132 : decode b_CS_authorise 132 = .ok (.iconst 2, 1) := by decide +kernel
theorem d_CS_authorise_133 : decode b_CS_authorise 133 = .ok (.putfield 131, 3) := by decide +kernel
theorem d_CS_authorise_136 : decode b_CS_authorise 136 = .ok (.aload 6, 2) := by decide +kernel
theorem d_CS_authorise_138 : decode b_CS_authorise 138 = .ok (.iload 8, 2) := by decide +kernel
theorem d_CS_authorise_140 : decode b_CS_authorise 140 = .ok (.putfield 134, 3) := by decide +kernel
theorem d_CS_authorise_143 : decode b_CS_authorise 143 = .ok (.aload 6, 2) := by decide +kernel
theorem d_CS_authorise_145 : decode b_CS_authorise 145 = .ok (.aload_n 0, 1) := by decide +kernel
theorem d_CS_authorise_146 : decode b_CS_authorise 146 = .ok (.getfield 137, 3) := by decide +kernel
theorem d_CS_authorise_149 : decode b_CS_authorise 149 = .ok (.putfield 140, 3) := by decide +kernel
theorem d_CS_authorise_152 : decode b_CS_authorise 152 = .ok (.aload 6, 2) := by decide +kernel
theorem d_CS_authorise_154 : decode b_CS_authorise 154 = .ok (.aload_n 0, 1) := by decide +kernel
theorem d_CS_authorise_155 : decode b_CS_authorise 155 = .ok (.getfield 137, 3) := by decide +kernel
theorem d_CS_authorise_158 : decode b_CS_authorise 158 = .ok (.putfield 143, 3) := by decide +kernel
theorem d_CS_authorise_161 : decode b_CS_authorise 161 = .ok (.aload 6, 2) := by decide +kernel
theorem d_CS_authorise_163 : decode b_CS_authorise 163 = .ok (.aload 7, 2) := by decide +kernel
theorem d_CS_authorise_165 : decode b_CS_authorise 165 = .ok (.getfield 67, 3) := by decide +kernel
theorem d_CS_authorise_168 : decode b_CS_authorise 168 = .ok (.putfield 146, 3) := by decide +kernel
theorem d_CS_authorise_171 : decode b_CS_authorise 171 = .ok (.aload 6, 2) := by decide +kernel
theorem d_CS_authorise_173 : decode b_CS_authorise 173 = .ok (.aload 7, 2) := by decide +kernel
theorem d_CS_authorise_175 : decode b_CS_authorise 175 = .ok (.getfield 70, 3) := by decide +kernel
theorem d_CS_authorise_178 : decode b_CS_authorise 178 = .ok (.putfield 147, 3) := by decide +kernel
theorem d_CS_authorise_181 : decode b_CS_authorise 181 = .ok (.goto 9, 3) := by decide +kernel
theorem d_CS_authorise_184 : decode b_CS_authorise 184 = .ok (.aload 6, 2) := by decide +kernel
theorem d_CS_authorise_186 : decode b_CS_authorise 186 = .ok (.iconst 1, 1) := by decide +kernel
theorem d_CS_authorise_187 : decode b_CS_authorise 187 = .ok (.putfield 131, 3) := by decide +kernel
theorem d_CS_authorise_190 : decode b_CS_authorise 190 = .ok (.iload 8, 2) := by decide +kernel
theorem d_CS_authorise_192 : decode b_CS_authorise 192 = .ok (.ireturn, 1) := by decide +kernel
theorem d_CS_reverse_0 : decode b_CS_reverse 0 = .ok (.iload_n 1, 1) := by decide +kernel
theorem d_CS_reverse_1 : decode b_CS_reverse 1 = .ok (.iload_n 2, 1) := by decide +kernel
theorem d_CS_reverse_2 : decode b_CS_reverse 2 = .ok (.invokestatic 94, 3) := by decide +kernel
theorem d_CS_reverse_5 : decode b_CS_reverse 5 = .ok (.ifCond .ne 13, 3) := by decide +kernel
theorem d_CS_reverse_8 : decode b_CS_reverse 8 = .ok (.iload_n 3, 1) := by decide +kernel
theorem d_CS_reverse_9 : decode b_CS_reverse 9 = .ok (.iconst 0, 1) := by decide +kernel
theorem d_CS_reverse_10 : decode b_CS_reverse 10 = .ok (.ldc 98, 2) := by decide +kernel
theorem d_CS_reverse_12 : decode b_CS_reverse 12 = .ok (.invokestatic 44, 3) := by decide +kernel
theorem d_CS_reverse_15 : decode b_CS_reverse 15 = .ok (.ifCond .ne 5, 3) := by decide +kernel
theorem d_CS_reverse_18 : decode b_CS_reverse 18 = .ok (.iconst (-1), 1) := by decide +kernel
theorem d_CS_reverse_19 : decode b_CS_reverse 19 = .ok (.ireturn, 1) := by decide +kernel
theorem d_CS_reverse_20 : decode b_CS_reverse 20 = .ok (.aload_n 0, 1) := by decide +kernel
theorem d_CS_reverse_21 : decode b_CS_reverse 21 = .ok (.iload_n 1, 1) := by decide +kernel
theorem d_CS_reverse_22 : decode b_CS_reverse 22 = .ok (.iload_n 2, 1) := by decide +kernel
theorem d_CS_reverse_23 : decode b_CS_reverse 23 = .ok (.invokevirtual 99, 3) := by decide +kernel
theorem d_CS_reverse_26 : decode b_CS_reverse 26 = .ok (.astore 4, 2) := by decide +kernel
theorem d_CS_reverse_28 : decode b_CS_reverse 28 = .ok (.aload 4, 2) := by decide +kernel
theorem d_CS_reverse_30 : decode b_CS_reverse 30 = .ok (.ifnonnull 10, 3) := by decide +kernel
theorem d_CS_reverse_33 : decode b_CS_reverse 33 = .ok (.aload_n 0, 1) := by decide +kernel
theorem d_CS_reverse_34 : decode b_CS_reverse 34 = .ok (.iload_n 1, 1) := by decide +kernel
theorem d_CS_reverse_35 : decode b_CS_reverse 35 = .ok (.iload_n 2, 1) := by decide +kernel
theorem d_CS_reverse_36 : decode b_CS_reverse 36 = .ok (.invokevirtual 148, 3) := by decide +kernel
theorem d_CS_reverse_39 : decode b_CS_reverse 39 = .ok (.ireturn, 1) := by decide +kernel
theorem d_CS_reverse_40 : decode b_CS_reverse 40 = .ok (.aload_n 0, 1) := by decide +kernel
theorem d_CS_reverse_41 : decode b_CS_reverse 41 = .ok (.aload 4, 2) := by decide +kernel
theorem d_CS_reverse_43 : decode b_CS_reverse 43 = .ok (.invokevirtual 152, 3) := by decide +kernel
theorem d_CS_reverse_46 : decode b_CS_reverse 46 = .ok (.tableswitch 44 1 5 #[34, 36, 36, 34, 34], 34) := by decide +kernel
theorem d_CS_reverse_80 : decode b_CS_reverse 80 = .ok (.iconst 0, 1) := by decide +kernel
theorem d_CS_reverse_81 : decode b_CS_reverse 81 = .ok (.ireturn, 1) := by decide +kernel
theorem d_CS_reverse_82 : decode b_CS_reverse 82 = .ok (.aload_n 0, 1) := by decide +kernel
theorem d_CS_reverse_83 : decode b_CS_reverse 83 = .ok (.aload 4, 2) := by decide +kernel
theorem d_CS_reverse_85 : decode b_CS_reverse 85 = .ok (.iload_n 3, 1) := by decide +kernel
theorem d_CS_reverse_86 : decode b_CS_reverse 86 = .ok (.invokevirtual 156, 3) := by decide +kernel
theorem d_CS_reverse_89 : decode b_CS_reverse 89 = .ok (.ireturn, 1) := by decide +kernel
theorem d_CS_reverse_90 : decode b_CS_reverse 90 = .ok (.bipush (-9), 2) := by decide +kernel
theorem d_CS_reverse_92 : decode b_CS_reverse 92 = .ok (.ireturn, 1) := by decide +kernel
theorem d_CS_present_0 : decode b_CS_present 0 = .ok (.iload_n 1, 1) := by decide +kernel
theorem d_CS_present_1 : decode b_CS_present 1 = .ok (.iload_n 2, 1) := by decide +kernel
theorem d_CS_present_2 : decode b_CS_present 2 = .ok (.invokestatic 94, 3) := by decide +kernel
theorem d_CS_present_5 : decode b_CS_present 5 = .ok (.ifCond .ne 13, 3) := by decide +kernel
theorem d_CS_present_8 : decode b_CS_present 8 = .ok (.iload_n 3, 1) := by decide +kernel
theorem d_CS_present_9 : decode b_CS_present 9 = .ok (.iconst 1, 1) := by decide +kernel
theorem d_CS_present_10 : decode b_CS_present 10 = .ok (.ldc 98, 2) := by decide +kernel
theorem d_CS_present_12 : decode b_CS_present 12 = .ok (.invokestatic 44, 3) := by decide +kernel
theorem d_CS_present_15 : decode b_CS_present 15 = .ok (.ifCond .ne 5, 3) := by decide +kernel
theorem d_CS_present_18 : decode b_CS_present 18 = .ok (.iconst (-1), 1) := by decide +kernel
theorem d_CS_present_19 : decode b_CS_present 19 = .ok (.ireturn, 1) := by decide +kernel
theorem d_CS_present_20 : decode b_CS_present 20 = .ok (.aload_n 0, 1) := by decide +kernel
theorem d_CS_present_21 : decode b_CS_present 21 = .ok (.iload_n 1, 1) := by decide +kernel
theorem d_CS_present_22 : decode b_CS_present 22 = .ok (.iload_n 2, 1) := by decide +kernel
theorem d_CS_present_23 : decode b_CS_present 23 = .ok (.invokevirtual 99, 3) := by decide +kernel
theorem d_CS_present_26 : decode b_CS_present 26 = .ok (.astore 4, 2) := by decide +kernel
theorem d_CS_present_28 : decode b_CS_present 28 = .ok (.aload_n 0, 1) := by decide +kernel
theorem d_CS_present_29 : decode b_CS_present 29 = .ok (.aload 4, 2) := by decide +kernel
theorem d_CS_present_31 : decode b_CS_present 31 = .ok (.invokevirtual 152, 3) := by decide +kernel
theorem d_CS_present_34 : decode b_CS_present 34 = .ok (.istore 5, 2) := by decide +kernel
theorem d_CS_present_36 : decode b_CS_present 36 = .ok (.aload 4, 2) := by decide +kernel
theorem d_CS_present_38 : decode b_CS_present 38 = .ok (.ifnull 34, 3) := by decide +kernel
theorem d_CS_present_41 : decode b_CS_present 41 = .ok (.iload 5, 2) := by decide +kernel
theorem d_CS_present_43 : decode b_CS_present 43 = .ok (.bipush 6, 2) := by decide +kernel
theorem d_CS_present_45 : decode b_CS_present 45 = .ok (.if_icmp .lt 27, 3) := by decide +kernel
theorem d_CS_present_48 : decode b_CS_present 48 = .ok (.iload_n 3, 1) := by decide +kernel
theorem d_CS_present_49 : decode b_CS_present 49 = .ok (.aload 4, 2) := by decide +kernel
theorem d_CS_present_51 : decode b_CS_present 51 = .ok (.getfield 134, 3) := by decide +kernel
theorem d_CS_present_54 : decode b_CS_present 54 = .ok (.if_icmp .ne 15, 3) := by decide +kernel
theorem d_CS_present_57 : decode b_CS_present 57 = .ok (.iload_n 3, 1) := by decide +kernel
theorem d_CS_present_58 : decode b_CS_present 58 = .ok (.aload 4, 2) := by decide +kernel
theorem d_CS_present_60 : decode b_CS_present 60 = .ok (.getfield 147, 3) := by decide +kernel
theorem d_CS_present_63 : decode b_CS_present 63 = .ok (.invokestatic 160, 3) := by decide +kernel
theorem d_CS_present_66 : decode b_CS_present 66 = .ok (.goto 5, 3) := by decide +kernel
theorem d_CS_present_69 : decode b_CS_present 69 = .ok (.bipush (-2), 2) := by decide +kernel
theorem d_CS_present_71 : decode b_CS_present 71 = .ok (.ireturn, 1) := by decide +kernel
theorem d_CS_present_72 : decode b_CS_present 72 = .ok (.aload 4, 2) := by decide +kernel
theorem d_CS_present_74 : decode b_CS_present 74 = .ok (.ifnull 15, 3) := by decide +kernel
theorem d_CS_present_77 : decode b_CS_present 77 = .ok (.iload 5, 2) := by decide +kernel
theorem d_CS_present_79 : decode b_CS_present 79 = .ok (.iconst 2, 1) := by decide +kernel
theorem d_CS_present_80 : decode b_CS_present 80 = .ok (.if_icmp .eq 12, 3) := by decide +kernel
theorem d_CS_present_83 : decode b_CS_present 83 = .ok (.iload 5, 2) := by decide +kernel
theorem d_CS_present_85 : decode b_CS_present 85 = .ok (.iconst 3, 1) := by decide +kernel
theorem d_CS_present_86 : decode b_CS_present 86 = .ok (.if_icmp .eq 6, 3) := by decide +kernel
theorem d_CS_present_89 : decode b_CS_present 89 = .ok (.bipush (-11), 2) := by decide +kernel
theorem d_CS_present_91 : decode b_CS_present 91 = .ok (.ireturn, 1) := by decide +kernel
theorem d_CS_present_92 : decode b_CS_present 92 = .ok (.iload_n 3, 1) := by decide +kernel
theorem d_CS_present_93 : decode b_CS_present 93 = .ok (.aload 4, 2) := by decide +kernel
theorem d_CS_present_95 : decode b_CS_present 95 = .ok (.getfield 134, 3) := by decide +kernel
theorem d_CS_present_98 : decode b_CS_present 98 = .ok (.if_icmp .le 6, 3) := by decide +kernel
theorem d_CS_present_101 : decode b_CS_present 101 = .ok (.bipush (-10), 2) := by decide +kernel
theorem d_CS_present_103 : decode b_CS_present 103 = .ok (.ireturn, 1) := by decide +kernel
theorem d_CS_present_104 : decode b_CS_present 104 = .ok (.iload 5, 2) := by decide +kernel
theorem d_CS_present_106 : decode b_CS_present 106 = .ok (.iconst 3, 1) := by decide +kernel
theorem d_CS_present_107 : decode b_CS_present 107 = .ok (.if_icmp .ne 23, 3) := by decide +kernel
theorem d_CS_present_110 : decode b_CS_present 110 = .ok (.aload_n 0, 1) := by decide +kernel
theorem d_CS_present_111 : decode b_CS_present 111 = .ok (.aload_n 0, 1) := by decide +kernel
theorem d_CS_present_112 : decode b_CS_present 112 = .ok (.aload 4, 2) := by decide +kernel
theorem d_CS_present_114 : decode b_CS_present 114 = .ok (.getfield 120, 3) := by decide +kernel
theorem d_CS_present_117 : decode b_CS_present 117 = .ok (.invokevirtual 78, 3) := by decide +kernel
theorem d_CS_present_120 : decode b_CS_present 120 = .ok (.invokevirtual 163, 3) := by decide +kernel
theorem d_CS_present_123 : decode b_CS_present 123 = .ok (.iload_n 3, 1) := by decide +kernel
theorem d_CS_present_124 : decode b_CS_present 124 = .ok (.if_icmp .ge 6, 3) := by decide +kernel
theorem d_CS_present_127 : decode b_CS_present 127 = .ok (.bipush (-7), 2) := by decide +kernel
theorem d_CS_present_129 : decode b_CS_present 129 = .ok (.ireturn, 1) := by decide +kernel
theorem d_CS_present_130 : decode b_CS_present 130 = .ok (.aload_n 0, 1) := by decide +kernel
theorem d_CS_present_131 : decode b_CS_present 131 = .ok (.aload 4, 2) := by decide +kernel
theorem d_CS_present_133 : decode b_CS_present 133 = .ok (.iload_n 3, 1) := by decide +kernel
theorem d_CS_present_134 : decode b_CS_present 134 = .ok (.invokevirtual 167, 3) := by decide +kernel
theorem d_CS_present_137 : decode b_CS_present 137 = .ok (.ireturn, 1) := by decide +kernel
theorem d_CS_chargeback_0 : decode b_CS_chargeback 0 = .ok (.iload_n 1, 1) := by decide +kernel
theorem d_CS_chargeback_1 : decode b_CS_chargeback 1 = .ok (.iload_n 2, 1) := by decide +kernel
theorem d_CS_chargeback_2 : decode b_CS_chargeback 2 = .ok (.invokestatic 94, 3) := by decide +kernel
theorem d_CS_chargeback_5 : decode b_CS_chargeback 5 = .ok (.ifCond .eq 5, 3) := by decide +kernel
theorem d_CS_chargeback_8 : decode b_CS_chargeback 8 = .ok (.iconst (-1), 1) := by decide +kernel
theorem d_CS_chargeback_9 : decode b_CS_chargeback 9 = .ok (.ireturn, 1) := by decide +kernel
theorem d_CS_chargeback_10 : decode b_CS_chargeback 10 = .ok (.aload_n 0, 1) := by decide +kernel
theorem d_CS_chargeback_11 : decode b_CS_chargeback 11 = .ok (.iload_n 1, 1) := by decide +kernel
theorem d_CS_chargeback_12 : decode b_CS_chargeback 12 = .ok (.iload_n 2, 1) := by decide +kernel
theorem d_CS_chargeback_13 : decode b_CS_chargeback 13 = .ok (.invokevirtual 99, 3) := by decide +kernel
theorem d_CS_chargeback_16 : decode b_CS_chargeback 16 = .ok (.astore_n 3, 1) := by decide +kernel
theorem d_CS_chargeback_17 : decode b_CS_chargeback 17 = .ok (.aload_n 0, 1) := by decide +kernel
theorem d_CS_chargeback_18 : decode b_CS_chargeback 18 = .ok (.aload_n 3, 1) := by decide +kernel
theorem d_CS_chargeback_19 : decode b_CS_chargeback 19 = .ok (.invokevirtual 152, 3) := by decide +kernel
theorem d_CS_chargeback_22 : decode b_CS_chargeback 22 = .ok (.istore 4, 2) := by decide +kernel
theorem d_CS_chargeback_24 : decode b_CS_chargeback 24 = .ok (.aload_n 3, 1) := by decide +kernel
theorem d_CS_chargeback_25 : decode b_CS_chargeback 25 = .ok (.ifnull 10, 3) := by decide +kernel
theorem d_CS_chargeback_28 : decode b_CS_chargeback 28 = .ok (.iload 4, 2) := by decide +kernel
theorem d_CS_chargeback_30 : decode b_CS_chargeback 30 = .ok (.bipush 6, 2) := by decide +kernel
theorem d_CS_chargeback_32 : decode b_CS_chargeback 32 = .ok (.if_icmp .ge 6, 3) := by decide +kernel
theorem d_CS_chargeback_35 : decode b_CS_chargeback 35 = .ok (.bipush (-11), 2) := by decide +kernel
theorem d_CS_chargeback_37 : decode b_CS_chargeback 37 = .ok (.ireturn, 1) := by decide +kernel
theorem d_CS_chargeback_38 : decode b_CS_chargeback 38 = .ok (.iload 4, 2) := by decide +kernel
theorem d_CS_chargeback_40 : decode b_CS_chargeback 40 = .ok (.bipush 6, 2) := by decide +kernel
theorem d_CS_chargeback_42 : decode b_CS_chargeback 42 = .ok (.if_icmp .le 5, 3) := by decide +kernel
theorem d_CS_chargeback_45 : decode b_CS_chargeback 45 = .ok (.iconst 0, 1) := by decide +kernel
theorem d_CS_chargeback_46 : decode b_CS_chargeback 46 = .ok (.ireturn, 1) := by decide +kernel
theorem d_CS_chargeback_47 : decode b_CS_chargeback 47 = .ok (.aload_n 0, 1) := by decide +kernel
theorem d_CS_chargeback_48 : decode b_CS_chargeback 48 = .ok (.getfield 137, 3) := by decide +kernel
theorem d_CS_chargeback_51 : decode b_CS_chargeback 51 = .ok (.aload_n 3, 1) := by decide +kernel
theorem d_CS_chargeback_52 : decode b_CS_chargeback 52 = .ok (.getfield 143, 3) := by decide +kernel
theorem d_CS_chargeback_55 : decode b_CS_chargeback 55 = .ok (.isub, 1) := by decide +kernel
theorem d_CS_chargeback_56 : decode b_CS_chargeback 56 = .ok (.bipush 30, 2) := by decide +kernel
theorem d_CS_chargeback_58 : decode b_CS_chargeback 58 = .ok (.if_icmp .le 6, 3) := by decide +kernel
theorem d_CS_chargeback_61 : decode b_CS_chargeback 61 = .ok (.bipush (-9), 2) := by decide +kernel
theorem d_CS_chargeback_63 : decode b_CS_chargeback 63 = .ok (.ireturn, 1) := by decide +kernel
theorem d_CS_chargeback_64 : decode b_CS_chargeback 64 = .ok (.aload_n 0, 1) := by decide +kernel
theorem d_CS_chargeback_65 : decode b_CS_chargeback 65 = .ok (.aconst_null, 1) := by decide +kernel
theorem d_CS_chargeback_66 : decode b_CS_chargeback 66 = .ok (.aload_n 3, 1) := by decide +kernel
theorem d_CS_chargeback_67 : decode b_CS_chargeback 67 = .ok (.invokevirtual 60, 3) := by decide +kernel
theorem d_CS_chargeback_70 : decode b_CS_chargeback 70 = .ok (.aload_n 3, 1) := by decide +kernel
theorem d_CS_chargeback_71 : decode b_CS_chargeback 71 = .ok (.bipush 7, 2) := by decide +kernel
theorem d_CS_chargeback_73 : decode b_CS_chargeback 73 = .ok (.putfield 131, 3) := by decide +kernel
theorem d_CS_chargeback_76 : decode b_CS_chargeback 76 = .ok (.aload_n 3, 1) := by decide +kernel
theorem d_CS_chargeback_77 : decode b_CS_chargeback 77 = .ok (.aload_n 0, 1) := by decide +kernel
theorem d_CS_chargeback_78 : decode b_CS_chargeback 78 = .ok (.getfield 137, 3) := by decide +kernel
theorem d_CS_chargeback_81 : decode b_CS_chargeback 81 = .ok (.putfield 143, 3) := by decide +kernel
theorem d_CS_chargeback_84 : decode b_CS_chargeback 84 = .ok (.aload_n 0, 1) := by decide +kernel
theorem d_CS_chargeback_85 : decode b_CS_chargeback 85 = .ok (.getfield 33, 3) := by decide +kernel
theorem d_CS_chargeback_88 : decode b_CS_chargeback 88 = .ok (.aload_n 3, 1) := by decide +kernel
theorem d_CS_chargeback_89 : decode b_CS_chargeback 89 = .ok (.getfield 170, 3) := by decide +kernel
theorem d_CS_chargeback_92 : decode b_CS_chargeback 92 = .ok (.aload_n 3, 1) := by decide +kernel
theorem d_CS_chargeback_93 : decode b_CS_chargeback 93 = .ok (.getfield 146, 3) := by decide +kernel
theorem d_CS_chargeback_96 : decode b_CS_chargeback 96 = .ok (.aload_n 3, 1) := by decide +kernel
theorem d_CS_chargeback_97 : decode b_CS_chargeback 97 = .ok (.getfield 134, 3) := by decide +kernel
theorem d_CS_chargeback_100 : decode b_CS_chargeback 100 = .ok (.invokevirtual 173, 3) := by decide +kernel
theorem d_CS_chargeback_103 : decode b_CS_chargeback 103 = .ok (.aload_n 3, 1) := by decide +kernel
theorem d_CS_chargeback_104 : decode b_CS_chargeback 104 = .ok (.getfield 134, 3) := by decide +kernel
theorem d_CS_chargeback_107 : decode b_CS_chargeback 107 = .ok (.ireturn, 1) := by decide +kernel
theorem d_CS_represent_0 : decode b_CS_represent 0 = .ok (.iload_n 1, 1) := by decide +kernel
theorem d_CS_represent_1 : decode b_CS_represent 1 = .ok (.iload_n 2, 1) := by decide +kernel
theorem d_CS_represent_2 : decode b_CS_represent 2 = .ok (.invokestatic 94, 3) := by decide +kernel
theorem d_CS_represent_5 : decode b_CS_represent 5 = .ok (.ifCond .eq 5, 3) := by decide +kernel
theorem d_CS_represent_8 : decode b_CS_represent 8 = .ok (.iconst (-1), 1) := by decide +kernel
theorem d_CS_represent_9 : decode b_CS_represent 9 = .ok (.ireturn, 1) := by decide +kernel
theorem d_CS_represent_10 : decode b_CS_represent 10 = .ok (.aload_n 0, 1) := by decide +kernel
theorem d_CS_represent_11 : decode b_CS_represent 11 = .ok (.iload_n 1, 1) := by decide +kernel
theorem d_CS_represent_12 : decode b_CS_represent 12 = .ok (.iload_n 2, 1) := by decide +kernel
theorem d_CS_represent_13 : decode b_CS_represent 13 = .ok (.invokevirtual 99, 3) := by decide +kernel
theorem d_CS_represent_16 : decode b_CS_represent 16 = .ok (.astore_n 3, 1) := by decide +kernel
theorem d_CS_represent_17 : decode b_CS_represent 17 = .ok (.aload_n 0, 1) := by decide +kernel
theorem d_CS_represent_18 : decode b_CS_represent 18 = .ok (.aload_n 3, 1) := by decide +kernel
theorem d_CS_represent_19 : decode b_CS_represent 19 = .ok (.invokevirtual 152, 3) := by decide +kernel
theorem d_CS_represent_22 : decode b_CS_represent 22 = .ok (.istore 4, 2) := by decide +kernel
theorem d_CS_represent_24 : decode b_CS_represent 24 = .ok (.iload 4, 2) := by decide +kernel
theorem d_CS_represent_26 : decode b_CS_represent 26 = .ok (.bipush 8, 2) := by decide +kernel
theorem d_CS_represent_28 : decode b_CS_represent 28 = .ok (.if_icmp .ne 5, 3) := by decide +kernel
theorem d_CS_represent_31 : decode b_CS_represent 31 = .ok (.iconst 0, 1) := by decide +kernel
theorem d_CS_represent_32 : decode b_CS_represent 32 = .ok (.ireturn, 1) := by decide +kernel
theorem d_CS_represent_33 : decode b_CS_represent 33 = .ok (.iload 4, 2) := by decide +kernel
theorem d_CS_represent_35 : decode b_CS_represent 35 = .ok (.bipush 9, 2) := by decide +kernel
theorem d_CS_represent_37 : decode b_CS_represent 37 = .ok (.if_icmp .ne 6, 3) := by decide +kernel
theorem d_CS_represent_40 : decode b_CS_represent 40 = .ok (.bipush (-9), 2) := by decide +kernel
theorem d_CS_represent_42 : decode b_CS_represent 42 = .ok (.ireturn, 1) := by decide +kernel
theorem d_CS_represent_43 : decode b_CS_represent 43 = .ok (.aload_n 3, 1) := by decide +kernel
theorem d_CS_represent_44 : decode b_CS_represent 44 = .ok (.ifnull 10, 3) := by decide +kernel
theorem d_CS_represent_47 : decode b_CS_represent 47 = .ok (.iload 4, 2) := by decide +kernel
theorem d_CS_represent_49 : decode b_CS_represent 49 = .ok (.bipush 7, 2) := by decide +kernel
theorem d_CS_represent_51 : decode b_CS_represent 51 = .ok (.if_icmp .eq 6, 3) := by decide +kernel
theorem d_CS_represent_54 : decode b_CS_represent 54 = .ok (.bipush (-11), 2) := by decide +kernel
theorem d_CS_represent_56 : decode b_CS_represent 56 = .ok (.ireturn, 1) := by decide +kernel
theorem d_CS_represent_57 : decode b_CS_represent 57 = .ok (.aload_n 0, 1) := by decide +kernel
theorem d_CS_represent_58 : decode b_CS_represent 58 = .ok (.aconst_null, 1) := by decide +kernel
theorem d_CS_represent_59 : decode b_CS_represent 59 = .ok (.aload_n 3, 1) := by decide +kernel
theorem d_CS_represent_60 : decode b_CS_represent 60 = .ok (.invokevirtual 60, 3) := by decide +kernel
theorem d_CS_represent_63 : decode b_CS_represent 63 = .ok (.aload_n 3, 1) := by decide +kernel
theorem d_CS_represent_64 : decode b_CS_represent 64 = .ok (.bipush 8, 2) := by decide +kernel
theorem d_CS_represent_66 : decode b_CS_represent 66 = .ok (.putfield 131, 3) := by decide +kernel
theorem d_CS_represent_69 : decode b_CS_represent 69 = .ok (.aload_n 0, 1) := by decide +kernel
theorem d_CS_represent_70 : decode b_CS_represent 70 = .ok (.getfield 33, 3) := by decide +kernel
theorem d_CS_represent_73 : decode b_CS_represent 73 = .ok (.aload_n 3, 1) := by decide +kernel
theorem d_CS_represent_74 : decode b_CS_represent 74 = .ok (.getfield 170, 3) := by decide +kernel
theorem d_CS_represent_77 : decode b_CS_represent 77 = .ok (.aload_n 3, 1) := by decide +kernel
theorem d_CS_represent_78 : decode b_CS_represent 78 = .ok (.getfield 146, 3) := by decide +kernel
theorem d_CS_represent_81 : decode b_CS_represent 81 = .ok (.aload_n 3, 1) := by decide +kernel
theorem d_CS_represent_82 : decode b_CS_represent 82 = .ok (.getfield 134, 3) := by decide +kernel
theorem d_CS_represent_85 : decode b_CS_represent 85 = .ok (.invokevirtual 177, 3) := by decide +kernel
theorem d_CS_represent_88 : decode b_CS_represent 88 = .ok (.aload_n 3, 1) := by decide +kernel
theorem d_CS_represent_89 : decode b_CS_represent 89 = .ok (.getfield 134, 3) := by decide +kernel
theorem d_CS_represent_92 : decode b_CS_represent 92 = .ok (.ireturn, 1) := by decide +kernel
theorem d_CS_reconcile_0 : decode b_CS_reconcile 0 = .ok (.iload_n 1, 1) := by decide +kernel
theorem d_CS_reconcile_1 : decode b_CS_reconcile 1 = .ok (.invokestatic 48, 3) := by decide +kernel
theorem d_CS_reconcile_4 : decode b_CS_reconcile 4 = .ok (.ifCond .eq 34, 3) := by decide +kernel
theorem d_CS_reconcile_7 : decode b_CS_reconcile 7 = .ok (.aload_n 0, 1) := by decide +kernel
theorem d_CS_reconcile_8 : decode b_CS_reconcile 8 = .ok (.getfield 33, 3) := by decide +kernel
theorem d_CS_reconcile_11 : decode b_CS_reconcile 11 = .ok (.getfield 180, 3) := by decide +kernel
theorem d_CS_reconcile_14 : decode b_CS_reconcile 14 = .ok (.iload_n 1, 1) := by decide +kernel
theorem d_CS_reconcile_15 : decode b_CS_reconcile 15 = .ok (.iaload, 1) := by decide +kernel
theorem d_CS_reconcile_16 : decode b_CS_reconcile 16 = .ok (.iload_n 2, 1) := by decide +kernel
theorem d_CS_reconcile_17 : decode b_CS_reconcile 17 = .ok (.if_icmp .ne 21, 3) := by decide +kernel
theorem d_CS_reconcile_20 : decode b_CS_reconcile 20 = .ok (.aload_n 0, 1) := by decide +kernel
theorem d_CS_reconcile_21 : decode b_CS_reconcile 21 = .ok (.getfield 33, 3) := by decide +kernel
theorem d_CS_reconcile_24 : decode b_CS_reconcile 24 = .ok (.getfield 184, 3) := by decide +kernel
theorem d_CS_reconcile_27 : decode b_CS_reconcile 27 = .ok (.iload_n 1, 1) := by decide +kernel
theorem d_CS_reconcile_28 : decode b_CS_reconcile 28 = .ok (.laload, 1) := by decide +kernel
theorem d_CS_reconcile_29 : decode b_CS_reconcile 29 = .ok (.lload_n 3, 1) := by decide +kernel
theorem d_CS_reconcile_30 : decode b_CS_reconcile 30 = .ok (.lcmp, 1) := by decide +kernel
theorem d_CS_reconcile_31 : decode b_CS_reconcile 31 = .ok (.ifCond .ne 7, 3) := by decide +kernel
theorem d_CS_reconcile_34 : decode b_CS_reconcile 34 = .ok (.iconst 1, 1) := by decide +kernel
theorem d_CS_reconcile_35 : decode b_CS_reconcile 35 = .ok (.goto 4, 3) := by decide +kernel
theorem d_CS_reconcile_38 : decode b_CS_reconcile 38 = .ok (.iconst 0, 1) := by decide +kernel
theorem d_CS_reconcile_39 : decode b_CS_reconcile 39 = .ok (.ireturn, 1) := by decide +kernel
theorem d_CS_cutoff_0 : decode b_CS_cutoff 0 = .ok (.aload_n 0, 1) := by decide +kernel
theorem d_CS_cutoff_1 : decode b_CS_cutoff 1 = .ok (.getfield 33, 3) := by decide +kernel
theorem d_CS_cutoff_4 : decode b_CS_cutoff 4 = .ok (.getfield 188, 3) := by decide +kernel
theorem d_CS_cutoff_7 : decode b_CS_cutoff 7 = .ok (.istore_n 1, 1) := by decide +kernel
theorem d_CS_cutoff_8 : decode b_CS_cutoff 8 = .ok (.iload_n 1, 1) := by decide +kernel
theorem d_CS_cutoff_9 : decode b_CS_cutoff 9 = .ok (.ifCond .le 16, 3) := by decide +kernel
theorem d_CS_cutoff_12 : decode b_CS_cutoff 12 = .ok (.aload_n 0, 1) := by decide +kernel
theorem d_CS_cutoff_13 : decode b_CS_cutoff 13 = .ok (.aconst_null, 1) := by decide +kernel
theorem d_CS_cutoff_14 : decode b_CS_cutoff 14 = .ok (.aconst_null, 1) := by decide +kernel
theorem d_CS_cutoff_15 : decode b_CS_cutoff 15 = .ok (.invokevirtual 60, 3) := by decide +kernel
theorem d_CS_cutoff_18 : decode b_CS_cutoff 18 = .ok (.aload_n 0, 1) := by decide +kernel
theorem d_CS_cutoff_19 : decode b_CS_cutoff 19 = .ok (.getfield 33, 3) := by decide +kernel
theorem d_CS_cutoff_22 : decode b_CS_cutoff 22 = .ok (.invokevirtual 191, 3) := by decide +kernel
theorem d_CS_cutoff_25 : decode b_CS_cutoff 25 = .ok (.iload_n 1, 1) := by decide +kernel
theorem d_CS_cutoff_26 : decode b_CS_cutoff 26 = .ok (.ireturn, 1) := by decide +kernel
theorem d_CS_tick_0 : decode b_CS_tick 0 = .ok (.iload_n 1, 1) := by decide +kernel
theorem d_CS_tick_1 : decode b_CS_tick 1 = .ok (.iconst 1, 1) := by decide +kernel
theorem d_CS_tick_2 : decode b_CS_tick 2 = .ok (.bipush 100, 2) := by decide +kernel
theorem d_CS_tick_4 : decode b_CS_tick 4 = .ok (.invokestatic 44, 3) := by decide +kernel
theorem d_CS_tick_7 : decode b_CS_tick 7 = .ok (.ifCond .eq 13, 3) := by decide +kernel
theorem d_CS_tick_10 : decode b_CS_tick 10 = .ok (.aload_n 0, 1) := by decide +kernel
theorem d_CS_tick_11 : decode b_CS_tick 11 = .ok (.dup, 1) := by decide +kernel
theorem d_CS_tick_12 : decode b_CS_tick 12 = .ok (.getfield 137, 3) := by decide +kernel
theorem d_CS_tick_15 : decode b_CS_tick 15 = .ok (.iload_n 1, 1) := by decide +kernel
theorem d_CS_tick_16 : decode b_CS_tick 16 = .ok (.iadd, 1) := by decide +kernel
theorem d_CS_tick_17 : decode b_CS_tick 17 = .ok (.putfield 137, 3) := by decide +kernel
theorem d_CS_tick_20 : decode b_CS_tick 20 = .ok (.aload_n 0, 1) := by decide +kernel
theorem d_CS_tick_21 : decode b_CS_tick 21 = .ok (.getfield 137, 3) := by decide +kernel
theorem d_CS_tick_24 : decode b_CS_tick 24 = .ok (.ireturn, 1) := by decide +kernel
theorem d_CS_flush_0 : decode b_CS_flush 0 = .ok (.aload_n 0, 1) := by decide +kernel
theorem d_CS_flush_1 : decode b_CS_flush 1 = .ok (.getfield 194, 3) := by decide +kernel
theorem d_CS_flush_4 : decode b_CS_flush 4 = .ok (.istore_n 1, 1) := by decide +kernel
theorem d_CS_flush_5 : decode b_CS_flush 5 = .ok (.aload_n 0, 1) := by decide +kernel
theorem d_CS_flush_6 : decode b_CS_flush 6 = .ok (.iconst 0, 1) := by decide +kernel
theorem d_CS_flush_7 : decode b_CS_flush 7 = .ok (.putfield 194, 3) := by decide +kernel
theorem d_CS_flush_10 : decode b_CS_flush 10 = .ok (.iload_n 1, 1) := by decide +kernel
theorem d_CS_flush_11 : decode b_CS_flush 11 = .ok (.ireturn, 1) := by decide +kernel
theorem d_CS_crash_0 : decode b_CS_crash 0 = .ok (.iload_n 1, 1) := by decide +kernel
theorem d_CS_crash_1 : decode b_CS_crash 1 = .ok (.iconst 0, 1) := by decide +kernel
theorem d_CS_crash_2 : decode b_CS_crash 2 = .ok (.aload_n 0, 1) := by decide +kernel
theorem d_CS_crash_3 : decode b_CS_crash 3 = .ok (.getfield 194, 3) := by decide +kernel
theorem d_CS_crash_6 : decode b_CS_crash 6 = .ok (.invokestatic 44, 3) := by decide +kernel
theorem d_CS_crash_9 : decode b_CS_crash 9 = .ok (.ifCond .ne 5, 3) := by decide +kernel
theorem d_CS_crash_12 : decode b_CS_crash 12 = .ok (.iconst 0, 1) := by decide +kernel
theorem d_CS_crash_13 : decode b_CS_crash 13 = .ok (.ireturn, 1) := by decide +kernel
theorem d_CS_crash_14 : decode b_CS_crash 14 = .ok (.iconst 0, 1) := by decide +kernel
theorem d_CS_crash_15 : decode b_CS_crash 15 = .ok (.istore_n 2, 1) := by decide +kernel
theorem d_CS_crash_16 : decode b_CS_crash 16 = .ok (.iload_n 2, 1) := by decide +kernel
theorem d_CS_crash_17 : decode b_CS_crash 17 = .ok (.iload_n 1, 1) := by decide +kernel
theorem d_CS_crash_18 : decode b_CS_crash 18 = .ok (.if_icmp .ge 32, 3) := by decide +kernel
theorem d_CS_crash_21 : decode b_CS_crash 21 = .ok (.aload_n 0, 1) := by decide +kernel
theorem d_CS_crash_22 : decode b_CS_crash 22 = .ok (.dup, 1) := by decide +kernel
theorem d_CS_crash_23 : decode b_CS_crash 23 = .ok (.getfield 194, 3) := by decide +kernel
theorem d_CS_crash_26 : decode b_CS_crash 26 = .ok (.iconst 1, 1) := by decide +kernel
theorem d_CS_crash_27 : decode b_CS_crash 27 = .ok (.isub, 1) := by decide +kernel
theorem d_CS_crash_28 : decode b_CS_crash 28 = .ok (.putfield 194, 3) := by decide +kernel
theorem d_CS_crash_31 : decode b_CS_crash 31 = .ok (.aload_n 0, 1) := by decide +kernel
theorem d_CS_crash_32 : decode b_CS_crash 32 = .ok (.aload_n 0, 1) := by decide +kernel
theorem d_CS_crash_33 : decode b_CS_crash 33 = .ok (.getfield 39, 3) := by decide +kernel
theorem d_CS_crash_36 : decode b_CS_crash 36 = .ok (.aload_n 0, 1) := by decide +kernel
theorem d_CS_crash_37 : decode b_CS_crash 37 = .ok (.getfield 194, 3) := by decide +kernel
theorem d_CS_crash_40 : decode b_CS_crash 40 = .ok (.aaload, 1) := by decide +kernel
theorem d_CS_crash_41 : decode b_CS_crash 41 = .ok (.invokevirtual 197, 3) := by decide +kernel
theorem d_CS_crash_44 : decode b_CS_crash 44 = .ok (.iinc 2 1, 3) := by decide +kernel
theorem d_CS_crash_47 : decode b_CS_crash 47 = .ok (.goto (-31), 3) := by decide +kernel
theorem d_CS_crash_50 : decode b_CS_crash 50 = .ok (.aload_n 0, 1) := by decide +kernel
theorem d_CS_crash_51 : decode b_CS_crash 51 = .ok (.iconst 0, 1) := by decide +kernel
theorem d_CS_crash_52 : decode b_CS_crash 52 = .ok (.putfield 194, 3) := by decide +kernel
theorem d_CS_crash_55 : decode b_CS_crash 55 = .ok (.iconst 1, 1) := by decide +kernel
theorem d_CS_crash_56 : decode b_CS_crash 56 = .ok (.ireturn, 1) := by decide +kernel
theorem d_CS_unwritten_0 : decode b_CS_unwritten 0 = .ok (.aload_n 0, 1) := by decide +kernel
theorem d_CS_unwritten_1 : decode b_CS_unwritten 1 = .ok (.getfield 194, 3) := by decide +kernel
theorem d_CS_unwritten_4 : decode b_CS_unwritten 4 = .ok (.ireturn, 1) := by decide +kernel
theorem d_CS_state_0 : decode b_CS_state 0 = .ok (.iload_n 1, 1) := by decide +kernel
theorem d_CS_state_1 : decode b_CS_state 1 = .ok (.iload_n 2, 1) := by decide +kernel
theorem d_CS_state_2 : decode b_CS_state 2 = .ok (.invokestatic 94, 3) := by decide +kernel
theorem d_CS_state_5 : decode b_CS_state 5 = .ok (.ifCond .eq 7, 3) := by decide +kernel
theorem d_CS_state_8 : decode b_CS_state 8 = .ok (.iconst (-1), 1) := by decide +kernel
theorem d_CS_state_9 : decode b_CS_state 9 = .ok (.goto 13, 3) := by decide +kernel
theorem d_CS_state_12 : decode b_CS_state 12 = .ok (.aload_n 0, 1) := by decide +kernel
theorem d_CS_state_13 : decode b_CS_state 13 = .ok (.aload_n 0, 1) := by decide +kernel
theorem d_CS_state_14 : decode b_CS_state 14 = .ok (.iload_n 1, 1) := by decide +kernel
theorem d_CS_state_15 : decode b_CS_state 15 = .ok (.iload_n 2, 1) := by decide +kernel
theorem d_CS_state_16 : decode b_CS_state 16 = .ok (.invokevirtual 99, 3) := by decide +kernel
theorem d_CS_state_19 : decode b_CS_state 19 = .ok (.invokevirtual 152, 3) := by decide +kernel
theorem d_CS_state_22 : decode b_CS_state 22 = .ok (.ireturn, 1) := by decide +kernel
theorem d_CS_held_0 : decode b_CS_held 0 = .ok (.iload_n 1, 1) := by decide +kernel
theorem d_CS_held_1 : decode b_CS_held 1 = .ok (.iload_n 2, 1) := by decide +kernel
theorem d_CS_held_2 : decode b_CS_held 2 = .ok (.invokestatic 94, 3) := by decide +kernel
theorem d_CS_held_5 : decode b_CS_held 5 = .ok (.ifCond .eq 5, 3) := by decide +kernel
theorem d_CS_held_8 : decode b_CS_held 8 = .ok (.iconst (-1), 1) := by decide +kernel
theorem d_CS_held_9 : decode b_CS_held 9 = .ok (.ireturn, 1) := by decide +kernel
theorem d_CS_held_10 : decode b_CS_held 10 = .ok (.aload_n 0, 1) := by decide +kernel
theorem d_CS_held_11 : decode b_CS_held 11 = .ok (.iload_n 1, 1) := by decide +kernel
theorem d_CS_held_12 : decode b_CS_held 12 = .ok (.iload_n 2, 1) := by decide +kernel
theorem d_CS_held_13 : decode b_CS_held 13 = .ok (.invokevirtual 99, 3) := by decide +kernel
theorem d_CS_held_16 : decode b_CS_held 16 = .ok (.astore_n 3, 1) := by decide +kernel
theorem d_CS_held_17 : decode b_CS_held 17 = .ok (.aload_n 0, 1) := by decide +kernel
theorem d_CS_held_18 : decode b_CS_held 18 = .ok (.aload_n 3, 1) := by decide +kernel
theorem d_CS_held_19 : decode b_CS_held 19 = .ok (.invokevirtual 152, 3) := by decide +kernel
theorem d_CS_held_22 : decode b_CS_held 22 = .ok (.istore 4, 2) := by decide +kernel
theorem d_CS_held_24 : decode b_CS_held 24 = .ok (.aload_n 3, 1) := by decide +kernel
theorem d_CS_held_25 : decode b_CS_held 25 = .ok (.ifnull 23, 3) := by decide +kernel
theorem d_CS_held_28 : decode b_CS_held 28 = .ok (.iload 4, 2) := by decide +kernel
theorem d_CS_held_30 : decode b_CS_held 30 = .ok (.iconst 2, 1) := by decide +kernel
theorem d_CS_held_31 : decode b_CS_held 31 = .ok (.if_icmp .eq 10, 3) := by decide +kernel
theorem d_CS_held_34 : decode b_CS_held 34 = .ok (.iload 4, 2) := by decide +kernel
theorem d_CS_held_36 : decode b_CS_held 36 = .ok (.bipush 7, 2) := by decide +kernel
theorem d_CS_held_38 : decode b_CS_held 38 = .ok (.if_icmp .ne 10, 3) := by decide +kernel
theorem d_CS_held_41 : decode b_CS_held 41 = .ok (.aload_n 3, 1) := by decide +kernel
theorem d_CS_held_42 : decode b_CS_held 42 = .ok (.getfield 134, 3) := by decide +kernel
theorem d_CS_held_45 : decode b_CS_held 45 = .ok (.goto 4, 3) := by decide +kernel
theorem d_CS_held_48 : decode b_CS_held 48 = .ok (.iconst 0, 1) := by decide +kernel
theorem d_CS_held_49 : decode b_CS_held 49 = .ok (.ireturn, 1) := by decide +kernel
theorem d_CS_available_0 : decode b_CS_available 0 = .ok (.aload_n 0, 1) := by decide +kernel
theorem d_CS_available_1 : decode b_CS_available 1 = .ok (.iload_n 1, 1) := by decide +kernel
theorem d_CS_available_2 : decode b_CS_available 2 = .ok (.invokevirtual 78, 3) := by decide +kernel
theorem d_CS_available_5 : decode b_CS_available 5 = .ok (.astore_n 2, 1) := by decide +kernel
theorem d_CS_available_6 : decode b_CS_available 6 = .ok (.aload_n 2, 1) := by decide +kernel
theorem d_CS_available_7 : decode b_CS_available 7 = .ok (.ifnonnull 8, 3) := by decide +kernel
theorem d_CS_available_10 : decode b_CS_available 10 = .ok (.bipush (-4), 2) := by decide +kernel
theorem d_CS_available_12 : decode b_CS_available 12 = .ok (.goto 8, 3) := by decide +kernel
theorem d_CS_available_15 : decode b_CS_available 15 = .ok (.aload_n 0, 1) := by decide +kernel
theorem d_CS_available_16 : decode b_CS_available 16 = .ok (.aload_n 2, 1) := by decide +kernel
theorem d_CS_available_17 : decode b_CS_available 17 = .ok (.invokevirtual 163, 3) := by decide +kernel
theorem d_CS_available_20 : decode b_CS_available 20 = .ok (.ireturn, 1) := by decide +kernel
theorem d_CS_position_0 : decode b_CS_position 0 = .ok (.iload_n 1, 1) := by decide +kernel
theorem d_CS_position_1 : decode b_CS_position 1 = .ok (.iconst 0, 1) := by decide +kernel
theorem d_CS_position_2 : decode b_CS_position 2 = .ok (.bipush 8, 2) := by decide +kernel
theorem d_CS_position_4 : decode b_CS_position 4 = .ok (.invokestatic 44, 3) := by decide +kernel
theorem d_CS_position_7 : decode b_CS_position 7 = .ok (.ifCond .eq 15, 3) := by decide +kernel
theorem d_CS_position_10 : decode b_CS_position 10 = .ok (.aload_n 0, 1) := by decide +kernel
theorem d_CS_position_11 : decode b_CS_position 11 = .ok (.getfield 33, 3) := by decide +kernel
theorem d_CS_position_14 : decode b_CS_position 14 = .ok (.getfield 201, 3) := by decide +kernel
theorem d_CS_position_17 : decode b_CS_position 17 = .ok (.iload_n 1, 1) := by decide +kernel
theorem d_CS_position_18 : decode b_CS_position 18 = .ok (.laload, 1) := by decide +kernel
theorem d_CS_position_19 : decode b_CS_position 19 = .ok (.goto 4, 3) := by decide +kernel
theorem d_CS_position_22 : decode b_CS_position 22 = .ok (.lconst 0, 1) := by decide +kernel
theorem d_CS_position_23 : decode b_CS_position 23 = .ok (.lreturn, 1) := by decide +kernel
theorem d_CS_settled_0 : decode b_CS_settled 0 = .ok (.iload_n 1, 1) := by decide +kernel
theorem d_CS_settled_1 : decode b_CS_settled 1 = .ok (.iconst 0, 1) := by decide +kernel
theorem d_CS_settled_2 : decode b_CS_settled 2 = .ok (.bipush 8, 2) := by decide +kernel
theorem d_CS_settled_4 : decode b_CS_settled 4 = .ok (.invokestatic 44, 3) := by decide +kernel
theorem d_CS_settled_7 : decode b_CS_settled 7 = .ok (.ifCond .eq 15, 3) := by decide +kernel
theorem d_CS_settled_10 : decode b_CS_settled 10 = .ok (.aload_n 0, 1) := by decide +kernel
theorem d_CS_settled_11 : decode b_CS_settled 11 = .ok (.getfield 33, 3) := by decide +kernel
theorem d_CS_settled_14 : decode b_CS_settled 14 = .ok (.getfield 204, 3) := by decide +kernel
theorem d_CS_settled_17 : decode b_CS_settled 17 = .ok (.iload_n 1, 1) := by decide +kernel
theorem d_CS_settled_18 : decode b_CS_settled 18 = .ok (.laload, 1) := by decide +kernel
theorem d_CS_settled_19 : decode b_CS_settled 19 = .ok (.goto 4, 3) := by decide +kernel
theorem d_CS_settled_22 : decode b_CS_settled 22 = .ok (.lconst 0, 1) := by decide +kernel
theorem d_CS_settled_23 : decode b_CS_settled 23 = .ok (.lreturn, 1) := by decide +kernel
theorem d_CS_within_0 : decode b_CS_within 0 = .ok (.iload_n 0, 1) := by decide +kernel
theorem d_CS_within_1 : decode b_CS_within 1 = .ok (.iload_n 1, 1) := by decide +kernel
theorem d_CS_within_2 : decode b_CS_within 2 = .ok (.if_icmp .lt 12, 3) := by decide +kernel
theorem d_CS_within_5 : decode b_CS_within 5 = .ok (.iload_n 0, 1) := by decide +kernel
theorem d_CS_within_6 : decode b_CS_within 6 = .ok (.iload_n 2, 1) := by decide +kernel
theorem d_CS_within_7 : decode b_CS_within 7 = .ok (.if_icmp .gt 7, 3) := by decide +kernel
theorem d_CS_within_10 : decode b_CS_within 10 = .ok (.iconst 1, 1) := by decide +kernel
theorem d_CS_within_11 : decode b_CS_within 11 = .ok (.goto 4, 3) := by decide +kernel
theorem d_CS_within_14 : decode b_CS_within 14 = .ok (.iconst 0, 1) := by decide +kernel
theorem d_CS_within_15 : decode b_CS_within 15 = .ok (.ireturn, 1) := by decide +kernel
theorem d_CS_isBank_0 : decode b_CS_isBank 0 = .ok (.iload_n 0, 1) := by decide +kernel
theorem d_CS_isBank_1 : decode b_CS_isBank 1 = .ok (.iconst 0, 1) := by decide +kernel
theorem d_CS_isBank_2 : decode b_CS_isBank 2 = .ok (.iconst 3, 1) := by decide +kernel
theorem d_CS_isBank_3 : decode b_CS_isBank 3 = .ok (.invokestatic 44, 3) := by decide +kernel
theorem d_CS_isBank_6 : decode b_CS_isBank 6 = .ok (.ireturn, 1) := by decide +kernel
theorem d_CS_isWrongKey_0 : decode b_CS_isWrongKey 0 = .ok (.iload_n 0, 1) := by decide +kernel
theorem d_CS_isWrongKey_1 : decode b_CS_isWrongKey 1 = .ok (.invokestatic 48, 3) := by decide +kernel
theorem d_CS_isWrongKey_4 : decode b_CS_isWrongKey 4 = .ok (.ifCond .eq 14, 3) := by decide +kernel
theorem d_CS_isWrongKey_7 : decode b_CS_isWrongKey 7 = .ok (.iload_n 1, 1) := by decide +kernel
theorem d_CS_isWrongKey_8 : decode b_CS_isWrongKey 8 = .ok (.iconst 1, 1) := by decide +kernel
theorem d_CS_isWrongKey_9 : decode b_CS_isWrongKey 9 = .ok (.sipush 9999, 3) := by decide +kernel
theorem d_CS_isWrongKey_12 : decode b_CS_isWrongKey 12 = .ok (.invokestatic 44, 3) := by decide +kernel
theorem d_CS_isWrongKey_15 : decode b_CS_isWrongKey 15 = .ok (.ifCond .ne 7, 3) := by decide +kernel
theorem d_CS_isWrongKey_18 : decode b_CS_isWrongKey 18 = .ok (.iconst 1, 1) := by decide +kernel
theorem d_CS_isWrongKey_19 : decode b_CS_isWrongKey 19 = .ok (.goto 4, 3) := by decide +kernel
theorem d_CS_isWrongKey_22 : decode b_CS_isWrongKey 22 = .ok (.iconst 0, 1) := by decide +kernel
theorem d_CS_isWrongKey_23 : decode b_CS_isWrongKey 23 = .ok (.ireturn, 1) := by decide +kernel
theorem d_CS_isSound_0 : decode b_CS_isSound 0 = .ok (.iload_n 0, 1) := by decide +kernel
theorem d_CS_isSound_1 : decode b_CS_isSound 1 = .ok (.ldc 207, 2) := by decide +kernel
theorem d_CS_isSound_3 : decode b_CS_isSound 3 = .ok (.ldc 208, 2) := by decide +kernel
theorem d_CS_isSound_5 : decode b_CS_isSound 5 = .ok (.invokestatic 44, 3) := by decide +kernel
theorem d_CS_isSound_8 : decode b_CS_isSound 8 = .ok (.ifCond .ne 5, 3) := by decide +kernel
theorem d_CS_isSound_11 : decode b_CS_isSound 11 = .ok (.iconst 0, 1) := by decide +kernel
theorem d_CS_isSound_12 : decode b_CS_isSound 12 = .ok (.ireturn, 1) := by decide +kernel
theorem d_CS_isSound_13 : decode b_CS_isSound 13 = .ok (.iconst 0, 1) := by decide +kernel
theorem d_CS_isSound_14 : decode b_CS_isSound 14 = .ok (.istore_n 1, 1) := by decide +kernel
theorem d_CS_isSound_15 : decode b_CS_isSound 15 = .ok (.iload_n 0, 1) := by decide +kernel
theorem d_CS_isSound_16 : decode b_CS_isSound 16 = .ok (.istore_n 2, 1) := by decide +kernel
theorem d_CS_isSound_17 : decode b_CS_isSound 17 = .ok (.bipush 8, 2) := by decide +kernel
theorem d_CS_isSound_19 : decode b_CS_isSound 19 = .ok (.istore_n 3, 1) := by decide +kernel
theorem d_CS_isSound_20 : decode b_CS_isSound 20 = .ok (.iload_n 3, 1) := by decide +kernel
theorem d_CS_isSound_21 : decode b_CS_isSound 21 = .ok (.iconst 1, 1) := by decide +kernel
theorem d_CS_isSound_22 : decode b_CS_isSound 22 = .ok (.if_icmp .lt 39, 3) := by decide +kernel
theorem d_CS_isSound_25 : decode b_CS_isSound 25 = .ok (.iload_n 2, 1) := by decide +kernel
theorem d_CS_isSound_26 : decode b_CS_isSound 26 = .ok (.bipush 10, 2) := by decide +kernel
theorem d_CS_isSound_28 : decode b_CS_isSound 28 = .ok (.irem, 1) := by decide +kernel
theorem d_CS_isSound_29 : decode b_CS_isSound 29 = .ok (.istore 4, 2) := by decide +kernel
theorem d_CS_isSound_31 : decode b_CS_isSound 31 = .ok (.iload_n 1, 1) := by decide +kernel
theorem d_CS_isSound_32 : decode b_CS_isSound 32 = .ok (.iload_n 3, 1) := by decide +kernel
theorem d_CS_isSound_33 : decode b_CS_isSound 33 = .ok (.iconst 2, 1) := by decide +kernel
theorem d_CS_isSound_34 : decode b_CS_isSound 34 = .ok (.irem, 1) := by decide +kernel
theorem d_CS_isSound_35 : decode b_CS_isSound 35 = .ok (.ifCond .ne 8, 3) := by decide +kernel
theorem d_CS_isSound_38 : decode b_CS_isSound 38 = .ok (.iload 4, 2) := by decide +kernel
theorem d_CS_isSound_40 : decode b_CS_isSound 40 = .ok (.goto 8, 3) := by decide +kernel
theorem d_CS_isSound_43 : decode b_CS_isSound 43 = .ok (.iload 4, 2) := by decide +kernel
theorem d_CS_isSound_45 : decode b_CS_isSound 45 = .ok (.invokestatic 209, 3) := by decide +kernel
theorem d_CS_isSound_48 : decode b_CS_isSound 48 = .ok (.iadd, 1) := by decide +kernel
theorem d_CS_isSound_49 : decode b_CS_isSound 49 = .ok (.istore_n 1, 1) := by decide +kernel
theorem d_CS_isSound_50 : decode b_CS_isSound 50 = .ok (.iload_n 2, 1) := by decide +kernel
theorem d_CS_isSound_51 : decode b_CS_isSound 51 = .ok (.bipush 10, 2) := by decide +kernel
theorem d_CS_isSound_53 : decode b_CS_isSound 53 = .ok (.idiv, 1) := by decide +kernel
theorem d_CS_isSound_54 : decode b_CS_isSound 54 = .ok (.istore_n 2, 1) := by decide +kernel
theorem d_CS_isSound_55 : decode b_CS_isSound 55 = .ok (.iinc 3 (-1), 3) := by decide +kernel
theorem d_CS_isSound_58 : decode b_CS_isSound 58 = .ok (.goto (-38), 3) := by decide +kernel
theorem d_CS_isSound_61 : decode b_CS_isSound 61 = .ok (.iload_n 1, 1) := by decide +kernel
theorem d_CS_isSound_62 : decode b_CS_isSound 62 = .ok (.bipush 10, 2) := by decide +kernel
theorem d_CS_isSound_64 : decode b_CS_isSound 64 = .ok (.irem, 1) := by decide +kernel
theorem d_CS_isSound_65 : decode b_CS_isSound 65 = .ok (.ifCond .ne 7, 3) := by decide +kernel
theorem d_CS_isSound_68 : decode b_CS_isSound 68 = .ok (.iconst 1, 1) := by decide +kernel
theorem d_CS_isSound_69 : decode b_CS_isSound 69 = .ok (.goto 4, 3) := by decide +kernel
theorem d_CS_isSound_72 : decode b_CS_isSound 72 = .ok (.iconst 0, 1) := by decide +kernel
theorem d_CS_isSound_73 : decode b_CS_isSound 73 = .ok (.ireturn, 1) := by decide +kernel
theorem d_CS_doubled_0 : decode b_CS_doubled 0 = .ok (.iconst 2, 1) := by decide +kernel
theorem d_CS_doubled_1 : decode b_CS_doubled 1 = .ok (.iload_n 0, 1) := by decide +kernel
theorem d_CS_doubled_2 : decode b_CS_doubled 2 = .ok (.imul, 1) := by decide +kernel
theorem d_CS_doubled_3 : decode b_CS_doubled 3 = .ok (.istore_n 1, 1) := by decide +kernel
theorem d_CS_doubled_4 : decode b_CS_doubled 4 = .ok (.iload_n 1, 1) := by decide +kernel
theorem d_CS_doubled_5 : decode b_CS_doubled 5 = .ok (.bipush 9, 2) := by decide +kernel
theorem d_CS_doubled_7 : decode b_CS_doubled 7 = .ok (.if_icmp .le 10, 3) := by decide +kernel
theorem d_CS_doubled_10 : decode b_CS_doubled 10 = .ok (.iload_n 1, 1) := by decide +kernel
theorem d_CS_doubled_11 : decode b_CS_doubled 11 = .ok (.bipush 9, 2) := by decide +kernel
theorem d_CS_doubled_13 : decode b_CS_doubled 13 = .ok (.isub, 1) := by decide +kernel
theorem d_CS_doubled_14 : decode b_CS_doubled 14 = .ok (.goto 4, 3) := by decide +kernel
theorem d_CS_doubled_17 : decode b_CS_doubled 17 = .ok (.iload_n 1, 1) := by decide +kernel
theorem d_CS_doubled_18 : decode b_CS_doubled 18 = .ok (.ireturn, 1) := by decide +kernel
theorem d_CS_feeOf_0 : decode b_CS_feeOf 0 = .ok (.iload_n 0, 1) := by decide +kernel
theorem d_CS_feeOf_1 : decode b_CS_feeOf 1 = .ok (.iload_n 1, 1) := by decide +kernel
theorem d_CS_feeOf_2 : decode b_CS_feeOf 2 = .ok (.imul, 1) := by decide +kernel
theorem d_CS_feeOf_3 : decode b_CS_feeOf 3 = .ok (.sipush 9999, 3) := by decide +kernel
theorem d_CS_feeOf_6 : decode b_CS_feeOf 6 = .ok (.iadd, 1) := by decide +kernel
theorem d_CS_feeOf_7 : decode b_CS_feeOf 7 = .ok (.sipush 10000, 3) := by decide +kernel
theorem d_CS_feeOf_10 : decode b_CS_feeOf 10 = .ok (.idiv, 1) := by decide +kernel
theorem d_CS_feeOf_11 : decode b_CS_feeOf 11 = .ok (.ireturn, 1) := by decide +kernel
theorem d_CS_shareOf_0 : decode b_CS_shareOf 0 = .ok (.iload_n 0, 1) := by decide +kernel
theorem d_CS_shareOf_1 : decode b_CS_shareOf 1 = .ok (.iload_n 1, 1) := by decide +kernel
theorem d_CS_shareOf_2 : decode b_CS_shareOf 2 = .ok (.imul, 1) := by decide +kernel
theorem d_CS_shareOf_3 : decode b_CS_shareOf 3 = .ok (.iconst 3, 1) := by decide +kernel
theorem d_CS_shareOf_4 : decode b_CS_shareOf 4 = .ok (.imul, 1) := by decide +kernel
theorem d_CS_shareOf_5 : decode b_CS_shareOf 5 = .ok (.ldc 213, 2) := by decide +kernel
theorem d_CS_shareOf_7 : decode b_CS_shareOf 7 = .ok (.idiv, 1) := by decide +kernel
theorem d_CS_shareOf_8 : decode b_CS_shareOf 8 = .ok (.ireturn, 1) := by decide +kernel
theorem d_CS_findRoute_0 : decode b_CS_findRoute 0 = .ok (.iconst 0, 1) := by decide +kernel
theorem d_CS_findRoute_1 : decode b_CS_findRoute 1 = .ok (.istore_n 2, 1) := by decide +kernel
theorem d_CS_findRoute_2 : decode b_CS_findRoute 2 = .ok (.iload_n 2, 1) := by decide +kernel
theorem d_CS_findRoute_3 : decode b_CS_findRoute 3 = .ok (.aload_n 0, 1) := by decide +kernel
theorem d_CS_findRoute_4 : decode b_CS_findRoute 4 = .ok (.getfield 56, 3) := by decide +kernel
theorem d_CS_findRoute_7 : decode b_CS_findRoute 7 = .ok (.if_icmp .ge 29, 3) := by decide +kernel
theorem d_CS_findRoute_10 : decode b_CS_findRoute 10 = .ok (.aload_n 0, 1) := by decide +kernel
theorem d_CS_findRoute_11 : decode b_CS_findRoute 11 = .ok (.getfield 11, 3) := by decide +kernel
theorem d_CS_findRoute_14 : decode b_CS_findRoute 14 = .ok (.iload_n 2, 1) := by decide +kernel
theorem d_CS_findRoute_15 : decode b_CS_findRoute 15 = .ok (.aaload, 1) := by decide +kernel
theorem d_CS_findRoute_16 : decode b_CS_findRoute 16 = .ok (.getfield 64, 3) := by decide +kernel
theorem d_CS_findRoute_19 : decode b_CS_findRoute 19 = .ok (.iload_n 1, 1) := by decide +kernel
theorem d_CS_findRoute_20 : decode b_CS_findRoute 20 = .ok (.if_icmp .ne 10, 3) := by decide +kernel
theorem d_CS_findRoute_23 : decode b_CS_findRoute 23 = .ok (.aload_n 0, 1) := by decide +kernel
theorem d_CS_findRoute_24 : decode b_CS_findRoute 24 = .ok (.getfield 11, 3) := by decide +kernel
theorem d_CS_findRoute_27 : decode b_CS_findRoute 27 = .ok (.iload_n 2, 1) := by decide +kernel
theorem d_CS_findRoute_28 : decode b_CS_findRoute 28 = .ok (.aaload, 1) := by decide +kernel
theorem d_CS_findRoute_29 : decode b_CS_findRoute 29 = .ok (.areturn, 1) := by decide +kernel
theorem d_CS_findRoute_30 : decode b_CS_findRoute 30 = .ok (.iinc 2 1, 3) := by decide +kernel
theorem d_CS_findRoute_33 : decode b_CS_findRoute 33 = .ok (.goto (-31), 3) := by decide +kernel
theorem d_CS_findRoute_36 : decode b_CS_findRoute 36 = .ok (.aconst_null, 1) := by decide +kernel
theorem d_CS_findRoute_37 : decode b_CS_findRoute 37 = .ok (.areturn, 1) := by decide +kernel
theorem d_CS_routeOf_0 : decode b_CS_routeOf 0 = .ok (.iload_n 1, 1) := by decide +kernel
theorem d_CS_routeOf_1 : decode b_CS_routeOf 1 = .ok (.istore_n 2, 1) := by decide +kernel
theorem d_CS_routeOf_2 : decode b_CS_routeOf 2 = .ok (.bipush 8, 2) := by decide +kernel
theorem d_CS_routeOf_4 : decode b_CS_routeOf 4 = .ok (.istore_n 3, 1) := by decide +kernel
theorem d_CS_routeOf_5 : decode b_CS_routeOf 5 = .ok (.iload_n 3, 1) := by decide +kernel
theorem d_CS_routeOf_6 : decode b_CS_routeOf 6 = .ok (.iconst 1, 1) := by decide +kernel
theorem d_CS_routeOf_7 : decode b_CS_routeOf 7 = .ok (.if_icmp .lt 29, 3) := by decide +kernel
theorem d_CS_routeOf_10 : decode b_CS_routeOf 10 = .ok (.aload_n 0, 1) := by decide +kernel
theorem d_CS_routeOf_11 : decode b_CS_routeOf 11 = .ok (.iload_n 2, 1) := by decide +kernel
theorem d_CS_routeOf_12 : decode b_CS_routeOf 12 = .ok (.invokevirtual 52, 3) := by decide +kernel
theorem d_CS_routeOf_15 : decode b_CS_routeOf 15 = .ok (.astore 4, 2) := by decide +kernel
theorem d_CS_routeOf_17 : decode b_CS_routeOf 17 = .ok (.aload 4, 2) := by decide +kernel
theorem d_CS_routeOf_19 : decode b_CS_routeOf 19 = .ok (.ifnull 6, 3) := by decide +kernel
theorem d_CS_routeOf_22 : decode b_CS_routeOf 22 = .ok (.aload 4, 2) := by decide +kernel
theorem d_CS_routeOf_24 : decode b_CS_routeOf 24 = .ok (.areturn, 1) := by decide +kernel
theorem d_CS_routeOf_25 : decode b_CS_routeOf 25 = .ok (.iload_n 2, 1) := by decide +kernel
theorem d_CS_routeOf_26 : decode b_CS_routeOf 26 = .ok (.bipush 10, 2) := by decide +kernel
theorem d_CS_routeOf_28 : decode b_CS_routeOf 28 = .ok (.idiv, 1) := by decide +kernel
theorem d_CS_routeOf_29 : decode b_CS_routeOf 29 = .ok (.istore_n 2, 1) := by decide +kernel
theorem d_CS_routeOf_30 : decode b_CS_routeOf 30 = .ok (.iinc 3 (-1), 3) := by decide +kernel
theorem d_CS_routeOf_33 : decode b_CS_routeOf 33 = .ok (.goto (-28), 3) := by decide +kernel
theorem d_CS_routeOf_36 : decode b_CS_routeOf 36 = .ok (.aconst_null, 1) := by decide +kernel
theorem d_CS_routeOf_37 : decode b_CS_routeOf 37 = .ok (.areturn, 1) := by decide +kernel
theorem d_CS_findCard_0 : decode b_CS_findCard 0 = .ok (.iconst 0, 1) := by decide +kernel
theorem d_CS_findCard_1 : decode b_CS_findCard 1 = .ok (.istore_n 2, 1) := by decide +kernel
theorem d_CS_findCard_2 : decode b_CS_findCard 2 = .ok (.iload_n 2, 1) := by decide +kernel
theorem d_CS_findCard_3 : decode b_CS_findCard 3 = .ok (.aload_n 0, 1) := by decide +kernel
theorem d_CS_findCard_4 : decode b_CS_findCard 4 = .ok (.getfield 82, 3) := by decide +kernel
theorem d_CS_findCard_7 : decode b_CS_findCard 7 = .ok (.if_icmp .ge 29, 3) := by decide +kernel
theorem d_CS_findCard_10 : decode b_CS_findCard 10 = .ok (.aload_n 0, 1) := by decide +kernel
theorem d_CS_findCard_11 : decode b_CS_findCard 11 = .ok (.getfield 18, 3) := by decide +kernel
theorem d_CS_findCard_14 : decode b_CS_findCard 14 = .ok (.iload_n 2, 1) := by decide +kernel
theorem d_CS_findCard_15 : decode b_CS_findCard 15 = .ok (.aaload, 1) := by decide +kernel
theorem d_CS_findCard_16 : decode b_CS_findCard 16 = .ok (.getfield 85, 3) := by decide +kernel
theorem d_CS_findCard_19 : decode b_CS_findCard 19 = .ok (.iload_n 1, 1) := by decide +kernel
theorem d_CS_findCard_20 : decode b_CS_findCard 20 = .ok (.if_icmp .ne 10, 3) := by decide +kernel
theorem d_CS_findCard_23 : decode b_CS_findCard 23 = .ok (.aload_n 0, 1) := by decide +kernel
theorem d_CS_findCard_24 : decode b_CS_findCard 24 = .ok (.getfield 18, 3) := by decide +kernel
theorem d_CS_findCard_27 : decode b_CS_findCard 27 = .ok (.iload_n 2, 1) := by decide +kernel
theorem d_CS_findCard_28 : decode b_CS_findCard 28 = .ok (.aaload, 1) := by decide +kernel
theorem d_CS_findCard_29 : decode b_CS_findCard 29 = .ok (.areturn, 1) := by decide +kernel
theorem d_CS_findCard_30 : decode b_CS_findCard 30 = .ok (.iinc 2 1, 3) := by decide +kernel
theorem d_CS_findCard_33 : decode b_CS_findCard 33 = .ok (.goto (-31), 3) := by decide +kernel
theorem d_CS_findCard_36 : decode b_CS_findCard 36 = .ok (.aconst_null, 1) := by decide +kernel
theorem d_CS_findCard_37 : decode b_CS_findCard 37 = .ok (.areturn, 1) := by decide +kernel
theorem d_CS_findPayment_0 : decode b_CS_findPayment 0 = .ok (.iconst 0, 1) := by decide +kernel
theorem d_CS_findPayment_1 : decode b_CS_findPayment 1 = .ok (.istore_n 3, 1) := by decide +kernel
theorem d_CS_findPayment_2 : decode b_CS_findPayment 2 = .ok (.iload_n 3, 1) := by decide +kernel
theorem d_CS_findPayment_3 : decode b_CS_findPayment 3 = .ok (.aload_n 0, 1) := by decide +kernel
theorem d_CS_findPayment_4 : decode b_CS_findPayment 4 = .ok (.getfield 107, 3) := by decide +kernel
theorem d_CS_findPayment_7 : decode b_CS_findPayment 7 = .ok (.if_icmp .ge 42, 3) := by decide +kernel
theorem d_CS_findPayment_10 : decode b_CS_findPayment 10 = .ok (.aload_n 0, 1) := by decide +kernel
theorem d_CS_findPayment_11 : decode b_CS_findPayment 11 = .ok (.getfield 25, 3) := by decide +kernel
theorem d_CS_findPayment_14 : decode b_CS_findPayment 14 = .ok (.iload_n 3, 1) := by decide +kernel
theorem d_CS_findPayment_15 : decode b_CS_findPayment 15 = .ok (.aaload, 1) := by decide +kernel
theorem d_CS_findPayment_16 : decode b_CS_findPayment 16 = .ok (.getfield 170, 3) := by decide +kernel
theorem d_CS_findPayment_19 : decode b_CS_findPayment 19 = .ok (.iload_n 1, 1) := by decide +kernel
theorem d_CS_findPayment_20 : decode b_CS_findPayment 20 = .ok (.if_icmp .ne 23, 3) := by decide +kernel
theorem d_CS_findPayment_23 : decode b_CS_findPayment 23 = .ok (.aload_n 0, 1) := by decide +kernel
theorem d_CS_findPayment_24 : decode b_CS_findPayment 24 = .ok (.getfield 25, 3) := by decide +kernel
theorem d_CS_findPayment_27 : decode b_CS_findPayment 27 = .ok (.iload_n 3, 1) := by decide +kernel
theorem d_CS_findPayment_28 : decode b_CS_findPayment 28 = .ok (.aaload, 1) := by decide +kernel
theorem d_CS_findPayment_29 : decode b_CS_findPayment 29 = .ok (.getfield 214, 3) := by decide +kernel
theorem d_CS_findPayment_32 : decode b_CS_findPayment 32 = .ok (.iload_n 2, 1) := by decide +kernel
theorem d_CS_findPayment_33 : decode b_CS_findPayment 33 = .ok (.if_icmp .ne 10, 3) := by decide +kernel
theorem d_CS_findPayment_36 : decode b_CS_findPayment 36 = .ok (.aload_n 0, 1) := by decide +kernel
theorem d_CS_findPayment_37 : decode b_CS_findPayment 37 = .ok (.getfield 25, 3) := by decide +kernel
theorem d_CS_findPayment_40 : decode b_CS_findPayment 40 = .ok (.iload_n 3, 1) := by decide +kernel
theorem d_CS_findPayment_41 : decode b_CS_findPayment 41 = .ok (.aaload, 1) := by decide +kernel
theorem d_CS_findPayment_42 : decode b_CS_findPayment 42 = .ok (.areturn, 1) := by decide +kernel
theorem d_CS_findPayment_43 : decode b_CS_findPayment 43 = .ok (.iinc 3 1, 3) := by decide +kernel
theorem d_CS_findPayment_46 : decode b_CS_findPayment 46 = .ok (.goto (-44), 3) := by decide +kernel
theorem d_CS_findPayment_49 : decode b_CS_findPayment 49 = .ok (.aconst_null, 1) := by decide +kernel
theorem d_CS_findPayment_50 : decode b_CS_findPayment 50 = .ok (.areturn, 1) := by decide +kernel
theorem d_CS_stateOf_0 : decode b_CS_stateOf 0 = .ok (.aload_n 1, 1) := by decide +kernel
theorem d_CS_stateOf_1 : decode b_CS_stateOf 1 = .ok (.ifnonnull 5, 3) := by decide +kernel
theorem d_CS_stateOf_4 : decode b_CS_stateOf 4 = .ok (.iconst 0, 1) := by decide +kernel
theorem d_CS_stateOf_5 : decode b_CS_stateOf 5 = .ok (.ireturn, 1) := by decide +kernel
theorem d_CS_stateOf_6 : decode b_CS_stateOf 6 = .ok (.aload_n 0, 1) := by decide +kernel
theorem d_CS_stateOf_7 : decode b_CS_stateOf 7 = .ok (.getfield 137, 3) := by decide +kernel
theorem d_CS_stateOf_10 : decode b_CS_stateOf 10 = .ok (.aload_n 1, 1) := by decide +kernel
theorem d_CS_stateOf_11 : decode b_CS_stateOf 11 = .ok (.getfield 143, 3) := by decide +kernel
theorem d_CS_stateOf_14 : decode b_CS_stateOf 14 = .ok (.isub, 1) := by decide +kernel
theorem d_CS_stateOf_15 : decode b_CS_stateOf 15 = .ok (.istore_n 2, 1) := by decide +kernel
theorem d_CS_stateOf_16 : decode b_CS_stateOf 16 = .ok (.aload_n 1, 1) := by decide +kernel
theorem d_CS_stateOf_17 : decode b_CS_stateOf 17 = .ok (.getfield 131, 3) := by decide +kernel
theorem d_CS_stateOf_20 : decode b_CS_stateOf 20 = .ok (.iconst 2, 1) := by decide +kernel
theorem d_CS_stateOf_21 : decode b_CS_stateOf 21 = .ok (.if_icmp .ne 11, 3) := by decide +kernel
theorem d_CS_stateOf_24 : decode b_CS_stateOf 24 = .ok (.iload_n 2, 1) := by decide +kernel
theorem d_CS_stateOf_25 : decode b_CS_stateOf 25 = .ok (.bipush 50, 2) := by decide +kernel
theorem d_CS_stateOf_27 : decode b_CS_stateOf 27 = .ok (.if_icmp .lt 5, 3) := by decide +kernel
theorem d_CS_stateOf_30 : decode b_CS_stateOf 30 = .ok (.iconst 3, 1) := by decide +kernel
theorem d_CS_stateOf_31 : decode b_CS_stateOf 31 = .ok (.ireturn, 1) := by decide +kernel
theorem d_CS_stateOf_32 : decode b_CS_stateOf 32 = .ok (.aload_n 1, 1) := by decide +kernel
theorem d_CS_stateOf_33 : decode b_CS_stateOf 33 = .ok (.getfield 131, 3) := by decide +kernel
theorem d_CS_stateOf_36 : decode b_CS_stateOf 36 = .ok (.bipush 7, 2) := by decide +kernel
theorem d_CS_stateOf_38 : decode b_CS_stateOf 38 = .ok (.if_icmp .ne 12, 3) := by decide +kernel
theorem d_CS_stateOf_41 : decode b_CS_stateOf 41 = .ok (.iload_n 2, 1) := by decide +kernel
theorem d_CS_stateOf_42 : decode b_CS_stateOf 42 = .ok (.bipush 30, 2) := by decide +kernel
theorem d_CS_stateOf_44 : decode b_CS_stateOf 44 = .ok (.if_icmp .le 6, 3) := by decide +kernel
theorem d_CS_stateOf_47 : decode b_CS_stateOf 47 = .ok (.bipush 9, 2) := by decide +kernel
theorem d_CS_stateOf_49 : decode b_CS_stateOf 49 = .ok (.ireturn, 1) := by decide +kernel
theorem d_CS_stateOf_50 : decode b_CS_stateOf 50 = .ok (.aload_n 1, 1) := by decide +kernel
theorem d_CS_stateOf_51 : decode b_CS_stateOf 51 = .ok (.getfield 131, 3) := by decide +kernel
theorem d_CS_stateOf_54 : decode b_CS_stateOf 54 = .ok (.ireturn, 1) := by decide +kernel
theorem d_CS_availableOn_0 : decode b_CS_availableOn 0 = .ok (.aload_n 1, 1) := by decide +kernel
theorem d_CS_availableOn_1 : decode b_CS_availableOn 1 = .ok (.ifnonnull 5, 3) := by decide +kernel
theorem d_CS_availableOn_4 : decode b_CS_availableOn 4 = .ok (.iconst 0, 1) := by decide +kernel
theorem d_CS_availableOn_5 : decode b_CS_availableOn 5 = .ok (.ireturn, 1) := by decide +kernel
theorem d_CS_availableOn_6 : decode b_CS_availableOn 6 = .ok (.aload_n 1, 1) := by decide +kernel
theorem d_CS_availableOn_7 : decode b_CS_availableOn 7 = .ok (.getfield 88, 3) := by decide +kernel
theorem d_CS_availableOn_10 : decode b_CS_availableOn 10 = .ok (.aload_n 1, 1) := by decide +kernel
theorem d_CS_availableOn_11 : decode b_CS_availableOn 11 = .ok (.getfield 91, 3) := by decide +kernel
theorem d_CS_availableOn_14 : decode b_CS_availableOn 14 = .ok (.isub, 1) := by decide +kernel
theorem d_CS_availableOn_15 : decode b_CS_availableOn 15 = .ok (.istore_n 2, 1) := by decide +kernel
theorem d_CS_availableOn_16 : decode b_CS_availableOn 16 = .ok (.iconst 0, 1) := by decide +kernel
theorem d_CS_availableOn_17 : decode b_CS_availableOn 17 = .ok (.istore_n 3, 1) := by decide +kernel
theorem d_CS_availableOn_18 : decode b_CS_availableOn 18 = .ok (.iload_n 3, 1) := by decide +kernel
theorem d_CS_availableOn_19 : decode b_CS_availableOn 19 = .ok (.aload_n 0, 1) := by decide +kernel
theorem d_CS_availableOn_20 : decode b_CS_availableOn 20 = .ok (.getfield 107, 3) := by decide +kernel
theorem d_CS_availableOn_23 : decode b_CS_availableOn 23 = .ok (.if_icmp .ge 53, 3) := by decide +kernel
theorem d_CS_availableOn_26 : decode b_CS_availableOn 26 = .ok (.aload_n 0, 1) := by decide +kernel
theorem d_CS_availableOn_27 : decode b_CS_availableOn 27 = .ok (.getfield 25, 3) := by decide +kernel
theorem d_CS_availableOn_30 : decode b_CS_availableOn 30 = .ok (.iload_n 3, 1) := by decide +kernel
theorem d_CS_availableOn_31 : decode b_CS_availableOn 31 = .ok (.aaload, 1) := by decide +kernel
theorem d_CS_availableOn_32 : decode b_CS_availableOn 32 = .ok (.getfield 120, 3) := by decide +kernel
theorem d_CS_availableOn_35 : decode b_CS_availableOn 35 = .ok (.aload_n 1, 1) := by decide +kernel
theorem d_CS_availableOn_36 : decode b_CS_availableOn 36 = .ok (.getfield 85, 3) := by decide +kernel
theorem d_CS_availableOn_39 : decode b_CS_availableOn 39 = .ok (.if_icmp .ne 31, 3) := by decide +kernel
theorem d_CS_availableOn_42 : decode b_CS_availableOn 42 = .ok (.aload_n 0, 1) := by decide +kernel
theorem d_CS_availableOn_43 : decode b_CS_availableOn 43 = .ok (.aload_n 0, 1) := by decide +kernel
theorem d_CS_availableOn_44 : decode b_CS_availableOn 44 = .ok (.getfield 25, 3) := by decide +kernel
theorem d_CS_availableOn_47 : decode b_CS_availableOn 47 = .ok (.iload_n 3, 1) := by decide +kernel
theorem d_CS_availableOn_48 : decode b_CS_availableOn 48 = .ok (.aaload, 1) := by decide +kernel
theorem d_CS_availableOn_49 : decode b_CS_availableOn 49 = .ok (.invokevirtual 152, 3) := by decide +kernel
theorem d_CS_availableOn_52 : decode b_CS_availableOn 52 = .ok (.invokestatic 217, 3) := by decide +kernel
theorem d_CS_availableOn_55 : decode b_CS_availableOn 55 = .ok (.ifCond .eq 15, 3) := by decide +kernel
theorem d_CS_availableOn_58 : decode b_CS_availableOn 58 = .ok (.iload_n 2, 1) := by decide +kernel
theorem d_CS_availableOn_59 : decode b_CS_availableOn 59 = .ok (.aload_n 0, 1) := by decide +kernel
theorem d_CS_availableOn_60 : decode b_CS_availableOn 60 = .ok (.getfield 25, 3) := by decide +kernel
theorem d_CS_availableOn_63 : decode b_CS_availableOn 63 = .ok (.iload_n 3, 1) := by decide +kernel
theorem d_CS_availableOn_64 : decode b_CS_availableOn 64 = .ok (.aaload, 1) := by decide +kernel
theorem d_CS_availableOn_65 : decode b_CS_availableOn 65 = .ok (.getfield 134, 3) := by decide +kernel
theorem d_CS_availableOn_68 : decode b_CS_availableOn 68 = .ok (.isub, 1) := by decide +kernel
theorem d_CS_availableOn_69 : decode b_CS_availableOn 69 = .ok (.istore_n 2, 1) := by decide +kernel
theorem d_CS_availableOn_70 : decode b_CS_availableOn 70 = .ok (.iinc 3 1, 3) := by decide +kernel
theorem d_CS_availableOn_73 : decode b_CS_availableOn 73 = .ok (.goto (-55), 3) := by decide +kernel
theorem d_CS_availableOn_76 : decode b_CS_availableOn 76 = .ok (.iload_n 2, 1) := by decide +kernel
theorem d_CS_availableOn_77 : decode b_CS_availableOn 77 = .ok (.ireturn, 1) := by decide +kernel
theorem d_CS_bindsAmount_0 : decode b_CS_bindsAmount 0 = .ok (.iload_n 0, 1) := by decide +kernel
theorem d_CS_bindsAmount_1 : decode b_CS_bindsAmount 1 = .ok (.iconst 2, 1) := by decide +kernel
theorem d_CS_bindsAmount_2 : decode b_CS_bindsAmount 2 = .ok (.if_icmp .eq 21, 3) := by decide +kernel
theorem d_CS_bindsAmount_5 : decode b_CS_bindsAmount 5 = .ok (.iload_n 0, 1) := by decide +kernel
theorem d_CS_bindsAmount_6 : decode b_CS_bindsAmount 6 = .ok (.bipush 6, 2) := by decide +kernel
theorem d_CS_bindsAmount_8 : decode b_CS_bindsAmount 8 = .ok (.if_icmp .eq 15, 3) := by decide +kernel
theorem d_CS_bindsAmount_11 : decode b_CS_bindsAmount 11 = .ok (.iload_n 0, 1) := by decide +kernel
theorem d_CS_bindsAmount_12 : decode b_CS_bindsAmount 12 = .ok (.bipush 7, 2) := by decide +kernel
theorem d_CS_bindsAmount_14 : decode b_CS_bindsAmount 14 = .ok (.if_icmp .eq 9, 3) := by decide +kernel
theorem d_CS_bindsAmount_17 : decode b_CS_bindsAmount 17 = .ok (.iload_n 0, 1) := by decide +kernel
theorem d_CS_bindsAmount_18 : decode b_CS_bindsAmount 18 = .ok (.bipush 8, 2) := by decide +kernel
theorem d_CS_bindsAmount_20 : decode b_CS_bindsAmount 20 = .ok (.if_icmp .ne 7, 3) := by decide +kernel
theorem d_CS_bindsAmount_23 : decode b_CS_bindsAmount 23 = .ok (.iconst 1, 1) := by decide +kernel
theorem d_CS_bindsAmount_24 : decode b_CS_bindsAmount 24 = .ok (.goto 4, 3) := by decide +kernel
theorem d_CS_bindsAmount_27 : decode b_CS_bindsAmount 27 = .ok (.iconst 0, 1) := by decide +kernel
theorem d_CS_bindsAmount_28 : decode b_CS_bindsAmount 28 = .ok (.ireturn, 1) := by decide +kernel
theorem d_CS_recentApprovals_0 : decode b_CS_recentApprovals 0 = .ok (.iconst 0, 1) := by decide +kernel
theorem d_CS_recentApprovals_1 : decode b_CS_recentApprovals 1 = .ok (.istore_n 2, 1) := by decide +kernel
theorem d_CS_recentApprovals_2 : decode b_CS_recentApprovals 2 = .ok (.iconst 0, 1) := by decide +kernel
theorem d_CS_recentApprovals_3 : decode b_CS_recentApprovals 3 = .ok (.istore_n 3, 1) := by decide +kernel
theorem d_CS_recentApprovals_4 : decode b_CS_recentApprovals 4 = .ok (.iload_n 3, 1) := by decide +kernel
theorem d_CS_recentApprovals_5 : decode b_CS_recentApprovals 5 = .ok (.aload_n 0, 1) := by decide +kernel
theorem d_CS_recentApprovals_6 : decode b_CS_recentApprovals 6 = .ok (.getfield 107, 3) := by decide +kernel
theorem d_CS_recentApprovals_9 : decode b_CS_recentApprovals 9 = .ok (.if_icmp .ge 53, 3) := by decide +kernel
theorem d_CS_recentApprovals_12 : decode b_CS_recentApprovals 12 = .ok (.aload_n 0, 1) := by decide +kernel
theorem d_CS_recentApprovals_13 : decode b_CS_recentApprovals 13 = .ok (.getfield 25, 3) := by decide +kernel
theorem d_CS_recentApprovals_16 : decode b_CS_recentApprovals 16 = .ok (.iload_n 3, 1) := by decide +kernel
theorem d_CS_recentApprovals_17 : decode b_CS_recentApprovals 17 = .ok (.aaload, 1) := by decide +kernel
theorem d_CS_recentApprovals_18 : decode b_CS_recentApprovals 18 = .ok (.astore 4, 2) := by decide +kernel
theorem d_CS_recentApprovals_20 : decode b_CS_recentApprovals 20 = .ok (.aload 4, 2) := by decide +kernel
theorem d_CS_recentApprovals_22 : decode b_CS_recentApprovals 22 = .ok (.getfield 120, 3) := by decide +kernel
theorem d_CS_recentApprovals_25 : decode b_CS_recentApprovals 25 = .ok (.iload_n 1, 1) := by decide +kernel
theorem d_CS_recentApprovals_26 : decode b_CS_recentApprovals 26 = .ok (.if_icmp .ne 30, 3) := by decide +kernel
theorem d_CS_recentApprovals_29 : decode b_CS_recentApprovals 29 = .ok (.aload 4, 2) := by decide +kernel
theorem d_CS_recentApprovals_31 : decode b_CS_recentApprovals 31 = .ok (.getfield 128, 3) := by decide +kernel
theorem d_CS_recentApprovals_34 : decode b_CS_recentApprovals 34 = .ok (.iconst 1, 1) := by decide +kernel
theorem d_CS_recentApprovals_35 : decode b_CS_recentApprovals 35 = .ok (.if_icmp .lt 21, 3) := by decide +kernel
theorem d_CS_recentApprovals_38 : decode b_CS_recentApprovals 38 = .ok (.aload 4, 2) := by decide +kernel
theorem d_CS_recentApprovals_40 : decode b_CS_recentApprovals 40 = .ok (.getfield 140, 3) := by decide +kernel
theorem d_CS_recentApprovals_43 : decode b_CS_recentApprovals 43 = .ok (.aload_n 0, 1) := by decide +kernel
theorem d_CS_recentApprovals_44 : decode b_CS_recentApprovals 44 = .ok (.getfield 137, 3) := by decide +kernel
theorem d_CS_recentApprovals_47 : decode b_CS_recentApprovals 47 = .ok (.bipush 10, 2) := by decide +kernel
theorem d_CS_recentApprovals_49 : decode b_CS_recentApprovals 49 = .ok (.isub, 1) := by decide +kernel
theorem d_CS_recentApprovals_50 : decode b_CS_recentApprovals 50 = .ok (.if_icmp .le 6, 3) := by decide +kernel
theorem d_CS_recentApprovals_53 : decode b_CS_recentApprovals 53 = .ok (.iinc 2 1, 3) := by decide +kernel
theorem d_CS_recentApprovals_56 : decode b_CS_recentApprovals 56 = .ok (.iinc 3 1, 3) := by decide +kernel
theorem d_CS_recentApprovals_59 : decode b_CS_recentApprovals 59 = .ok (.goto (-55), 3) := by decide +kernel
theorem d_CS_recentApprovals_62 : decode b_CS_recentApprovals 62 = .ok (.iload_n 2, 1) := by decide +kernel
theorem d_CS_recentApprovals_63 : decode b_CS_recentApprovals 63 = .ok (.ireturn, 1) := by decide +kernel
theorem d_CS_decide_0 : decode b_CS_decide 0 = .ok (.aload_n 0, 1) := by decide +kernel
theorem d_CS_decide_1 : decode b_CS_decide 1 = .ok (.iload_n 1, 1) := by decide +kernel
theorem d_CS_decide_2 : decode b_CS_decide 2 = .ok (.invokevirtual 78, 3) := by decide +kernel
theorem d_CS_decide_5 : decode b_CS_decide 5 = .ok (.astore 5, 2) := by decide +kernel
theorem d_CS_decide_7 : decode b_CS_decide 7 = .ok (.aload 5, 2) := by decide +kernel
theorem d_CS_decide_9 : decode b_CS_decide 9 = .ok (.ifnonnull 6, 3) := by decide +kernel
theorem d_CS_decide_12 : decode b_CS_decide 12 = .ok (.bipush (-4), 2) := by decide +kernel
theorem d_CS_decide_14 : decode b_CS_decide 14 = .ok (.ireturn, 1) := by decide +kernel
theorem d_CS_decide_15 : decode b_CS_decide 15 = .ok (.aload_n 2, 1) := by decide +kernel
theorem d_CS_decide_16 : decode b_CS_decide 16 = .ok (.ifnonnull 6, 3) := by decide +kernel
theorem d_CS_decide_19 : decode b_CS_decide 19 = .ok (.bipush (-5), 2) := by decide +kernel
theorem d_CS_decide_21 : decode b_CS_decide 21 = .ok (.ireturn, 1) := by decide +kernel
theorem d_CS_decide_22 : decode b_CS_decide 22 = .ok (.aload_n 0, 1) := by decide +kernel
theorem d_CS_decide_23 : decode b_CS_decide 23 = .ok (.iload_n 1, 1) := by decide +kernel
theorem d_CS_decide_24 : decode b_CS_decide 24 = .ok (.invokevirtual 220, 3) := by decide +kernel
theorem d_CS_decide_27 : decode b_CS_decide 27 = .ok (.iconst 4, 1) := by decide +kernel
theorem d_CS_decide_28 : decode b_CS_decide 28 = .ok (.if_icmp .lt 6, 3) := by decide +kernel
theorem d_CS_decide_31 : decode b_CS_decide 31 = .ok (.bipush (-6), 2) := by decide +kernel
theorem d_CS_decide_33 : decode b_CS_decide 33 = .ok (.ireturn, 1) := by decide +kernel
theorem d_CS_decide_34 : decode b_CS_decide 34 = .ok (.aload_n 0, 1) := by decide +kernel
theorem d_CS_decide_35 : decode b_CS_decide 35 = .ok (.aload 5, 2) := by decide +kernel
theorem d_CS_decide_37 : decode b_CS_decide 37 = .ok (.invokevirtual 163, 3) := by decide +kernel
theorem d_CS_decide_40 : decode b_CS_decide 40 = .ok (.istore 6, 2) := by decide +kernel
theorem d_CS_decide_42 : decode b_CS_decide 42 = .ok (.iload 6, 2) := by decide +kernel
theorem d_CS_decide_44 : decode b_CS_decide 44 = .ok (.iload_n 3, 1) := by decide +kernel
theorem d_CS_decide_45 : decode b_CS_decide 45 = .ok (.if_icmp .lt 5, 3) := by decide +kernel
theorem d_CS_decide_48 : decode b_CS_decide 48 = .ok (.iload_n 3, 1) := by decide +kernel
theorem d_CS_decide_49 : decode b_CS_decide 49 = .ok (.ireturn, 1) := by decide +kernel
theorem d_CS_decide_50 : decode b_CS_decide 50 = .ok (.iload 4, 2) := by decide +kernel
theorem d_CS_decide_52 : decode b_CS_decide 52 = .ok (.ifCond .eq 14, 3) := by decide +kernel
theorem d_CS_decide_55 : decode b_CS_decide 55 = .ok (.iload 6, 2) := by decide +kernel
theorem d_CS_decide_57 : decode b_CS_decide 57 = .ok (.iconst 1, 1) := by decide +kernel
theorem d_CS_decide_58 : decode b_CS_decide 58 = .ok (.if_icmp .lt 8, 3) := by decide +kernel
theorem d_CS_decide_61 : decode b_CS_decide 61 = .ok (.iload 6, 2) := by decide +kernel
theorem d_CS_decide_63 : decode b_CS_decide 63 = .ok (.goto 5, 3) := by decide +kernel
theorem d_CS_decide_66 : decode b_CS_decide 66 = .ok (.bipush (-7), 2) := by decide +kernel
theorem d_CS_decide_68 : decode b_CS_decide 68 = .ok (.ireturn, 1) := by decide +kernel
theorem d_CS_answerAgain_0 : decode b_CS_answerAgain 0 = .ok (.aload_n 0, 1) := by decide +kernel
theorem d_CS_answerAgain_1 : decode b_CS_answerAgain 1 = .ok (.getfield 131, 3) := by decide +kernel
theorem d_CS_answerAgain_4 : decode b_CS_answerAgain 4 = .ok (.iconst 5, 1) := by decide +kernel
theorem d_CS_answerAgain_5 : decode b_CS_answerAgain 5 = .ok (.if_icmp .ne 6, 3) := by decide +kernel
theorem d_CS_answerAgain_8 : decode b_CS_answerAgain 8 = .ok (.bipush (-8), 2) := by decide +kernel
theorem d_CS_answerAgain_10 : decode b_CS_answerAgain 10 = .ok (.ireturn, 1) := by decide +kernel
theorem d_CS_answerAgain_11 : decode b_CS_answerAgain 11 = .ok (.aload_n 0, 1) := by decide +kernel
theorem d_CS_answerAgain_12 : decode b_CS_answerAgain 12 = .ok (.getfield 120, 3) := by decide +kernel
theorem d_CS_answerAgain_15 : decode b_CS_answerAgain 15 = .ok (.iload_n 1, 1) := by decide +kernel
theorem d_CS_answerAgain_16 : decode b_CS_answerAgain 16 = .ok (.if_icmp .ne 23, 3) := by decide +kernel
theorem d_CS_answerAgain_19 : decode b_CS_answerAgain 19 = .ok (.aload_n 0, 1) := by decide +kernel
theorem d_CS_answerAgain_20 : decode b_CS_answerAgain 20 = .ok (.getfield 121, 3) := by decide +kernel
theorem d_CS_answerAgain_23 : decode b_CS_answerAgain 23 = .ok (.iload_n 2, 1) := by decide +kernel
theorem d_CS_answerAgain_24 : decode b_CS_answerAgain 24 = .ok (.if_icmp .ne 15, 3) := by decide +kernel
theorem d_CS_answerAgain_27 : decode b_CS_answerAgain 27 = .ok (.aload_n 0, 1) := by decide +kernel
theorem d_CS_answerAgain_28 : decode b_CS_answerAgain 28 = .ok (.getfield 124, 3) := by decide +kernel
theorem d_CS_answerAgain_31 : decode b_CS_answerAgain 31 = .ok (.iload_n 3, 1) := by decide +kernel
theorem d_CS_answerAgain_32 : decode b_CS_answerAgain 32 = .ok (.if_icmp .ne 7, 3) := by decide +kernel
theorem d_CS_answerAgain_35 : decode b_CS_answerAgain 35 = .ok (.iconst 1, 1) := by decide +kernel
theorem d_CS_answerAgain_36 : decode b_CS_answerAgain 36 = .ok (.goto 4, 3) := by decide +kernel
theorem d_CS_answerAgain_39 : decode b_CS_answerAgain 39 = .ok (.iconst 0, 1) := by decide +kernel
theorem d_CS_answerAgain_40 : decode b_CS_answerAgain 40 = .ok (.istore 4, 2) := by decide +kernel
theorem d_CS_answerAgain_42 : decode b_CS_answerAgain 42 = .ok (.iload 4, 2) := by decide +kernel
theorem d_CS_answerAgain_44 : decode b_CS_answerAgain 44 = .ok (.ifCond .eq 10, 3) := by decide +kernel
theorem d_CS_answerAgain_47 : decode b_CS_answerAgain 47 = .ok (.aload_n 0, 1) := by decide +kernel
theorem d_CS_answerAgain_48 : decode b_CS_answerAgain 48 = .ok (.getfield 128, 3) := by decide +kernel
theorem d_CS_answerAgain_51 : decode b_CS_answerAgain 51 = .ok (.goto 5, 3) := by decide +kernel
theorem d_CS_answerAgain_54 : decode b_CS_answerAgain 54 = .ok (.bipush (-2), 2) := by decide +kernel
theorem d_CS_answerAgain_56 : decode b_CS_answerAgain 56 = .ok (.ireturn, 1) := by decide +kernel
theorem d_CS_stop_0 : decode b_CS_stop 0 = .ok (.aload_n 0, 1) := by decide +kernel
theorem d_CS_stop_1 : decode b_CS_stop 1 = .ok (.getfield 107, 3) := by decide +kernel
theorem d_CS_stop_4 : decode b_CS_stop 4 = .ok (.bipush 40, 2) := by decide +kernel
theorem d_CS_stop_6 : decode b_CS_stop 6 = .ok (.if_icmp .lt 6, 3) := by decide +kernel
theorem d_CS_stop_9 : decode b_CS_stop 9 = .ok (.bipush (-3), 2) := by decide +kernel
theorem d_CS_stop_11 : decode b_CS_stop 11 = .ok (.ireturn, 1) := by decide +kernel
theorem d_CS_stop_12 : decode b_CS_stop 12 = .ok (.aload_n 0, 1) := by decide +kernel
theorem d_CS_stop_13 : decode b_CS_stop 13 = .ok (.iload_n 1, 1) := by decide +kernel
theorem d_CS_stop_14 : decode b_CS_stop 14 = .ok (.iload_n 2, 1) := by decide +kernel
theorem d_CS_stop_15 : decode b_CS_stop 15 = .ok (.invokevirtual 117, 3) := by decide +kernel
theorem d_CS_stop_18 : decode b_CS_stop 18 = .ok (.astore_n 3, 1) := by decide +kernel
theorem d_CS_stop_19 : decode b_CS_stop 19 = .ok (.aload_n 3, 1) := by decide +kernel
theorem d_CS_stop_20 : decode b_CS_stop 20 = .ok (.iconst 5, 1) := by decide +kernel
theorem d_CS_stop_21 : decode b_CS_stop 21 = .ok (.putfield 131, 3) := by decide +kernel
theorem d_CS_stop_24 : decode b_CS_stop 24 = .ok (.iconst 0, 1) := by decide +kernel
theorem d_CS_stop_25 : decode b_CS_stop 25 = .ok (.ireturn, 1) := by decide +kernel
theorem d_CS_lessen_0 : decode b_CS_lessen 0 = .ok (.aload_n 1, 1) := by decide +kernel
theorem d_CS_lessen_1 : decode b_CS_lessen 1 = .ok (.getfield 134, 3) := by decide +kernel
theorem d_CS_lessen_4 : decode b_CS_lessen 4 = .ok (.iload_n 2, 1) := by decide +kernel
theorem d_CS_lessen_5 : decode b_CS_lessen 5 = .ok (.isub, 1) := by decide +kernel
theorem d_CS_lessen_6 : decode b_CS_lessen 6 = .ok (.istore_n 3, 1) := by decide +kernel
theorem d_CS_lessen_7 : decode b_CS_lessen 7 = .ok (.iload_n 3, 1) := by decide +kernel
theorem d_CS_lessen_8 : decode b_CS_lessen 8 = .ok (.ifCond .gt 5, 3) := by decide +kernel
theorem d_CS_lessen_11 : decode b_CS_lessen 11 = .ok (.iconst 0, 1) := by decide +kernel
theorem d_CS_lessen_12 : decode b_CS_lessen 12 = .ok (.ireturn, 1) := by decide +kernel
theorem d_CS_lessen_13 : decode b_CS_lessen 13 = .ok (.aload_n 0, 1) := by decide +kernel
theorem d_CS_lessen_14 : decode b_CS_lessen 14 = .ok (.aconst_null, 1) := by decide +kernel
theorem d_CS_lessen_15 : decode b_CS_lessen 15 = .ok (.aload_n 1, 1) := by decide +kernel
theorem d_CS_lessen_16 : decode b_CS_lessen 16 = .ok (.invokevirtual 60, 3) := by decide +kernel
theorem d_CS_lessen_19 : decode b_CS_lessen 19 = .ok (.aload_n 1, 1) := by decide +kernel
theorem d_CS_lessen_20 : decode b_CS_lessen 20 = .ok (.iload_n 2, 1) := by decide +kernel
theorem d_CS_lessen_21 : decode b_CS_lessen 21 = .ok (.putfield 134, 3) := by decide +kernel
theorem d_CS_lessen_24 : decode b_CS_lessen 24 = .ok (.iload_n 2, 1) := by decide +kernel
theorem d_CS_lessen_25 : decode b_CS_lessen 25 = .ok (.ifCond .ne 8, 3) := by decide +kernel
theorem d_CS_lessen_28 : decode b_CS_lessen 28 = .ok (.aload_n 1, 1) := by decide +kernel
theorem d_CS_lessen_29 : decode b_CS_lessen 29 = .ok (.iconst 4, 1) := by decide +kernel
theorem d_CS_lessen_30 : decode b_CS_lessen 30 = .ok (.putfield 131, 3) := by decide +kernel
theorem d_CS_lessen_33 : decode b_CS_lessen 33 = .ok (.iload_n 3, 1) := by decide +kernel
theorem d_CS_lessen_34 : decode b_CS_lessen 34 = .ok (.ireturn, 1) := by decide +kernel
theorem d_CS_clear_0 : decode b_CS_clear 0 = .ok (.iload_n 2, 1) := by decide +kernel
theorem d_CS_clear_1 : decode b_CS_clear 1 = .ok (.aload_n 1, 1) := by decide +kernel
theorem d_CS_clear_2 : decode b_CS_clear 2 = .ok (.getfield 147, 3) := by decide +kernel
theorem d_CS_clear_5 : decode b_CS_clear 5 = .ok (.invokestatic 160, 3) := by decide +kernel
theorem d_CS_clear_8 : decode b_CS_clear 8 = .ok (.istore_n 3, 1) := by decide +kernel
theorem d_CS_clear_9 : decode b_CS_clear 9 = .ok (.aload_n 0, 1) := by decide +kernel
theorem d_CS_clear_10 : decode b_CS_clear 10 = .ok (.aconst_null, 1) := by decide +kernel
theorem d_CS_clear_11 : decode b_CS_clear 11 = .ok (.aload_n 1, 1) := by decide +kernel
theorem d_CS_clear_12 : decode b_CS_clear 12 = .ok (.invokevirtual 60, 3) := by decide +kernel
theorem d_CS_clear_15 : decode b_CS_clear 15 = .ok (.aload_n 1, 1) := by decide +kernel
theorem d_CS_clear_16 : decode b_CS_clear 16 = .ok (.bipush 6, 2) := by decide +kernel
theorem d_CS_clear_18 : decode b_CS_clear 18 = .ok (.putfield 131, 3) := by decide +kernel
theorem d_CS_clear_21 : decode b_CS_clear 21 = .ok (.aload_n 1, 1) := by decide +kernel
theorem d_CS_clear_22 : decode b_CS_clear 22 = .ok (.aload_n 0, 1) := by decide +kernel
theorem d_CS_clear_23 : decode b_CS_clear 23 = .ok (.getfield 137, 3) := by decide +kernel
theorem d_CS_clear_26 : decode b_CS_clear 26 = .ok (.putfield 143, 3) := by decide +kernel
theorem d_CS_clear_29 : decode b_CS_clear 29 = .ok (.aload_n 1, 1) := by decide +kernel
theorem d_CS_clear_30 : decode b_CS_clear 30 = .ok (.iload_n 2, 1) := by decide +kernel
theorem d_CS_clear_31 : decode b_CS_clear 31 = .ok (.putfield 134, 3) := by decide +kernel
theorem d_CS_clear_34 : decode b_CS_clear 34 = .ok (.aload_n 0, 1) := by decide +kernel
theorem d_CS_clear_35 : decode b_CS_clear 35 = .ok (.getfield 33, 3) := by decide +kernel
theorem d_CS_clear_38 : decode b_CS_clear 38 = .ok (.aload_n 1, 1) := by decide +kernel
theorem d_CS_clear_39 : decode b_CS_clear 39 = .ok (.getfield 170, 3) := by decide +kernel
theorem d_CS_clear_42 : decode b_CS_clear 42 = .ok (.aload_n 1, 1) := by decide +kernel
theorem d_CS_clear_43 : decode b_CS_clear 43 = .ok (.getfield 146, 3) := by decide +kernel
theorem d_CS_clear_46 : decode b_CS_clear 46 = .ok (.iload_n 2, 1) := by decide +kernel
theorem d_CS_clear_47 : decode b_CS_clear 47 = .ok (.iload_n 3, 1) := by decide +kernel
theorem d_CS_clear_48 : decode b_CS_clear 48 = .ok (.iload_n 2, 1) := by decide +kernel
theorem d_CS_clear_49 : decode b_CS_clear 49 = .ok (.aload_n 1, 1) := by decide +kernel
theorem d_CS_clear_50 : decode b_CS_clear 50 = .ok (.getfield 147, 3) := by decide +kernel
theorem d_CS_clear_53 : decode b_CS_clear 53 = .ok (.invokestatic 223, 3) := by decide +kernel
theorem d_CS_clear_56 : decode b_CS_clear 56 = .ok (.invokevirtual 226, 3) := by decide +kernel
theorem d_CS_clear_59 : decode b_CS_clear 59 = .ok (.iload_n 3, 1) := by decide +kernel
theorem d_CS_clear_60 : decode b_CS_clear 60 = .ok (.ireturn, 1) := by decide +kernel
theorem d_CS_enterKey_0 : decode b_CS_enterKey 0 = .ok (.aload_n 0, 1) := by decide +kernel
theorem d_CS_enterKey_1 : decode b_CS_enterKey 1 = .ok (.aconst_null, 1) := by decide +kernel
theorem d_CS_enterKey_2 : decode b_CS_enterKey 2 = .ok (.aconst_null, 1) := by decide +kernel
theorem d_CS_enterKey_3 : decode b_CS_enterKey 3 = .ok (.invokevirtual 60, 3) := by decide +kernel
theorem d_CS_enterKey_6 : decode b_CS_enterKey 6 = .ok (.aload_n 0, 1) := by decide +kernel
theorem d_CS_enterKey_7 : decode b_CS_enterKey 7 = .ok (.getfield 25, 3) := by decide +kernel
theorem d_CS_enterKey_10 : decode b_CS_enterKey 10 = .ok (.aload_n 0, 1) := by decide +kernel
theorem d_CS_enterKey_11 : decode b_CS_enterKey 11 = .ok (.getfield 107, 3) := by decide +kernel
theorem d_CS_enterKey_14 : decode b_CS_enterKey 14 = .ok (.aaload, 1) := by decide +kernel
theorem d_CS_enterKey_15 : decode b_CS_enterKey 15 = .ok (.astore_n 3, 1) := by decide +kernel
theorem d_CS_enterKey_16 : decode b_CS_enterKey 16 = .ok (.aload_n 0, 1) := by decide +kernel
theorem d_CS_enterKey_17 : decode b_CS_enterKey 17 = .ok (.dup, 1) := by decide +kernel
theorem d_CS_enterKey_18 : decode b_CS_enterKey 18 = .ok (.getfield 107, 3) := by decide +kernel
theorem d_CS_enterKey_21 : decode b_CS_enterKey 21 = .ok (.iconst 1, 1) := by decide +kernel
theorem d_CS_enterKey_22 : decode b_CS_enterKey 22 = .ok (.iadd, 1) := by decide +kernel
theorem d_CS_enterKey_23 : decode b_CS_enterKey 23 = .ok (.putfield 107, 3) := by decide +kernel
theorem d_CS_enterKey_26 : decode b_CS_enterKey 26 = .ok (.aload_n 3, 1) := by decide +kernel
theorem d_CS_enterKey_27 : decode b_CS_enterKey 27 = .ok (.iload_n 1, 1) := by decide +kernel
theorem d_CS_enterKey_28 : decode b_CS_enterKey 28 = .ok (.iload_n 2, 1) := by decide +kernel
theorem d_CS_enterKey_29 : decode b_CS_enterKey 29 = .ok (.invokevirtual 230, 3) := by decide +kernel
theorem d_CS_enterKey_32 : decode b_CS_enterKey 32 = .ok (.aload_n 3, 1) := by decide +kernel
theorem d_CS_enterKey_33 : decode b_CS_enterKey 33 = .ok (.areturn, 1) := by decide +kernel
theorem d_CS_startChange_0 : decode b_CS_startChange 0 = .ok (.aload_n 0, 1) := by decide +kernel
theorem d_CS_startChange_1 : decode b_CS_startChange 1 = .ok (.getfield 194, 3) := by decide +kernel
theorem d_CS_startChange_4 : decode b_CS_startChange 4 = .ok (.bipush 16, 2) := by decide +kernel
theorem d_CS_startChange_6 : decode b_CS_startChange 6 = .ok (.if_icmp .lt 8, 3) := by decide +kernel
theorem d_CS_startChange_9 : decode b_CS_startChange 9 = .ok (.aload_n 0, 1) := by decide +kernel
theorem d_CS_startChange_10 : decode b_CS_startChange 10 = .ok (.iconst 0, 1) := by decide +kernel
theorem d_CS_startChange_11 : decode b_CS_startChange 11 = .ok (.putfield 194, 3) := by decide +kernel
theorem d_CS_startChange_14 : decode b_CS_startChange 14 = .ok (.aload_n 0, 1) := by decide +kernel
theorem d_CS_startChange_15 : decode b_CS_startChange 15 = .ok (.getfield 39, 3) := by decide +kernel
theorem d_CS_startChange_18 : decode b_CS_startChange 18 = .ok (.aload_n 0, 1) := by decide +kernel
theorem d_CS_startChange_19 : decode b_CS_startChange 19 = .ok (.getfield 194, 3) := by decide +kernel
theorem d_CS_startChange_22 : decode b_CS_startChange 22 = .ok (.aaload, 1) := by decide +kernel
theorem d_CS_startChange_23 : decode b_CS_startChange 23 = .ok (.astore_n 3, 1) := by decide +kernel
theorem d_CS_startChange_24 : decode b_CS_startChange 24 = .ok (.aload_n 0, 1) := by decide +kernel
theorem d_CS_startChange_25 : decode b_CS_startChange 25 = .ok (.dup, 1) := by decide +kernel
theorem d_CS_startChange_26 : decode b_CS_startChange 26 = .ok (.getfield 194, 3) := by decide +kernel
theorem d_CS_startChange_29 : decode b_CS_startChange 29 = .ok (.iconst 1, 1) := by decide +kernel
theorem d_CS_startChange_30 : decode b_CS_startChange 30 = .ok (.iadd, 1) := by decide +kernel
theorem d_CS_startChange_31 : decode b_CS_startChange 31 = .ok (.putfield 194, 3) := by decide +kernel
theorem d_CS_startChange_34 : decode b_CS_startChange 34 = .ok (.aload_n 3, 1) := by decide +kernel
theorem d_CS_startChange_35 : decode b_CS_startChange 35 = .ok (.aload_n 0, 1) := by decide +kernel
theorem d_CS_startChange_36 : decode b_CS_startChange 36 = .ok (.getfield 56, 3) := by decide +kernel
theorem d_CS_startChange_39 : decode b_CS_startChange 39 = .ok (.putfield 234, 3) := by decide +kernel
theorem d_CS_startChange_42 : decode b_CS_startChange 42 = .ok (.aload_n 3, 1) := by decide +kernel
theorem d_CS_startChange_43 : decode b_CS_startChange 43 = .ok (.aload_n 0, 1) := by decide +kernel
theorem d_CS_startChange_44 : decode b_CS_startChange 44 = .ok (.getfield 82, 3) := by decide +kernel
theorem d_CS_startChange_47 : decode b_CS_startChange 47 = .ok (.putfield 235, 3) := by decide +kernel
theorem d_CS_startChange_50 : decode b_CS_startChange 50 = .ok (.aload_n 3, 1) := by decide +kernel
theorem d_CS_startChange_51 : decode b_CS_startChange 51 = .ok (.aload_n 0, 1) := by decide +kernel
theorem d_CS_startChange_52 : decode b_CS_startChange 52 = .ok (.getfield 107, 3) := by decide +kernel
theorem d_CS_startChange_55 : decode b_CS_startChange 55 = .ok (.putfield 236, 3) := by decide +kernel
theorem d_CS_startChange_58 : decode b_CS_startChange 58 = .ok (.aload_n 3, 1) := by decide +kernel
theorem d_CS_startChange_59 : decode b_CS_startChange 59 = .ok (.getfield 237, 3) := by decide +kernel
theorem d_CS_startChange_62 : decode b_CS_startChange 62 = .ok (.aload_n 0, 1) := by decide +kernel
theorem d_CS_startChange_63 : decode b_CS_startChange 63 = .ok (.getfield 33, 3) := by decide +kernel
theorem d_CS_startChange_66 : decode b_CS_startChange 66 = .ok (.invokevirtual 238, 3) := by decide +kernel
theorem d_CS_startChange_69 : decode b_CS_startChange 69 = .ok (.aload_n 3, 1) := by decide +kernel
theorem d_CS_startChange_70 : decode b_CS_startChange 70 = .ok (.aload_n 1, 1) := by decide +kernel
theorem d_CS_startChange_71 : decode b_CS_startChange 71 = .ok (.putfield 242, 3) := by decide +kernel
theorem d_CS_startChange_74 : decode b_CS_startChange 74 = .ok (.aload_n 1, 1) := by decide +kernel
theorem d_CS_startChange_75 : decode b_CS_startChange 75 = .ok (.ifnull 19, 3) := by decide +kernel
theorem d_CS_startChange_78 : decode b_CS_startChange 78 = .ok (.aload_n 3, 1) := by decide +kernel
theorem d_CS_startChange_79 : decode b_CS_startChange 79 = .ok (.aload_n 1, 1) := by decide +kernel
theorem d_CS_startChange_80 : decode b_CS_startChange 80 = .ok (.getfield 67, 3) := by decide +kernel
theorem d_CS_startChange_83 : decode b_CS_startChange 83 = .ok (.putfield 246, 3) := by decide +kernel
theorem d_CS_startChange_86 : decode b_CS_startChange 86 = .ok (.aload_n 3, 1) := by decide +kernel
theorem d_CS_startChange_87 : decode b_CS_startChange 87 = .ok (.aload_n 1, 1) := by decide +kernel
theorem d_CS_startChange_88 : decode b_CS_startChange 88 = .ok (.getfield 70, 3) := by decide +kernel
theorem d_CS_startChange_91 : decode b_CS_startChange 91 = .ok (.putfield 247, 3) := by decide +kernel
theorem d_CS_startChange_94 : decode b_CS_startChange 94 = .ok (.aload_n 3, 1) := by decide +kernel
theorem d_CS_startChange_95 : decode b_CS_startChange 95 = .ok (.aload_n 2, 1) := by decide +kernel
theorem d_CS_startChange_96 : decode b_CS_startChange 96 = .ok (.putfield 248, 3) := by decide +kernel
theorem d_CS_startChange_99 : decode b_CS_startChange 99 = .ok (.aload_n 2, 1) := by decide +kernel
theorem d_CS_startChange_100 : decode b_CS_startChange 100 = .ok (.ifnull 27, 3) := by decide +kernel
theorem d_CS_startChange_103 : decode b_CS_startChange 103 = .ok (.aload_n 3, 1) := by decide +kernel
theorem d_CS_startChange_104 : decode b_CS_startChange 104 = .ok (.aload_n 2, 1) := by decide +kernel
theorem d_CS_startChange_105 : decode b_CS_startChange 105 = .ok (.getfield 131, 3) := by decide +kernel
theorem d_CS_startChange_108 : decode b_CS_startChange 108 = .ok (.putfield 252, 3) := by decide +kernel
theorem d_CS_startChange_111 : decode b_CS_startChange 111 = .ok (.aload_n 3, 1) := by decide +kernel
theorem d_CS_startChange_112 : decode b_CS_startChange 112 = .ok (.aload_n 2, 1) := by decide +kernel
theorem d_CS_startChange_113 : decode b_CS_startChange 113 = .ok (.getfield 134, 3) := by decide +kernel
theorem d_CS_startChange_116 : decode b_CS_startChange 116 = .ok (.putfield 253, 3) := by decide +kernel
theorem d_CS_startChange_119 : decode b_CS_startChange 119 = .ok (.aload_n 3, 1) := by decide +kernel
theorem d_CS_startChange_120 : decode b_CS_startChange 120 = .ok (.aload_n 2, 1) := by decide +kernel
theorem d_CS_startChange_121 : decode b_CS_startChange 121 = .ok (.getfield 143, 3) := by decide +kernel
theorem d_CS_startChange_124 : decode b_CS_startChange 124 = .ok (.putfield 254, 3) := by decide +kernel
theorem d_CS_startChange_127 : decode b_CS_startChange 127 = .ok (.return_, 1) := by decide +kernel
theorem d_CS_undo_0 : decode b_CS_undo 0 = .ok (.aload_n 0, 1) := by decide +kernel
theorem d_CS_undo_1 : decode b_CS_undo 1 = .ok (.aload_n 1, 1) := by decide +kernel
theorem d_CS_undo_2 : decode b_CS_undo 2 = .ok (.getfield 234, 3) := by decide +kernel
theorem d_CS_undo_5 : decode b_CS_undo 5 = .ok (.putfield 56, 3) := by decide +kernel
theorem d_CS_undo_8 : decode b_CS_undo 8 = .ok (.aload_n 0, 1) := by decide +kernel
theorem d_CS_undo_9 : decode b_CS_undo 9 = .ok (.aload_n 1, 1) := by decide +kernel
theorem d_CS_undo_10 : decode b_CS_undo 10 = .ok (.getfield 235, 3) := by decide +kernel
theorem d_CS_undo_13 : decode b_CS_undo 13 = .ok (.putfield 82, 3) := by decide +kernel
theorem d_CS_undo_16 : decode b_CS_undo 16 = .ok (.aload_n 0, 1) := by decide +kernel
theorem d_CS_undo_17 : decode b_CS_undo 17 = .ok (.aload_n 1, 1) := by decide +kernel
theorem d_CS_undo_18 : decode b_CS_undo 18 = .ok (.getfield 236, 3) := by decide +kernel
theorem d_CS_undo_21 : decode b_CS_undo 21 = .ok (.putfield 107, 3) := by decide +kernel
theorem d_CS_undo_24 : decode b_CS_undo 24 = .ok (.aload_n 0, 1) := by decide +kernel
theorem d_CS_undo_25 : decode b_CS_undo 25 = .ok (.getfield 33, 3) := by decide +kernel
theorem d_CS_undo_28 : decode b_CS_undo 28 = .ok (.aload_n 1, 1) := by decide +kernel
theorem d_CS_undo_29 : decode b_CS_undo 29 = .ok (.getfield 237, 3) := by decide +kernel
theorem d_CS_undo_32 : decode b_CS_undo 32 = .ok (.invokevirtual 238, 3) := by decide +kernel
theorem d_CS_undo_35 : decode b_CS_undo 35 = .ok (.aload_n 1, 1) := by decide +kernel
theorem d_CS_undo_36 : decode b_CS_undo 36 = .ok (.getfield 242, 3) := by decide +kernel
theorem d_CS_undo_39 : decode b_CS_undo 39 = .ok (.astore_n 2, 1) := by decide +kernel
theorem d_CS_undo_40 : decode b_CS_undo 40 = .ok (.aload_n 2, 1) := by decide +kernel
theorem d_CS_undo_41 : decode b_CS_undo 41 = .ok (.ifnull 19, 3) := by decide +kernel
theorem d_CS_undo_44 : decode b_CS_undo 44 = .ok (.aload_n 2, 1) := by decide +kernel
theorem d_CS_undo_45 : decode b_CS_undo 45 = .ok (.aload_n 1, 1) := by decide +kernel
theorem d_CS_undo_46 : decode b_CS_undo 46 = .ok (.getfield 246, 3) := by decide +kernel
theorem d_CS_undo_49 : decode b_CS_undo 49 = .ok (.putfield 67, 3) := by decide +kernel
theorem d_CS_undo_52 : decode b_CS_undo 52 = .ok (.aload_n 2, 1) := by decide +kernel
theorem d_CS_undo_53 : decode b_CS_undo 53 = .ok (.aload_n 1, 1) := by decide +kernel
theorem d_CS_undo_54 : decode b_CS_undo 54 = .ok (.getfield 247, 3) := by decide +kernel
theorem d_CS_undo_57 : decode b_CS_undo 57 = .ok (.putfield 70, 3) := by decide +kernel
theorem d_CS_undo_60 : decode b_CS_undo 60 = .ok (.aload_n 1, 1) := by decide +kernel
theorem d_CS_undo_61 : decode b_CS_undo 61 = .ok (.getfield 248, 3) := by decide +kernel
theorem d_CS_undo_64 : decode b_CS_undo 64 = .ok (.astore_n 3, 1) := by decide +kernel
theorem d_CS_undo_65 : decode b_CS_undo 65 = .ok (.aload_n 3, 1) := by decide +kernel
theorem d_CS_undo_66 : decode b_CS_undo 66 = .ok (.ifnull 27, 3) := by decide +kernel
theorem d_CS_undo_69 : decode b_CS_undo 69 = .ok (.aload_n 3, 1) := by decide +kernel
theorem d_CS_undo_70 : decode b_CS_undo 70 = .ok (.aload_n 1, 1) := by decide +kernel
theorem d_CS_undo_71 : decode b_CS_undo 71 = .ok (.getfield 252, 3) := by decide +kernel
theorem d_CS_undo_74 : decode b_CS_undo 74 = .ok (.putfield 131, 3) := by decide +kernel
theorem d_CS_undo_77 : decode b_CS_undo 77 = .ok (.aload_n 3, 1) := by decide +kernel
theorem d_CS_undo_78 : decode b_CS_undo 78 = .ok (.aload_n 1, 1) := by decide +kernel
theorem d_CS_undo_79 : decode b_CS_undo 79 = .ok (.getfield 253, 3) := by decide +kernel
theorem d_CS_undo_82 : decode b_CS_undo 82 = .ok (.putfield 134, 3) := by decide +kernel
theorem d_CS_undo_85 : decode b_CS_undo 85 = .ok (.aload_n 3, 1) := by decide +kernel
theorem d_CS_undo_86 : decode b_CS_undo 86 = .ok (.aload_n 1, 1) := by decide +kernel
theorem d_CS_undo_87 : decode b_CS_undo 87 = .ok (.getfield 254, 3) := by decide +kernel
theorem d_CS_undo_90 : decode b_CS_undo 90 = .ok (.putfield 143, 3) := by decide +kernel
theorem d_CS_undo_93 : decode b_CS_undo 93 = .ok (.return_, 1) := by decide +kernel
theorem d_Ca_init_0 : decode b_Ca_init 0 = .ok (.aload_n 0, 1) := by decide +kernel
theorem d_Ca_init_1 : decode b_Ca_init 1 = .ok (.invokespecial 1, 3) := by decide +kernel
theorem d_Ca_init_4 : decode b_Ca_init 4 = .ok (.return_, 1) := by decide +kernel
theorem d_Ch_init_0 : decode b_Ch_init 0 = .ok (.aload_n 0, 1) := by decide +kernel
theorem d_Ch_init_1 : decode b_Ch_init 1 = .ok (.invokespecial 1, 3) := by decide +kernel
theorem d_Ch_init_4 : decode b_Ch_init 4 = .ok (.aload_n 0, 1) := by decide +kernel
theorem d_Ch_init_5 : decode b_Ch_init 5 = .ok (.new 7, 3) := by decide +kernel
theorem d_Ch_init_8 : decode b_Ch_init 8 = .ok (.dup, 1) := by decide +kernel
theorem d_Ch_init_9 : decode b_Ch_init 9 = .ok (.invokespecial 9, 3) := by decide +kernel
theorem d_Ch_init_12 : decode b_Ch_init 12 = .ok (.putfield 10, 3) := by decide +kernel
theorem d_Ch_init_15 : decode b_Ch_init 15 = .ok (.return_, 1) := by decide +kernel
theorem d_Le_init_0 : decode b_Le_init 0 = .ok (.aload_n 0, 1) := by decide +kernel
theorem d_Le_init_1 : decode b_Le_init 1 = .ok (.invokespecial 3, 3) := by decide +kernel
theorem d_Le_init_4 : decode b_Le_init 4 = .ok (.aload_n 0, 1) := by decide +kernel
theorem d_Le_init_5 : decode b_Le_init 5 = .ok (.bipush 9, 2) := by decide +kernel
theorem d_Le_init_7 : decode b_Le_init 7 = .ok (.newarray .long, 2) := by decide +kernel
theorem d_Le_init_9 : decode b_Le_init 9 = .ok (.putfield 9, 3) := by decide +kernel
theorem d_Le_init_12 : decode b_Le_init 12 = .ok (.aload_n 0, 1) := by decide +kernel
theorem d_Le_init_13 : decode b_Le_init 13 = .ok (.bipush 9, 2) := by decide +kernel
theorem d_Le_init_15 : decode b_Le_init 15 = .ok (.newarray .long, 2) := by decide +kernel
theorem d_Le_init_17 : decode b_Le_init 17 = .ok (.putfield 15, 3) := by decide +kernel
theorem d_Le_init_20 : decode b_Le_init 20 = .ok (.aload_n 0, 1) := by decide +kernel
theorem d_Le_init_21 : decode b_Le_init 21 = .ok (.iconst 4, 1) := by decide +kernel
theorem d_Le_init_22 : decode b_Le_init 22 = .ok (.newarray .int, 2) := by decide +kernel
theorem d_Le_init_24 : decode b_Le_init 24 = .ok (.putfield 18, 3) := by decide +kernel
theorem d_Le_init_27 : decode b_Le_init 27 = .ok (.aload_n 0, 1) := by decide +kernel
theorem d_Le_init_28 : decode b_Le_init 28 = .ok (.iconst 4, 1) := by decide +kernel
theorem d_Le_init_29 : decode b_Le_init 29 = .ok (.newarray .long, 2) := by decide +kernel
theorem d_Le_init_31 : decode b_Le_init 31 = .ok (.putfield 22, 3) := by decide +kernel
theorem d_Le_init_34 : decode b_Le_init 34 = .ok (.return_, 1) := by decide +kernel
theorem d_Le_take_0 : decode b_Le_take 0 = .ok (.aload_n 0, 1) := by decide +kernel
theorem d_Le_take_1 : decode b_Le_take 1 = .ok (.getfield 9, 3) := by decide +kernel
theorem d_Le_take_4 : decode b_Le_take 4 = .ok (.iload_n 1, 1) := by decide +kernel
theorem d_Le_take_5 : decode b_Le_take 5 = .ok (.dup2, 1) := by decide +kernel
theorem d_Le_take_6 : decode b_Le_take 6 = .ok (.laload, 1) := by decide +kernel
theorem d_Le_take_7 : decode b_Le_take 7 = .ok (.iload_n 3, 1) := by decide +kernel
theorem d_Le_take_8 : decode b_Le_take 8 = .ok (.iload 4, 2) := by decide +kernel
theorem d_Le_take_10 : decode b_Le_take 10 = .ok (.isub, 1) := by decide +kernel
theorem d_Le_take_11 : decode b_Le_take 11 = .ok (.i2l, 1) := by decide +kernel
theorem d_Le_take_12 : decode b_Le_take 12 = .ok (.ladd, 1) := by decide +kernel
theorem d_Le_take_13 : decode b_Le_take 13 = .ok (.lastore, 1) := by decide +kernel
theorem d_Le_take_14 : decode b_Le_take 14 = .ok (.aload_n 0, 1) := by decide +kernel
theorem d_Le_take_15 : decode b_Le_take 15 = .ok (.getfield 9, 3) := by decide +kernel
theorem d_Le_take_18 : decode b_Le_take 18 = .ok (.iconst 4, 1) := by decide +kernel
theorem d_Le_take_19 : decode b_Le_take 19 = .ok (.iload_n 2, 1) := by decide +kernel
theorem d_Le_take_20 : decode b_Le_take 20 = .ok (.iadd, 1) := by decide +kernel
theorem d_Le_take_21 : decode b_Le_take 21 = .ok (.dup2, 1) := by decide +kernel
theorem d_Le_take_22 : decode b_Le_take 22 = .ok (.laload, 1) := by decide +kernel
theorem d_Le_take_23 : decode b_Le_take 23 = .ok (.iload 5, 2) := by decide +kernel
theorem d_Le_take_25 : decode b_Le_take 25 = .ok (.iload_n 3, 1) := by decide +kernel
theorem d_Le_take_26 : decode b_Le_take 26 = .ok (.isub, 1) := by decide +kernel
theorem d_Le_take_27 : decode b_Le_take 27 = .ok (.i2l, 1) := by decide +kernel
theorem d_Le_take_28 : decode b_Le_take 28 = .ok (.ladd, 1) := by decide +kernel
theorem d_Le_take_29 : decode b_Le_take 29 = .ok (.lastore, 1) := by decide +kernel
theorem d_Le_take_30 : decode b_Le_take 30 = .ok (.aload_n 0, 1) := by decide +kernel
theorem d_Le_take_31 : decode b_Le_take 31 = .ok (.getfield 9, 3) := by decide +kernel
theorem d_Le_take_34 : decode b_Le_take 34 = .ok (.bipush 8, 2) := by decide +kernel
theorem d_Le_take_36 : decode b_Le_take 36 = .ok (.dup2, 1) := by decide +kernel
theorem d_Le_take_37 : decode b_Le_take 37 = .ok (.laload, 1) := by decide +kernel
theorem d_Le_take_38 : decode b_Le_take 38 = .ok (.iload 4, 2) := by decide +kernel
theorem d_Le_take_40 : decode b_Le_take 40 = .ok (.iload 5, 2) := by decide +kernel
theorem d_Le_take_42 : decode b_Le_take 42 = .ok (.isub, 1) := by decide +kernel
theorem d_Le_take_43 : decode b_Le_take 43 = .ok (.i2l, 1) := by decide +kernel
theorem d_Le_take_44 : decode b_Le_take 44 = .ok (.ladd, 1) := by decide +kernel
theorem d_Le_take_45 : decode b_Le_take 45 = .ok (.lastore, 1) := by decide +kernel
theorem d_Le_take_46 : decode b_Le_take 46 = .ok (.aload_n 0, 1) := by decide +kernel
theorem d_Le_take_47 : decode b_Le_take 47 = .ok (.getfield 18, 3) := by decide +kernel
theorem d_Le_take_50 : decode b_Le_take 50 = .ok (.iload_n 1, 1) := by decide +kernel
theorem d_Le_take_51 : decode b_Le_take 51 = .ok (.dup2, 1) := by decide +kernel
theorem d_Le_take_52 : decode b_Le_take 52 = .ok (.iaload, 1) := by decide +kernel
theorem d_Le_take_53 : decode b_Le_take 53 = .ok (.iconst 1, 1) := by decide +kernel
theorem d_Le_take_54 : decode b_Le_take 54 = .ok (.iadd, 1) := by decide +kernel
theorem d_Le_take_55 : decode b_Le_take 55 = .ok (.iastore, 1) := by decide +kernel
theorem d_Le_take_56 : decode b_Le_take 56 = .ok (.aload_n 0, 1) := by decide +kernel
theorem d_Le_take_57 : decode b_Le_take 57 = .ok (.getfield 22, 3) := by decide +kernel
theorem d_Le_take_60 : decode b_Le_take 60 = .ok (.iload_n 1, 1) := by decide +kernel
theorem d_Le_take_61 : decode b_Le_take 61 = .ok (.dup2, 1) := by decide +kernel
theorem d_Le_take_62 : decode b_Le_take 62 = .ok (.laload, 1) := by decide +kernel
theorem d_Le_take_63 : decode b_Le_take 63 = .ok (.iload_n 3, 1) := by decide +kernel
theorem d_Le_take_64 : decode b_Le_take 64 = .ok (.i2l, 1) := by decide +kernel
theorem d_Le_take_65 : decode b_Le_take 65 = .ok (.ladd, 1) := by decide +kernel
theorem d_Le_take_66 : decode b_Le_take 66 = .ok (.lastore, 1) := by decide +kernel
theorem d_Le_take_67 : decode b_Le_take 67 = .ok (.aload_n 0, 1) := by decide +kernel
theorem d_Le_take_68 : decode b_Le_take 68 = .ok (.dup, 1) := by decide +kernel
theorem d_Le_take_69 : decode b_Le_take 69 = .ok (.getfield 25, 3) := by decide +kernel
theorem d_Le_take_72 : decode b_Le_take 72 = .ok (.iconst 1, 1) := by decide +kernel
theorem d_Le_take_73 : decode b_Le_take 73 = .ok (.iadd, 1) := by decide +kernel
theorem d_Le_take_74 : decode b_Le_take 74 = .ok (.putfield 25, 3) := by decide +kernel
theorem d_Le_take_77 : decode b_Le_take 77 = .ok (.return_, 1) := by decide +kernel
theorem d_Le_giveBack_0 : decode b_Le_giveBack 0 = .ok (.aload_n 0, 1) := by decide +kernel
theorem d_Le_giveBack_1 : decode b_Le_giveBack 1 = .ok (.getfield 9, 3) := by decide +kernel
theorem d_Le_giveBack_4 : decode b_Le_giveBack 4 = .ok (.iload_n 1, 1) := by decide +kernel
theorem d_Le_giveBack_5 : decode b_Le_giveBack 5 = .ok (.dup2, 1) := by decide +kernel
theorem d_Le_giveBack_6 : decode b_Le_giveBack 6 = .ok (.laload, 1) := by decide +kernel
theorem d_Le_giveBack_7 : decode b_Le_giveBack 7 = .ok (.iload_n 3, 1) := by decide +kernel
theorem d_Le_giveBack_8 : decode b_Le_giveBack 8 = .ok (.i2l, 1) := by decide +kernel
theorem d_Le_giveBack_9 : decode b_Le_giveBack 9 = .ok (.lsub, 1) := by decide +kernel
theorem d_Le_giveBack_10 : decode b_Le_giveBack 10 = .ok (.lastore, 1) := by decide +kernel
theorem d_Le_giveBack_11 : decode b_Le_giveBack 11 = .ok (.aload_n 0, 1) := by decide +kernel
theorem d_Le_giveBack_12 : decode b_Le_giveBack 12 = .ok (.getfield 9, 3) := by decide +kernel
theorem d_Le_giveBack_15 : decode b_Le_giveBack 15 = .ok (.iconst 4, 1) := by decide +kernel
theorem d_Le_giveBack_16 : decode b_Le_giveBack 16 = .ok (.iload_n 2, 1) := by decide +kernel
theorem d_Le_giveBack_17 : decode b_Le_giveBack 17 = .ok (.iadd, 1) := by decide +kernel
theorem d_Le_giveBack_18 : decode b_Le_giveBack 18 = .ok (.dup2, 1) := by decide +kernel
theorem d_Le_giveBack_19 : decode b_Le_giveBack 19 = .ok (.laload, 1) := by decide +kernel
theorem d_Le_giveBack_20 : decode b_Le_giveBack 20 = .ok (.iload_n 3, 1) := by decide +kernel
theorem d_Le_giveBack_21 : decode b_Le_giveBack 21 = .ok (.i2l, 1) := by decide +kernel
theorem d_Le_giveBack_22 : decode b_Le_giveBack 22 = .ok (.ladd, 1) := by decide +kernel
theorem d_Le_giveBack_23 : decode b_Le_giveBack 23 = .ok (.lastore, 1) := by decide +kernel
theorem d_Le_giveBack_24 : decode b_Le_giveBack 24 = .ok (.aload_n 0, 1) := by decide +kernel
theorem d_Le_giveBack_25 : decode b_Le_giveBack 25 = .ok (.dup, 1) := by decide +kernel
theorem d_Le_giveBack_26 : decode b_Le_giveBack 26 = .ok (.getfield 25, 3) := by decide +kernel
theorem d_Le_giveBack_29 : decode b_Le_giveBack 29 = .ok (.iconst 1, 1) := by decide +kernel
theorem d_Le_giveBack_30 : decode b_Le_giveBack 30 = .ok (.iadd, 1) := by decide +kernel
theorem d_Le_giveBack_31 : decode b_Le_giveBack 31 = .ok (.putfield 25, 3) := by decide +kernel
theorem d_Le_giveBack_34 : decode b_Le_giveBack 34 = .ok (.return_, 1) := by decide +kernel
theorem d_Le_takeAgain_0 : decode b_Le_takeAgain 0 = .ok (.aload_n 0, 1) := by decide +kernel
theorem d_Le_takeAgain_1 : decode b_Le_takeAgain 1 = .ok (.getfield 9, 3) := by decide +kernel
theorem d_Le_takeAgain_4 : decode b_Le_takeAgain 4 = .ok (.iload_n 1, 1) := by decide +kernel
theorem d_Le_takeAgain_5 : decode b_Le_takeAgain 5 = .ok (.dup2, 1) := by decide +kernel
theorem d_Le_takeAgain_6 : decode b_Le_takeAgain 6 = .ok (.laload, 1) := by decide +kernel
theorem d_Le_takeAgain_7 : decode b_Le_takeAgain 7 = .ok (.iload_n 3, 1) := by decide +kernel
theorem d_Le_takeAgain_8 : decode b_Le_takeAgain 8 = .ok (.i2l, 1) := by decide +kernel
theorem d_Le_takeAgain_9 : decode b_Le_takeAgain 9 = .ok (.ladd, 1) := by decide +kernel
theorem d_Le_takeAgain_10 : decode b_Le_takeAgain 10 = .ok (.lastore, 1) := by decide +kernel
theorem d_Le_takeAgain_11 : decode b_Le_takeAgain 11 = .ok (.aload_n 0, 1) := by decide +kernel
theorem d_Le_takeAgain_12 : decode b_Le_takeAgain 12 = .ok (.getfield 9, 3) := by decide +kernel
theorem d_Le_takeAgain_15 : decode b_Le_takeAgain 15 = .ok (.iconst 4, 1) := by decide +kernel
theorem d_Le_takeAgain_16 : decode b_Le_takeAgain 16 = .ok (.iload_n 2, 1) := by decide +kernel
theorem d_Le_takeAgain_17 : decode b_Le_takeAgain 17 = .ok (.iadd, 1) := by decide +kernel
theorem d_Le_takeAgain_18 : decode b_Le_takeAgain 18 = .ok (.dup2, 1) := by decide +kernel
theorem d_Le_takeAgain_19 : decode b_Le_takeAgain 19 = .ok (.laload, 1) := by decide +kernel
theorem d_Le_takeAgain_20 : decode b_Le_takeAgain 20 = .ok (.iload_n 3, 1) := by decide +kernel
theorem d_Le_takeAgain_21 : decode b_Le_takeAgain 21 = .ok (.i2l, 1) := by decide +kernel
theorem d_Le_takeAgain_22 : decode b_Le_takeAgain 22 = .ok (.lsub, 1) := by decide +kernel
theorem d_Le_takeAgain_23 : decode b_Le_takeAgain 23 = .ok (.lastore, 1) := by decide +kernel
theorem d_Le_takeAgain_24 : decode b_Le_takeAgain 24 = .ok (.aload_n 0, 1) := by decide +kernel
theorem d_Le_takeAgain_25 : decode b_Le_takeAgain 25 = .ok (.dup, 1) := by decide +kernel
theorem d_Le_takeAgain_26 : decode b_Le_takeAgain 26 = .ok (.getfield 25, 3) := by decide +kernel
theorem d_Le_takeAgain_29 : decode b_Le_takeAgain 29 = .ok (.iconst 1, 1) := by decide +kernel
theorem d_Le_takeAgain_30 : decode b_Le_takeAgain 30 = .ok (.iadd, 1) := by decide +kernel
theorem d_Le_takeAgain_31 : decode b_Le_takeAgain 31 = .ok (.putfield 25, 3) := by decide +kernel
theorem d_Le_takeAgain_34 : decode b_Le_takeAgain 34 = .ok (.return_, 1) := by decide +kernel
theorem d_Le_settle_0 : decode b_Le_settle 0 = .ok (.iconst 0, 1) := by decide +kernel
theorem d_Le_settle_1 : decode b_Le_settle 1 = .ok (.istore_n 1, 1) := by decide +kernel
theorem d_Le_settle_2 : decode b_Le_settle 2 = .ok (.iload_n 1, 1) := by decide +kernel
theorem d_Le_settle_3 : decode b_Le_settle 3 = .ok (.bipush 9, 2) := by decide +kernel
theorem d_Le_settle_5 : decode b_Le_settle 5 = .ok (.if_icmp .ge 31, 3) := by decide +kernel
theorem d_Le_settle_8 : decode b_Le_settle 8 = .ok (.aload_n 0, 1) := by decide +kernel
theorem d_Le_settle_9 : decode b_Le_settle 9 = .ok (.getfield 15, 3) := by decide +kernel
theorem d_Le_settle_12 : decode b_Le_settle 12 = .ok (.iload_n 1, 1) := by decide +kernel
theorem d_Le_settle_13 : decode b_Le_settle 13 = .ok (.dup2, 1) := by decide +kernel
theorem d_Le_settle_14 : decode b_Le_settle 14 = .ok (.laload, 1) := by decide +kernel
theorem d_Le_settle_15 : decode b_Le_settle 15 = .ok (.aload_n 0, 1) := by decide +kernel
theorem d_Le_settle_16 : decode b_Le_settle 16 = .ok (.getfield 9, 3) := by decide +kernel
theorem d_Le_settle_19 : decode b_Le_settle 19 = .ok (.iload_n 1, 1) := by decide +kernel
theorem d_Le_settle_20 : decode b_Le_settle 20 = .ok (.laload, 1) := by decide +kernel
theorem d_Le_settle_21 : decode b_Le_settle 21 = .ok (.ladd, 1) := by decide +kernel
theorem d_Le_settle_22 : decode b_Le_settle 22 = .ok (.lastore, 1) := by decide +kernel
theorem d_Le_settle_23 : decode b_Le_settle 23 = .ok (.aload_n 0, 1) := by decide +kernel
theorem d_Le_settle_24 : decode b_Le_settle 24 = .ok (.getfield 9, 3) := by decide +kernel
theorem d_Le_settle_27 : decode b_Le_settle 27 = .ok (.iload_n 1, 1) := by decide +kernel
theorem d_Le_settle_28 : decode b_Le_settle 28 = .ok (.lconst 0, 1) := by decide +kernel
theorem d_Le_settle_29 : decode b_Le_settle 29 = .ok (.lastore, 1) := by decide +kernel
theorem d_Le_settle_30 : decode b_Le_settle 30 = .ok (.iinc 1 1, 3) := by decide +kernel
theorem d_Le_settle_33 : decode b_Le_settle 33 = .ok (.goto (-31), 3) := by decide +kernel
theorem d_Le_settle_36 : decode b_Le_settle 36 = .ok (.iconst 0, 1) := by decide +kernel
theorem d_Le_settle_37 : decode b_Le_settle 37 = .ok (.istore_n 1, 1) := by decide +kernel
theorem d_Le_settle_38 : decode b_Le_settle 38 = .ok (.iload_n 1, 1) := by decide +kernel
theorem d_Le_settle_39 : decode b_Le_settle 39 = .ok (.iconst 4, 1) := by decide +kernel
theorem d_Le_settle_40 : decode b_Le_settle 40 = .ok (.if_icmp .ge 23, 3) := by decide +kernel
theorem d_Le_settle_43 : decode b_Le_settle 43 = .ok (.aload_n 0, 1) := by decide +kernel
theorem d_Le_settle_44 : decode b_Le_settle 44 = .ok (.getfield 18, 3) := by decide +kernel
theorem d_Le_settle_47 : decode b_Le_settle 47 = .ok (.iload_n 1, 1) := by decide +kernel
theorem d_Le_settle_48 : decode b_Le_settle 48 = .ok (.iconst 0, 1) := by decide +kernel
theorem d_Le_settle_49 : decode b_Le_settle 49 = .ok (.iastore, 1) := by decide +kernel
theorem d_Le_settle_50 : decode b_Le_settle 50 = .ok (.aload_n 0, 1) := by decide +kernel
theorem d_Le_settle_51 : decode b_Le_settle 51 = .ok (.getfield 22, 3) := by decide +kernel
theorem d_Le_settle_54 : decode b_Le_settle 54 = .ok (.iload_n 1, 1) := by decide +kernel
theorem d_Le_settle_55 : decode b_Le_settle 55 = .ok (.lconst 0, 1) := by decide +kernel
theorem d_Le_settle_56 : decode b_Le_settle 56 = .ok (.lastore, 1) := by decide +kernel
theorem d_Le_settle_57 : decode b_Le_settle 57 = .ok (.iinc 1 1, 3) := by decide +kernel
theorem d_Le_settle_60 : decode b_Le_settle 60 = .ok (.goto (-22), 3) := by decide +kernel
theorem d_Le_settle_63 : decode b_Le_settle 63 = .ok (.aload_n 0, 1) := by decide +kernel
theorem d_Le_settle_64 : decode b_Le_settle 64 = .ok (.iconst 0, 1) := by decide +kernel
theorem d_Le_settle_65 : decode b_Le_settle 65 = .ok (.putfield 25, 3) := by decide +kernel
theorem d_Le_settle_68 : decode b_Le_settle 68 = .ok (.return_, 1) := by decide +kernel
theorem d_Le_copyFrom_0 : decode b_Le_copyFrom 0 = .ok (.aload_n 1, 1) := by decide +kernel
theorem d_Le_copyFrom_1 : decode b_Le_copyFrom 1 = .ok (.getfield 9, 3) := by decide +kernel
theorem d_Le_copyFrom_4 : decode b_Le_copyFrom 4 = .ok (.iconst 0, 1) := by decide +kernel
theorem d_Le_copyFrom_5 : decode b_Le_copyFrom 5 = .ok (.aload_n 0, 1) := by decide +kernel
theorem d_Le_copyFrom_6 : decode b_Le_copyFrom 6 = .ok (.getfield 9, 3) := by decide +kernel
theorem d_Le_copyFrom_9 : decode b_Le_copyFrom 9 = .ok (.iconst 0, 1) := by decide +kernel
theorem d_Le_copyFrom_10 : decode b_Le_copyFrom 10 = .ok (.bipush 9, 2) := by decide +kernel
theorem d_Le_copyFrom_12 : decode b_Le_copyFrom 12 = .ok (.invokestatic 29, 3) := by decide +kernel
theorem d_Le_copyFrom_15 : decode b_Le_copyFrom 15 = .ok (.aload_n 1, 1) := by decide +kernel
theorem d_Le_copyFrom_16 : decode b_Le_copyFrom 16 = .ok (.getfield 15, 3) := by decide +kernel
theorem d_Le_copyFrom_19 : decode b_Le_copyFrom 19 = .ok (.iconst 0, 1) := by decide +kernel
theorem d_Le_copyFrom_20 : decode b_Le_copyFrom 20 = .ok (.aload_n 0, 1) := by decide +kernel
theorem d_Le_copyFrom_21 : decode b_Le_copyFrom 21 = .ok (.getfield 15, 3) := by decide +kernel
theorem d_Le_copyFrom_24 : decode b_Le_copyFrom 24 = .ok (.iconst 0, 1) := by decide +kernel
theorem d_Le_copyFrom_25 : decode b_Le_copyFrom 25 = .ok (.bipush 9, 2) := by decide +kernel
theorem d_Le_copyFrom_27 : decode b_Le_copyFrom 27 = .ok (.invokestatic 29, 3) := by decide +kernel
theorem d_Le_copyFrom_30 : decode b_Le_copyFrom 30 = .ok (.aload_n 1, 1) := by decide +kernel
theorem d_Le_copyFrom_31 : decode b_Le_copyFrom 31 = .ok (.getfield 18, 3) := by decide +kernel
theorem d_Le_copyFrom_34 : decode b_Le_copyFrom 34 = .ok (.iconst 0, 1) := by decide +kernel
theorem d_Le_copyFrom_35 : decode b_Le_copyFrom 35 = .ok (.aload_n 0, 1) := by decide +kernel
theorem d_Le_copyFrom_36 : decode b_Le_copyFrom 36 = .ok (.getfield 18, 3) := by decide +kernel
theorem d_Le_copyFrom_39 : decode b_Le_copyFrom 39 = .ok (.iconst 0, 1) := by decide +kernel
theorem d_Le_copyFrom_40 : decode b_Le_copyFrom 40 = .ok (.iconst 4, 1) := by decide +kernel
theorem d_Le_copyFrom_41 : decode b_Le_copyFrom 41 = .ok (.invokestatic 29, 3) := by decide +kernel
theorem d_Le_copyFrom_44 : decode b_Le_copyFrom 44 = .ok (.aload_n 1, 1) := by decide +kernel
theorem d_Le_copyFrom_45 : decode b_Le_copyFrom 45 = .ok (.getfield 22, 3) := by decide +kernel
theorem d_Le_copyFrom_48 : decode b_Le_copyFrom 48 = .ok (.iconst 0, 1) := by decide +kernel
theorem d_Le_copyFrom_49 : decode b_Le_copyFrom 49 = .ok (.aload_n 0, 1) := by decide +kernel
theorem d_Le_copyFrom_50 : decode b_Le_copyFrom 50 = .ok (.getfield 22, 3) := by decide +kernel
theorem d_Le_copyFrom_53 : decode b_Le_copyFrom 53 = .ok (.iconst 0, 1) := by decide +kernel
theorem d_Le_copyFrom_54 : decode b_Le_copyFrom 54 = .ok (.iconst 4, 1) := by decide +kernel
theorem d_Le_copyFrom_55 : decode b_Le_copyFrom 55 = .ok (.invokestatic 29, 3) := by decide +kernel
theorem d_Le_copyFrom_58 : decode b_Le_copyFrom 58 = .ok (.aload_n 0, 1) := by decide +kernel
theorem d_Le_copyFrom_59 : decode b_Le_copyFrom 59 = .ok (.aload_n 1, 1) := by decide +kernel
theorem d_Le_copyFrom_60 : decode b_Le_copyFrom 60 = .ok (.getfield 25, 3) := by decide +kernel
theorem d_Le_copyFrom_63 : decode b_Le_copyFrom 63 = .ok (.putfield 25, 3) := by decide +kernel
theorem d_Le_copyFrom_66 : decode b_Le_copyFrom 66 = .ok (.return_, 1) := by decide +kernel
theorem d_Pa_init_0 : decode b_Pa_init 0 = .ok (.aload_n 0, 1) := by decide +kernel
theorem d_Pa_init_1 : decode b_Pa_init 1 = .ok (.invokespecial 3, 3) := by decide +kernel
theorem d_Pa_init_4 : decode b_Pa_init 4 = .ok (.return_, 1) := by decide +kernel
theorem d_Pa_begin_0 : decode b_Pa_begin 0 = .ok (.aload_n 0, 1) := by decide +kernel
theorem d_Pa_begin_1 : decode b_Pa_begin 1 = .ok (.iload_n 1, 1) := by decide +kernel
theorem d_Pa_begin_2 : decode b_Pa_begin 2 = .ok (.putfield 9, 3) := by decide +kernel
theorem d_Pa_begin_5 : decode b_Pa_begin 5 = .ok (.aload_n 0, 1) := by decide +kernel
theorem d_Pa_begin_6 : decode b_Pa_begin 6 = .ok (.iload_n 2, 1) := by decide +kernel
theorem d_Pa_begin_7 : decode b_Pa_begin 7 = .ok (.putfield 15, 3) := by decide +kernel
theorem d_Pa_begin_10 : decode b_Pa_begin 10 = .ok (.aload_n 0, 1) := by decide +kernel
theorem d_Pa_begin_11 : decode b_Pa_begin 11 = .ok (.iconst 0, 1) := by decide +kernel
theorem d_Pa_begin_12 : decode b_Pa_begin 12 = .ok (.putfield 18, 3) := by decide +kernel
theorem d_Pa_begin_15 : decode b_Pa_begin 15 = .ok (.aload_n 0, 1) := by decide +kernel
theorem d_Pa_begin_16 : decode b_Pa_begin 16 = .ok (.iconst 0, 1) := by decide +kernel
theorem d_Pa_begin_17 : decode b_Pa_begin 17 = .ok (.putfield 21, 3) := by decide +kernel
theorem d_Pa_begin_20 : decode b_Pa_begin 20 = .ok (.aload_n 0, 1) := by decide +kernel
theorem d_Pa_begin_21 : decode b_Pa_begin 21 = .ok (.iconst 0, 1) := by decide +kernel
theorem d_Pa_begin_22 : decode b_Pa_begin 22 = .ok (.putfield 24, 3) := by decide +kernel
theorem d_Pa_begin_25 : decode b_Pa_begin 25 = .ok (.aload_n 0, 1) := by decide +kernel
theorem d_Pa_begin_26 : decode b_Pa_begin 26 = .ok (.iconst 0, 1) := by decide +kernel
theorem d_Pa_begin_27 : decode b_Pa_begin 27 = .ok (.putfield 27, 3) := by decide +kernel
theorem d_Pa_begin_30 : decode b_Pa_begin 30 = .ok (.aload_n 0, 1) := by decide +kernel
theorem d_Pa_begin_31 : decode b_Pa_begin 31 = .ok (.iconst 0, 1) := by decide +kernel
theorem d_Pa_begin_32 : decode b_Pa_begin 32 = .ok (.putfield 30, 3) := by decide +kernel
theorem d_Pa_begin_35 : decode b_Pa_begin 35 = .ok (.aload_n 0, 1) := by decide +kernel
theorem d_Pa_begin_36 : decode b_Pa_begin 36 = .ok (.iconst 0, 1) := by decide +kernel
theorem d_Pa_begin_37 : decode b_Pa_begin 37 = .ok (.putfield 33, 3) := by decide +kernel
theorem d_Pa_begin_40 : decode b_Pa_begin 40 = .ok (.aload_n 0, 1) := by decide +kernel
theorem d_Pa_begin_41 : decode b_Pa_begin 41 = .ok (.iconst 0, 1) := by decide +kernel
theorem d_Pa_begin_42 : decode b_Pa_begin 42 = .ok (.putfield 36, 3) := by decide +kernel
theorem d_Pa_begin_45 : decode b_Pa_begin 45 = .ok (.aload_n 0, 1) := by decide +kernel
theorem d_Pa_begin_46 : decode b_Pa_begin 46 = .ok (.iconst 0, 1) := by decide +kernel
theorem d_Pa_begin_47 : decode b_Pa_begin 47 = .ok (.putfield 40, 3) := by decide +kernel
theorem d_Pa_begin_50 : decode b_Pa_begin 50 = .ok (.aload_n 0, 1) := by decide +kernel
theorem d_Pa_begin_51 : decode b_Pa_begin 51 = .ok (.iconst 0, 1) := by decide +kernel
theorem d_Pa_begin_52 : decode b_Pa_begin 52 = .ok (.putfield 43, 3) := by decide +kernel
theorem d_Pa_begin_55 : decode b_Pa_begin 55 = .ok (.aload_n 0, 1) := by decide +kernel
theorem d_Pa_begin_56 : decode b_Pa_begin 56 = .ok (.iconst 0, 1) := by decide +kernel
theorem d_Pa_begin_57 : decode b_Pa_begin 57 = .ok (.putfield 46, 3) := by decide +kernel
theorem d_Pa_begin_60 : decode b_Pa_begin 60 = .ok (.return_, 1) := by decide +kernel
theorem d_Ro_init_0 : decode b_Ro_init 0 = .ok (.aload_n 0, 1) := by decide +kernel
theorem d_Ro_init_1 : decode b_Ro_init 1 = .ok (.invokespecial 1, 3) := by decide +kernel
theorem d_Ro_init_4 : decode b_Ro_init 4 = .ok (.return_, 1) := by decide +kernel
