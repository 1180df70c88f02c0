/-! instructions, by program -/
theorem d_Mo_init_0 : decode b_Mo_init 0 = .ok (.aload_n 0, 1) := by decide +kernel
theorem d_Mo_init_1 : decode b_Mo_init 1 = .ok (.invokespecial 1, 3) := by decide +kernel
theorem d_Mo_init_4 : decode b_Mo_init 4 = .ok (.aload_n 0, 1) := by decide +kernel
theorem d_Mo_init_5 : decode b_Mo_init 5 = .ok (.sipush 512, 3) := by decide +kernel
theorem d_Mo_init_8 : decode b_Mo_init 8 = .ok (.newarray .int, 2) := by decide +kernel
theorem d_Mo_init_10 : decode b_Mo_init 10 = .ok (.putfield 7, 3) := by decide +kernel
theorem d_Mo_init_13 : decode b_Mo_init 13 = .ok (.aload_n 0, 1) := by decide +kernel
theorem d_Mo_init_14 : decode b_Mo_init 14 = .ok (.sipush 512, 3) := by decide +kernel
theorem d_Mo_init_17 : decode b_Mo_init 17 = .ok (.newarray .int, 2) := by decide +kernel
theorem d_Mo_init_19 : decode b_Mo_init 19 = .ok (.putfield 13, 3) := by decide +kernel
theorem d_Mo_init_22 : decode b_Mo_init 22 = .ok (.aload_n 0, 1) := by decide +kernel
theorem d_Mo_init_23 : decode b_Mo_init 23 = .ok (.sipush 512, 3) := by decide +kernel
theorem d_Mo_init_26 : decode b_Mo_init 26 = .ok (.newarray .int, 2) := by decide +kernel
theorem d_Mo_init_28 : decode b_Mo_init 28 = .ok (.putfield 16, 3) := by decide +kernel
theorem d_Mo_init_31 : decode b_Mo_init 31 = .ok (.aload_n 0, 1) := by decide +kernel
theorem d_Mo_init_32 : decode b_Mo_init 32 = .ok (.sipush 512, 3) := by decide +kernel
theorem d_Mo_init_35 : decode b_Mo_init 35 = .ok (.newarray .int, 2) := by decide +kernel
theorem d_Mo_init_37 : decode b_Mo_init 37 = .ok (.putfield 19, 3) := by decide +kernel
theorem d_Mo_init_40 : decode b_Mo_init 40 = .ok (.aload_n 0, 1) := by decide +kernel
theorem d_Mo_init_41 : decode b_Mo_init 41 = .ok (.sipush 512, 3) := by decide +kernel
theorem d_Mo_init_44 : decode b_Mo_init 44 = .ok (.newarray .boolean, 2) := by decide +kernel
theorem d_Mo_init_46 : decode b_Mo_init 46 = .ok (.putfield 22, 3) := by decide +kernel
theorem d_Mo_init_49 : decode b_Mo_init 49 = .ok (.aload_n 0, 1) := by decide +kernel
theorem d_Mo_init_50 : decode b_Mo_init 50 = .ok (.sipush 512, 3) := by decide +kernel
theorem d_Mo_init_53 : decode b_Mo_init 53 = .ok (.newarray .int, 2) := by decide +kernel
theorem d_Mo_init_55 : decode b_Mo_init 55 = .ok (.putfield 26, 3) := by decide +kernel
theorem d_Mo_init_58 : decode b_Mo_init 58 = .ok (.aload_n 0, 1) := by decide +kernel
theorem d_Mo_init_59 : decode b_Mo_init 59 = .ok (.sipush 512, 3) := by decide +kernel
theorem d_Mo_init_62 : decode b_Mo_init 62 = .ok (.newarray .int, 2) := by decide +kernel
theorem d_Mo_init_64 : decode b_Mo_init 64 = .ok (.putfield 29, 3) := by decide +kernel
theorem d_Mo_init_67 : decode b_Mo_init 67 = .ok (.aload_n 0, 1) := by decide +kernel
theorem d_Mo_init_68 : decode b_Mo_init 68 = .ok (.sipush 512, 3) := by decide +kernel
theorem d_Mo_init_71 : decode b_Mo_init 71 = .ok (.newarray .int, 2) := by decide +kernel
theorem d_Mo_init_73 : decode b_Mo_init 73 = .ok (.putfield 32, 3) := by decide +kernel
theorem d_Mo_init_76 : decode b_Mo_init 76 = .ok (.aload_n 0, 1) := by decide +kernel
theorem d_Mo_init_77 : decode b_Mo_init 77 = .ok (.sipush 512, 3) := by decide +kernel
theorem d_Mo_init_80 : decode b_Mo_init 80 = .ok (.newarray .int, 2) := by decide +kernel
theorem d_Mo_init_82 : decode b_Mo_init 82 = .ok (.putfield 35, 3) := by decide +kernel
theorem d_Mo_init_85 : decode b_Mo_init 85 = .ok (.return_, 1) := by decide +kernel
theorem d_Mo_note_0 : decode b_Mo_note 0 = .ok (.aload_n 0, 1) := by decide +kernel
theorem d_Mo_note_1 : decode b_Mo_note 1 = .ok (.getfield 7, 3) := by decide +kernel
theorem d_Mo_note_4 : decode b_Mo_note 4 = .ok (.aload_n 0, 1) := by decide +kernel
theorem d_Mo_note_5 : decode b_Mo_note 5 = .ok (.getfield 38, 3) := by decide +kernel
theorem d_Mo_note_8 : decode b_Mo_note 8 = .ok (.iload_n 1, 1) := by decide +kernel
theorem d_Mo_note_9 : decode b_Mo_note 9 = .ok (.iastore, 1) := by decide +kernel
theorem d_Mo_note_10 : decode b_Mo_note 10 = .ok (.aload_n 0, 1) := by decide +kernel
theorem d_Mo_note_11 : decode b_Mo_note 11 = .ok (.getfield 13, 3) := by decide +kernel
theorem d_Mo_note_14 : decode b_Mo_note 14 = .ok (.aload_n 0, 1) := by decide +kernel
theorem d_Mo_note_15 : decode b_Mo_note 15 = .ok (.getfield 38, 3) := by decide +kernel
theorem d_Mo_note_18 : decode b_Mo_note 18 = .ok (.iload_n 2, 1) := by decide +kernel
theorem d_Mo_note_19 : decode b_Mo_note 19 = .ok (.iastore, 1) := by decide +kernel
theorem d_Mo_note_20 : decode b_Mo_note 20 = .ok (.aload_n 0, 1) := by decide +kernel
theorem d_Mo_note_21 : decode b_Mo_note 21 = .ok (.getfield 16, 3) := by decide +kernel
theorem d_Mo_note_24 : decode b_Mo_note 24 = .ok (.aload_n 0, 1) := by decide +kernel
theorem d_Mo_note_25 : decode b_Mo_note 25 = .ok (.getfield 38, 3) := by decide +kernel
theorem d_Mo_note_28 : decode b_Mo_note 28 = .ok (.iload_n 3, 1) := by decide +kernel
theorem d_Mo_note_29 : decode b_Mo_note 29 = .ok (.iastore, 1) := by decide +kernel
theorem d_Mo_note_30 : decode b_Mo_note 30 = .ok (.aload_n 0, 1) := by decide +kernel
theorem d_Mo_note_31 : decode b_Mo_note 31 = .ok (.getfield 19, 3) := by decide +kernel
theorem d_Mo_note_34 : decode b_Mo_note 34 = .ok (.aload_n 0, 1) := by decide +kernel
theorem d_Mo_note_35 : decode b_Mo_note 35 = .ok (.getfield 38, 3) := by decide +kernel
theorem d_Mo_note_38 : decode b_Mo_note 38 = .ok (.iload 4, 2) := by decide +kernel
theorem d_Mo_note_40 : decode b_Mo_note 40 = .ok (.iastore, 1) := by decide +kernel
theorem d_Mo_note_41 : decode b_Mo_note 41 = .ok (.aload_n 0, 1) := by decide +kernel
theorem d_Mo_note_42 : decode b_Mo_note 42 = .ok (.getfield 26, 3) := by decide +kernel
theorem d_Mo_note_45 : decode b_Mo_note 45 = .ok (.aload_n 0, 1) := by decide +kernel
theorem d_Mo_note_46 : decode b_Mo_note 46 = .ok (.getfield 38, 3) := by decide +kernel
theorem d_Mo_note_49 : decode b_Mo_note 49 = .ok (.aload_n 0, 1) := by decide +kernel
theorem d_Mo_note_50 : decode b_Mo_note 50 = .ok (.getfield 42, 3) := by decide +kernel
theorem d_Mo_note_53 : decode b_Mo_note 53 = .ok (.iastore, 1) := by decide +kernel
theorem d_Mo_note_54 : decode b_Mo_note 54 = .ok (.aload_n 0, 1) := by decide +kernel
theorem d_Mo_note_55 : decode b_Mo_note 55 = .ok (.dup, 1) := by decide +kernel
theorem d_Mo_note_56 : decode b_Mo_note 56 = .ok (.getfield 38, 3) := by decide +kernel
theorem d_Mo_note_59 : decode b_Mo_note 59 = .ok (.iconst 1, 1) := by decide +kernel
theorem d_Mo_note_60 : decode b_Mo_note 60 = .ok (.iadd, 1) := by decide +kernel
theorem d_Mo_note_61 : decode b_Mo_note 61 = .ok (.putfield 38, 3) := by decide +kernel
theorem d_Mo_note_64 : decode b_Mo_note 64 = .ok (.aload_n 0, 1) := by decide +kernel
theorem d_Mo_note_65 : decode b_Mo_note 65 = .ok (.aload_n 0, 1) := by decide +kernel
theorem d_Mo_note_66 : decode b_Mo_note 66 = .ok (.getfield 45, 3) := by decide +kernel
theorem d_Mo_note_69 : decode b_Mo_note 69 = .ok (.bipush 16, 2) := by decide +kernel
theorem d_Mo_note_71 : decode b_Mo_note 71 = .ok (.if_icmp .ne 7, 3) := by decide +kernel
theorem d_Mo_note_74 : decode b_Mo_note 74 = .ok (.iconst 1, 1) := by decide +kernel
theorem d_Mo_note_75 : decode b_Mo_note 75 = .ok (.goto 9, 3) := by decide +kernel
theorem d_Mo_note_78 : decode b_Mo_note 78 = .ok (.aload_n 0, 1) := by decide +kernel
theorem d_Mo_note_79 : decode b_Mo_note 79 = .ok (.getfield 45, 3) := by decide +kernel
theorem d_Mo_note_82 : decode b_Mo_note 82 = .ok (.iconst 1, 1) := by decide +kernel
theorem d_Mo_note_83 : decode b_Mo_note 83 = .ok (.iadd, 1) := by decide +kernel
theorem d_Mo_note_84 : decode b_Mo_note 84 = .ok (.putfield 45, 3) := by decide +kernel
theorem d_Mo_note_87 : decode b_Mo_note 87 = .ok (.return_, 1) := by decide +kernel
theorem d_Mo_wrongKey_0 : decode b_Mo_wrongKey 0 = .ok (.iload_n 0, 1) := by decide +kernel
theorem d_Mo_wrongKey_1 : decode b_Mo_wrongKey 1 = .ok (.ifCond .lt 20, 3) := by decide +kernel
theorem d_Mo_wrongKey_4 : decode b_Mo_wrongKey 4 = .ok (.iload_n 0, 1) := by decide +kernel
theorem d_Mo_wrongKey_5 : decode b_Mo_wrongKey 5 = .ok (.iconst 3, 1) := by decide +kernel
theorem d_Mo_wrongKey_6 : decode b_Mo_wrongKey 6 = .ok (.if_icmp .gt 15, 3) := by decide +kernel
theorem d_Mo_wrongKey_9 : decode b_Mo_wrongKey 9 = .ok (.iload_n 1, 1) := by decide +kernel
theorem d_Mo_wrongKey_10 : decode b_Mo_wrongKey 10 = .ok (.iconst 1, 1) := by decide +kernel
theorem d_Mo_wrongKey_11 : decode b_Mo_wrongKey 11 = .ok (.if_icmp .lt 10, 3) := by decide +kernel
theorem d_Mo_wrongKey_14 : decode b_Mo_wrongKey 14 = .ok (.iload_n 1, 1) := by decide +kernel
theorem d_Mo_wrongKey_15 : decode b_Mo_wrongKey 15 = .ok (.sipush 9999, 3) := by decide +kernel
theorem d_Mo_wrongKey_18 : decode b_Mo_wrongKey 18 = .ok (.if_icmp .le 7, 3) := by decide +kernel
theorem d_Mo_wrongKey_21 : decode b_Mo_wrongKey 21 = .ok (.iconst 1, 1) := by decide +kernel
theorem d_Mo_wrongKey_22 : decode b_Mo_wrongKey 22 = .ok (.goto 4, 3) := by decide +kernel
theorem d_Mo_wrongKey_25 : decode b_Mo_wrongKey 25 = .ok (.iconst 0, 1) := by decide +kernel
theorem d_Mo_wrongKey_26 : decode b_Mo_wrongKey 26 = .ok (.ireturn, 1) := by decide +kernel
theorem d_Mo_sound_0 : decode b_Mo_sound 0 = .ok (.iload_n 0, 1) := by decide +kernel
theorem d_Mo_sound_1 : decode b_Mo_sound 1 = .ok (.ldc 48, 2) := by decide +kernel
theorem d_Mo_sound_3 : decode b_Mo_sound 3 = .ok (.if_icmp .lt 9, 3) := by decide +kernel
theorem d_Mo_sound_6 : decode b_Mo_sound 6 = .ok (.iload_n 0, 1) := by decide +kernel
theorem d_Mo_sound_7 : decode b_Mo_sound 7 = .ok (.ldc 49, 2) := by decide +kernel
theorem d_Mo_sound_9 : decode b_Mo_sound 9 = .ok (.if_icmp .le 5, 3) := by decide +kernel
theorem d_Mo_sound_12 : decode b_Mo_sound 12 = .ok (.iconst 0, 1) := by decide +kernel
theorem d_Mo_sound_13 : decode b_Mo_sound 13 = .ok (.ireturn, 1) := by decide +kernel
theorem d_Mo_sound_14 : decode b_Mo_sound 14 = .ok (.iconst 0, 1) := by decide +kernel
theorem d_Mo_sound_15 : decode b_Mo_sound 15 = .ok (.istore_n 1, 1) := by decide +kernel
theorem d_Mo_sound_16 : decode b_Mo_sound 16 = .ok (.iload_n 0, 1) := by decide +kernel
theorem d_Mo_sound_17 : decode b_Mo_sound 17 = .ok (.istore_n 2, 1) := by decide +kernel
theorem d_Mo_sound_18 : decode b_Mo_sound 18 = .ok (.bipush 8, 2) := by decide +kernel
theorem d_Mo_sound_20 : decode b_Mo_sound 20 = .ok (.istore_n 3, 1) := by decide +kernel
theorem d_Mo_sound_21 : decode b_Mo_sound 21 = .ok (.iload_n 3, 1) := by decide +kernel
theorem d_Mo_sound_22 : decode b_Mo_sound 22 = .ok (.iconst 1, 1) := by decide +kernel
theorem d_Mo_sound_23 : decode b_Mo_sound 23 = .ok (.if_icmp .lt 61, 3) := by decide +kernel
theorem d_Mo_sound_26 : decode b_Mo_sound 26 = .ok (.iload_n 2, 1) := by decide +kernel
theorem d_Mo_sound_27 : decode b_Mo_sound 27 = .ok (.bipush 10, 2) := by decide +kernel
theorem d_Mo_sound_29 : decode b_Mo_sound 29 = .ok (.irem, 1) := by decide +kernel
theorem d_Mo_sound_30 : decode b_Mo_sound 30 = .ok (.istore 4, 2) := by decide +kernel
theorem d_Mo_sound_32 : decode b_Mo_sound 32 = .ok (.iload_n 2, 1) := by decide +kernel
theorem d_Mo_sound_33 : decode b_Mo_sound 33 = .ok (.bipush 10, 2) := by decide +kernel
theorem d_Mo_sound_35 : decode b_Mo_sound 35 = .ok (.idiv, 1) := by decide +kernel
theorem d_Mo_sound_36 : decode b_Mo_sound 36 = .ok (.istore_n 2, 1) := by decide +kernel
theorem d_Mo_sound_37 : decode b_Mo_sound 37 = .ok (.iconst 2, 1) := by decide +kernel
theorem d_Mo_sound_38 : decode b_Mo_sound 38 = .ok (.iload 4, 2) := by decide +kernel
theorem d_Mo_sound_40 : decode b_Mo_sound 40 = .ok (.imul, 1) := by decide +kernel
theorem d_Mo_sound_41 : decode b_Mo_sound 41 = .ok (.bipush 9, 2) := by decide +kernel
theorem d_Mo_sound_43 : decode b_Mo_sound 43 = .ok (.if_icmp .le 13, 3) := by decide +kernel
theorem d_Mo_sound_46 : decode b_Mo_sound 46 = .ok (.iconst 2, 1) := by decide +kernel
theorem d_Mo_sound_47 : decode b_Mo_sound 47 = .ok (.iload 4, 2) := by decide +kernel
theorem d_Mo_sound_49 : decode b_Mo_sound 49 = .ok (.imul, 1) := by decide +kernel
theorem d_Mo_sound_50 : decode b_Mo_sound 50 = .ok (.bipush 9, 2) := by decide +kernel
theorem d_Mo_sound_52 : decode b_Mo_sound 52 = .ok (.isub, 1) := by decide +kernel
theorem d_Mo_sound_53 : decode b_Mo_sound 53 = .ok (.goto 7, 3) := by decide +kernel
theorem d_Mo_sound_56 : decode b_Mo_sound 56 = .ok (.iconst 2, 1) := by decide +kernel
theorem d_Mo_sound_57 : decode b_Mo_sound 57 = .ok (.iload 4, 2) := by decide +kernel
theorem d_Mo_sound_59 : decode b_Mo_sound 59 = .ok (.imul, 1) := by decide +kernel
theorem d_Mo_sound_60 : decode b_Mo_sound 60 = .ok (.istore 5, 2) := by decide +kernel
theorem d_Mo_sound_62 : decode b_Mo_sound 62 = .ok (.iload_n 1, 1) := by decide +kernel
theorem d_Mo_sound_63 : decode b_Mo_sound 63 = .ok (.iload_n 3, 1) := by decide +kernel
theorem d_Mo_sound_64 : decode b_Mo_sound 64 = .ok (.iconst 2, 1) := by decide +kernel
theorem d_Mo_sound_65 : decode b_Mo_sound 65 = .ok (.irem, 1) := by decide +kernel
theorem d_Mo_sound_66 : decode b_Mo_sound 66 = .ok (.ifCond .ne 8, 3) := by decide +kernel
theorem d_Mo_sound_69 : decode b_Mo_sound 69 = .ok (.iload 4, 2) := by decide +kernel
theorem d_Mo_sound_71 : decode b_Mo_sound 71 = .ok (.goto 5, 3) := by decide +kernel
theorem d_Mo_sound_74 : decode b_Mo_sound 74 = .ok (.iload 5, 2) := by decide +kernel
theorem d_Mo_sound_76 : decode b_Mo_sound 76 = .ok (.iadd, 1) := by decide +kernel
theorem d_Mo_sound_77 : decode b_Mo_sound 77 = .ok (.istore_n 1, 1) := by decide +kernel
theorem d_Mo_sound_78 : decode b_Mo_sound 78 = .ok (.iinc 3 (-1), 3) := by decide +kernel
theorem d_Mo_sound_81 : decode b_Mo_sound 81 = .ok (.goto (-60), 3) := by decide +kernel
theorem d_Mo_sound_84 : decode b_Mo_sound 84 = .ok (.iload_n 1, 1) := by decide +kernel
theorem d_Mo_sound_85 : decode b_Mo_sound 85 = .ok (.bipush 10, 2) := by decide +kernel
theorem d_Mo_sound_87 : decode b_Mo_sound 87 = .ok (.irem, 1) := by decide +kernel
theorem d_Mo_sound_88 : decode b_Mo_sound 88 = .ok (.ifCond .ne 7, 3) := by decide +kernel
theorem d_Mo_sound_91 : decode b_Mo_sound 91 = .ok (.iconst 1, 1) := by decide +kernel
theorem d_Mo_sound_92 : decode b_Mo_sound 92 = .ok (.goto 4, 3) := by decide +kernel
theorem d_Mo_sound_95 : decode b_Mo_sound 95 = .ok (.iconst 0, 1) := by decide +kernel
theorem d_Mo_sound_96 : decode b_Mo_sound 96 = .ok (.ireturn, 1) := by decide +kernel
theorem d_Mo_look_0 : decode b_Mo_look 0 = .ok (.aload_n 0, 1) := by decide +kernel
theorem d_Mo_look_1 : decode b_Mo_look 1 = .ok (.iconst 0, 1) := by decide +kernel
theorem d_Mo_look_2 : decode b_Mo_look 2 = .ok (.putfield 50, 3) := by decide +kernel
theorem d_Mo_look_5 : decode b_Mo_look 5 = .ok (.aload_n 0, 1) := by decide +kernel
theorem d_Mo_look_6 : decode b_Mo_look 6 = .ok (.iconst 0, 1) := by decide +kernel
theorem d_Mo_look_7 : decode b_Mo_look 7 = .ok (.putfield 53, 3) := by decide +kernel
theorem d_Mo_look_10 : decode b_Mo_look 10 = .ok (.aload_n 0, 1) := by decide +kernel
theorem d_Mo_look_11 : decode b_Mo_look 11 = .ok (.iconst 0, 1) := by decide +kernel
theorem d_Mo_look_12 : decode b_Mo_look 12 = .ok (.putfield 56, 3) := by decide +kernel
theorem d_Mo_look_15 : decode b_Mo_look 15 = .ok (.aload_n 0, 1) := by decide +kernel
theorem d_Mo_look_16 : decode b_Mo_look 16 = .ok (.iconst (-1), 1) := by decide +kernel
theorem d_Mo_look_17 : decode b_Mo_look 17 = .ok (.putfield 59, 3) := by decide +kernel
theorem d_Mo_look_20 : decode b_Mo_look 20 = .ok (.iconst 0, 1) := by decide +kernel
theorem d_Mo_look_21 : decode b_Mo_look 21 = .ok (.istore_n 2, 1) := by decide +kernel
theorem d_Mo_look_22 : decode b_Mo_look 22 = .ok (.iload_n 2, 1) := by decide +kernel
theorem d_Mo_look_23 : decode b_Mo_look 23 = .ok (.aload_n 0, 1) := by decide +kernel
theorem d_Mo_look_24 : decode b_Mo_look 24 = .ok (.getfield 38, 3) := by decide +kernel
theorem d_Mo_look_27 : decode b_Mo_look 27 = .ok (.if_icmp .ge 45, 3) := by decide +kernel
theorem d_Mo_look_30 : decode b_Mo_look 30 = .ok (.aload_n 0, 1) := by decide +kernel
theorem d_Mo_look_31 : decode b_Mo_look 31 = .ok (.getfield 13, 3) := by decide +kernel
theorem d_Mo_look_34 : decode b_Mo_look 34 = .ok (.iload_n 2, 1) := by decide +kernel
theorem d_Mo_look_35 : decode b_Mo_look 35 = .ok (.iaload, 1) := by decide +kernel
theorem d_Mo_look_36 : decode b_Mo_look 36 = .ok (.iload_n 1, 1) := by decide +kernel
theorem d_Mo_look_37 : decode b_Mo_look 37 = .ok (.if_icmp .ne 29, 3) := by decide +kernel
theorem d_Mo_look_40 : decode b_Mo_look 40 = .ok (.aload_n 0, 1) := by decide +kernel
theorem d_Mo_look_41 : decode b_Mo_look 41 = .ok (.getfield 7, 3) := by decide +kernel
theorem d_Mo_look_44 : decode b_Mo_look 44 = .ok (.iload_n 2, 1) := by decide +kernel
theorem d_Mo_look_45 : decode b_Mo_look 45 = .ok (.iaload, 1) := by decide +kernel
theorem d_Mo_look_46 : decode b_Mo_look 46 = .ok (.iconst 3, 1) := by decide +kernel
theorem d_Mo_look_47 : decode b_Mo_look 47 = .ok (.if_icmp .lt 19, 3) := by decide +kernel
theorem d_Mo_look_50 : decode b_Mo_look 50 = .ok (.aload_n 0, 1) := by decide +kernel
theorem d_Mo_look_51 : decode b_Mo_look 51 = .ok (.getfield 7, 3) := by decide +kernel
theorem d_Mo_look_54 : decode b_Mo_look 54 = .ok (.iload_n 2, 1) := by decide +kernel
theorem d_Mo_look_55 : decode b_Mo_look 55 = .ok (.iaload, 1) := by decide +kernel
theorem d_Mo_look_56 : decode b_Mo_look 56 = .ok (.bipush 8, 2) := by decide +kernel
theorem d_Mo_look_58 : decode b_Mo_look 58 = .ok (.if_icmp .gt 8, 3) := by decide +kernel
theorem d_Mo_look_61 : decode b_Mo_look 61 = .ok (.aload_n 0, 1) := by decide +kernel
theorem d_Mo_look_62 : decode b_Mo_look 62 = .ok (.iload_n 2, 1) := by decide +kernel
theorem d_Mo_look_63 : decode b_Mo_look 63 = .ok (.invokevirtual 62, 3) := by decide +kernel
theorem d_Mo_look_66 : decode b_Mo_look 66 = .ok (.iinc 2 1, 3) := by decide +kernel
theorem d_Mo_look_69 : decode b_Mo_look 69 = .ok (.goto (-47), 3) := by decide +kernel
theorem d_Mo_look_72 : decode b_Mo_look 72 = .ok (.aload_n 0, 1) := by decide +kernel
theorem d_Mo_look_73 : decode b_Mo_look 73 = .ok (.getfield 50, 3) := by decide +kernel
theorem d_Mo_look_76 : decode b_Mo_look 76 = .ok (.iconst 2, 1) := by decide +kernel
theorem d_Mo_look_77 : decode b_Mo_look 77 = .ok (.if_icmp .ne 22, 3) := by decide +kernel
theorem d_Mo_look_80 : decode b_Mo_look 80 = .ok (.aload_n 0, 1) := by decide +kernel
theorem d_Mo_look_81 : decode b_Mo_look 81 = .ok (.getfield 42, 3) := by decide +kernel
theorem d_Mo_look_84 : decode b_Mo_look 84 = .ok (.aload_n 0, 1) := by decide +kernel
theorem d_Mo_look_85 : decode b_Mo_look 85 = .ok (.getfield 56, 3) := by decide +kernel
theorem d_Mo_look_88 : decode b_Mo_look 88 = .ok (.bipush 50, 2) := by decide +kernel
theorem d_Mo_look_90 : decode b_Mo_look 90 = .ok (.iadd, 1) := by decide +kernel
theorem d_Mo_look_91 : decode b_Mo_look 91 = .ok (.if_icmp .lt 8, 3) := by decide +kernel
theorem d_Mo_look_94 : decode b_Mo_look 94 = .ok (.aload_n 0, 1) := by decide +kernel
theorem d_Mo_look_95 : decode b_Mo_look 95 = .ok (.iconst 3, 1) := by decide +kernel
theorem d_Mo_look_96 : decode b_Mo_look 96 = .ok (.putfield 50, 3) := by decide +kernel
theorem d_Mo_look_99 : decode b_Mo_look 99 = .ok (.aload_n 0, 1) := by decide +kernel
theorem d_Mo_look_100 : decode b_Mo_look 100 = .ok (.getfield 50, 3) := by decide +kernel
theorem d_Mo_look_103 : decode b_Mo_look 103 = .ok (.bipush 7, 2) := by decide +kernel
theorem d_Mo_look_105 : decode b_Mo_look 105 = .ok (.if_icmp .ne 23, 3) := by decide +kernel
theorem d_Mo_look_108 : decode b_Mo_look 108 = .ok (.aload_n 0, 1) := by decide +kernel
theorem d_Mo_look_109 : decode b_Mo_look 109 = .ok (.getfield 42, 3) := by decide +kernel
theorem d_Mo_look_112 : decode b_Mo_look 112 = .ok (.aload_n 0, 1) := by decide +kernel
theorem d_Mo_look_113 : decode b_Mo_look 113 = .ok (.getfield 56, 3) := by decide +kernel
theorem d_Mo_look_116 : decode b_Mo_look 116 = .ok (.bipush 30, 2) := by decide +kernel
theorem d_Mo_look_118 : decode b_Mo_look 118 = .ok (.iadd, 1) := by decide +kernel
theorem d_Mo_look_119 : decode b_Mo_look 119 = .ok (.if_icmp .le 9, 3) := by decide +kernel
theorem d_Mo_look_122 : decode b_Mo_look 122 = .ok (.aload_n 0, 1) := by decide +kernel
theorem d_Mo_look_123 : decode b_Mo_look 123 = .ok (.bipush 9, 2) := by decide +kernel
theorem d_Mo_look_125 : decode b_Mo_look 125 = .ok (.putfield 50, 3) := by decide +kernel
theorem d_Mo_look_128 : decode b_Mo_look 128 = .ok (.return_, 1) := by decide +kernel
theorem d_Mo_follow_0 : decode b_Mo_follow 0 = .ok (.aload_n 0, 1) := by decide +kernel
theorem d_Mo_follow_1 : decode b_Mo_follow 1 = .ok (.getfield 7, 3) := by decide +kernel
theorem d_Mo_follow_4 : decode b_Mo_follow 4 = .ok (.iload_n 1, 1) := by decide +kernel
theorem d_Mo_follow_5 : decode b_Mo_follow 5 = .ok (.iaload, 1) := by decide +kernel
theorem d_Mo_follow_6 : decode b_Mo_follow 6 = .ok (.tableswitch 171 3 7 #[34, 81, 89, 123, 152], 34) := by decide +kernel
theorem d_Mo_follow_40 : decode b_Mo_follow 40 = .ok (.aload_n 0, 1) := by decide +kernel
theorem d_Mo_follow_41 : decode b_Mo_follow 41 = .ok (.iload_n 1, 1) := by decide +kernel
theorem d_Mo_follow_42 : decode b_Mo_follow 42 = .ok (.putfield 59, 3) := by decide +kernel
theorem d_Mo_follow_45 : decode b_Mo_follow 45 = .ok (.aload_n 0, 1) := by decide +kernel
theorem d_Mo_follow_46 : decode b_Mo_follow 46 = .ok (.aload_n 0, 1) := by decide +kernel
theorem d_Mo_follow_47 : decode b_Mo_follow 47 = .ok (.getfield 29, 3) := by decide +kernel
theorem d_Mo_follow_50 : decode b_Mo_follow 50 = .ok (.iload_n 1, 1) := by decide +kernel
theorem d_Mo_follow_51 : decode b_Mo_follow 51 = .ok (.iaload, 1) := by decide +kernel
theorem d_Mo_follow_52 : decode b_Mo_follow 52 = .ok (.iconst 1, 1) := by decide +kernel
theorem d_Mo_follow_53 : decode b_Mo_follow 53 = .ok (.if_icmp .lt 7, 3) := by decide +kernel
theorem d_Mo_follow_56 : decode b_Mo_follow 56 = .ok (.iconst 2, 1) := by decide +kernel
theorem d_Mo_follow_57 : decode b_Mo_follow 57 = .ok (.goto 4, 3) := by decide +kernel
theorem d_Mo_follow_60 : decode b_Mo_follow 60 = .ok (.iconst 1, 1) := by decide +kernel
theorem d_Mo_follow_61 : decode b_Mo_follow 61 = .ok (.putfield 50, 3) := by decide +kernel
theorem d_Mo_follow_64 : decode b_Mo_follow 64 = .ok (.aload_n 0, 1) := by decide +kernel
theorem d_Mo_follow_65 : decode b_Mo_follow 65 = .ok (.aload_n 0, 1) := by decide +kernel
theorem d_Mo_follow_66 : decode b_Mo_follow 66 = .ok (.getfield 29, 3) := by decide +kernel
theorem d_Mo_follow_69 : decode b_Mo_follow 69 = .ok (.iload_n 1, 1) := by decide +kernel
theorem d_Mo_follow_70 : decode b_Mo_follow 70 = .ok (.iaload, 1) := by decide +kernel
theorem d_Mo_follow_71 : decode b_Mo_follow 71 = .ok (.putfield 53, 3) := by decide +kernel
theorem d_Mo_follow_74 : decode b_Mo_follow 74 = .ok (.aload_n 0, 1) := by decide +kernel
theorem d_Mo_follow_75 : decode b_Mo_follow 75 = .ok (.aload_n 0, 1) := by decide +kernel
theorem d_Mo_follow_76 : decode b_Mo_follow 76 = .ok (.getfield 26, 3) := by decide +kernel
theorem d_Mo_follow_79 : decode b_Mo_follow 79 = .ok (.iload_n 1, 1) := by decide +kernel
theorem d_Mo_follow_80 : decode b_Mo_follow 80 = .ok (.iaload, 1) := by decide +kernel
theorem d_Mo_follow_81 : decode b_Mo_follow 81 = .ok (.putfield 56, 3) := by decide +kernel
theorem d_Mo_follow_84 : decode b_Mo_follow 84 = .ok (.goto 99, 3) := by decide +kernel
theorem d_Mo_follow_87 : decode b_Mo_follow 87 = .ok (.aload_n 0, 1) := by decide +kernel
theorem d_Mo_follow_88 : decode b_Mo_follow 88 = .ok (.iconst 5, 1) := by decide +kernel
theorem d_Mo_follow_89 : decode b_Mo_follow 89 = .ok (.putfield 50, 3) := by decide +kernel
theorem d_Mo_follow_92 : decode b_Mo_follow 92 = .ok (.goto 91, 3) := by decide +kernel
theorem d_Mo_follow_95 : decode b_Mo_follow 95 = .ok (.aload_n 0, 1) := by decide +kernel
theorem d_Mo_follow_96 : decode b_Mo_follow 96 = .ok (.aload_n 0, 1) := by decide +kernel
theorem d_Mo_follow_97 : decode b_Mo_follow 97 = .ok (.getfield 16, 3) := by decide +kernel
theorem d_Mo_follow_100 : decode b_Mo_follow 100 = .ok (.iload_n 1, 1) := by decide +kernel
theorem d_Mo_follow_101 : decode b_Mo_follow 101 = .ok (.iaload, 1) := by decide +kernel
theorem d_Mo_follow_102 : decode b_Mo_follow 102 = .ok (.ifCond .ne 7, 3) := by decide +kernel
theorem d_Mo_follow_105 : decode b_Mo_follow 105 = .ok (.iconst 4, 1) := by decide +kernel
theorem d_Mo_follow_106 : decode b_Mo_follow 106 = .ok (.goto 7, 3) := by decide +kernel
theorem d_Mo_follow_109 : decode b_Mo_follow 109 = .ok (.aload_n 0, 1) := by decide +kernel
theorem d_Mo_follow_110 : decode b_Mo_follow 110 = .ok (.getfield 50, 3) := by decide +kernel
theorem d_Mo_follow_113 : decode b_Mo_follow 113 = .ok (.putfield 50, 3) := by decide +kernel
theorem d_Mo_follow_116 : decode b_Mo_follow 116 = .ok (.aload_n 0, 1) := by decide +kernel
theorem d_Mo_follow_117 : decode b_Mo_follow 117 = .ok (.aload_n 0, 1) := by decide +kernel
theorem d_Mo_follow_118 : decode b_Mo_follow 118 = .ok (.getfield 16, 3) := by decide +kernel
theorem d_Mo_follow_121 : decode b_Mo_follow 121 = .ok (.iload_n 1, 1) := by decide +kernel
theorem d_Mo_follow_122 : decode b_Mo_follow 122 = .ok (.iaload, 1) := by decide +kernel
theorem d_Mo_follow_123 : decode b_Mo_follow 123 = .ok (.putfield 53, 3) := by decide +kernel
theorem d_Mo_follow_126 : decode b_Mo_follow 126 = .ok (.goto 57, 3) := by decide +kernel
theorem d_Mo_follow_129 : decode b_Mo_follow 129 = .ok (.aload_n 0, 1) := by decide +kernel
theorem d_Mo_follow_130 : decode b_Mo_follow 130 = .ok (.bipush 6, 2) := by decide +kernel
theorem d_Mo_follow_132 : decode b_Mo_follow 132 = .ok (.putfield 50, 3) := by decide +kernel
theorem d_Mo_follow_135 : decode b_Mo_follow 135 = .ok (.aload_n 0, 1) := by decide +kernel
theorem d_Mo_follow_136 : decode b_Mo_follow 136 = .ok (.aload_n 0, 1) := by decide +kernel
theorem d_Mo_follow_137 : decode b_Mo_follow 137 = .ok (.getfield 16, 3) := by decide +kernel
theorem d_Mo_follow_140 : decode b_Mo_follow 140 = .ok (.iload_n 1, 1) := by decide +kernel
theorem d_Mo_follow_141 : decode b_Mo_follow 141 = .ok (.iaload, 1) := by decide +kernel
theorem d_Mo_follow_142 : decode b_Mo_follow 142 = .ok (.putfield 53, 3) := by decide +kernel
theorem d_Mo_follow_145 : decode b_Mo_follow 145 = .ok (.aload_n 0, 1) := by decide +kernel
theorem d_Mo_follow_146 : decode b_Mo_follow 146 = .ok (.aload_n 0, 1) := by decide +kernel
theorem d_Mo_follow_147 : decode b_Mo_follow 147 = .ok (.getfield 26, 3) := by decide +kernel
theorem d_Mo_follow_150 : decode b_Mo_follow 150 = .ok (.iload_n 1, 1) := by decide +kernel
theorem d_Mo_follow_151 : decode b_Mo_follow 151 = .ok (.iaload, 1) := by decide +kernel
theorem d_Mo_follow_152 : decode b_Mo_follow 152 = .ok (.putfield 56, 3) := by decide +kernel
theorem d_Mo_follow_155 : decode b_Mo_follow 155 = .ok (.goto 28, 3) := by decide +kernel
theorem d_Mo_follow_158 : decode b_Mo_follow 158 = .ok (.aload_n 0, 1) := by decide +kernel
theorem d_Mo_follow_159 : decode b_Mo_follow 159 = .ok (.bipush 7, 2) := by decide +kernel
theorem d_Mo_follow_161 : decode b_Mo_follow 161 = .ok (.putfield 50, 3) := by decide +kernel
theorem d_Mo_follow_164 : decode b_Mo_follow 164 = .ok (.aload_n 0, 1) := by decide +kernel
theorem d_Mo_follow_165 : decode b_Mo_follow 165 = .ok (.aload_n 0, 1) := by decide +kernel
theorem d_Mo_follow_166 : decode b_Mo_follow 166 = .ok (.getfield 26, 3) := by decide +kernel
theorem d_Mo_follow_169 : decode b_Mo_follow 169 = .ok (.iload_n 1, 1) := by decide +kernel
theorem d_Mo_follow_170 : decode b_Mo_follow 170 = .ok (.iaload, 1) := by decide +kernel
theorem d_Mo_follow_171 : decode b_Mo_follow 171 = .ok (.putfield 56, 3) := by decide +kernel
theorem d_Mo_follow_174 : decode b_Mo_follow 174 = .ok (.goto 9, 3) := by decide +kernel
theorem d_Mo_follow_177 : decode b_Mo_follow 177 = .ok (.aload_n 0, 1) := by decide +kernel
theorem d_Mo_follow_178 : decode b_Mo_follow 178 = .ok (.bipush 8, 2) := by decide +kernel
theorem d_Mo_follow_180 : decode b_Mo_follow 180 = .ok (.putfield 50, 3) := by decide +kernel
theorem d_Mo_follow_183 : decode b_Mo_follow 183 = .ok (.return_, 1) := by decide +kernel
theorem d_Mo_cardAt_0 : decode b_Mo_cardAt 0 = .ok (.iconst 0, 1) := by decide +kernel
theorem d_Mo_cardAt_1 : decode b_Mo_cardAt 1 = .ok (.istore_n 2, 1) := by decide +kernel
theorem d_Mo_cardAt_2 : decode b_Mo_cardAt 2 = .ok (.iload_n 2, 1) := by decide +kernel
theorem d_Mo_cardAt_3 : decode b_Mo_cardAt 3 = .ok (.aload_n 0, 1) := by decide +kernel
theorem d_Mo_cardAt_4 : decode b_Mo_cardAt 4 = .ok (.getfield 38, 3) := by decide +kernel
theorem d_Mo_cardAt_7 : decode b_Mo_cardAt 7 = .ok (.if_icmp .ge 31, 3) := by decide +kernel
theorem d_Mo_cardAt_10 : decode b_Mo_cardAt 10 = .ok (.aload_n 0, 1) := by decide +kernel
theorem d_Mo_cardAt_11 : decode b_Mo_cardAt 11 = .ok (.getfield 7, 3) := by decide +kernel
theorem d_Mo_cardAt_14 : decode b_Mo_cardAt 14 = .ok (.iload_n 2, 1) := by decide +kernel
theorem d_Mo_cardAt_15 : decode b_Mo_cardAt 15 = .ok (.iaload, 1) := by decide +kernel
theorem d_Mo_cardAt_16 : decode b_Mo_cardAt 16 = .ok (.iconst 2, 1) := by decide +kernel
theorem d_Mo_cardAt_17 : decode b_Mo_cardAt 17 = .ok (.if_icmp .ne 15, 3) := by decide +kernel
theorem d_Mo_cardAt_20 : decode b_Mo_cardAt 20 = .ok (.aload_n 0, 1) := by decide +kernel
theorem d_Mo_cardAt_21 : decode b_Mo_cardAt 21 = .ok (.getfield 13, 3) := by decide +kernel
theorem d_Mo_cardAt_24 : decode b_Mo_cardAt 24 = .ok (.iload_n 2, 1) := by decide +kernel
theorem d_Mo_cardAt_25 : decode b_Mo_cardAt 25 = .ok (.iaload, 1) := by decide +kernel
theorem d_Mo_cardAt_26 : decode b_Mo_cardAt 26 = .ok (.iload_n 1, 1) := by decide +kernel
theorem d_Mo_cardAt_27 : decode b_Mo_cardAt 27 = .ok (.if_icmp .ne 5, 3) := by decide +kernel
theorem d_Mo_cardAt_30 : decode b_Mo_cardAt 30 = .ok (.iload_n 2, 1) := by decide +kernel
theorem d_Mo_cardAt_31 : decode b_Mo_cardAt 31 = .ok (.ireturn, 1) := by decide +kernel
theorem d_Mo_cardAt_32 : decode b_Mo_cardAt 32 = .ok (.iinc 2 1, 3) := by decide +kernel
theorem d_Mo_cardAt_35 : decode b_Mo_cardAt 35 = .ok (.goto (-33), 3) := by decide +kernel
theorem d_Mo_cardAt_38 : decode b_Mo_cardAt 38 = .ok (.iconst (-1), 1) := by decide +kernel
theorem d_Mo_cardAt_39 : decode b_Mo_cardAt 39 = .ok (.ireturn, 1) := by decide +kernel
theorem d_Mo_routeOf_0 : decode b_Mo_routeOf 0 = .ok (.iconst (-1), 1) := by decide +kernel
theorem d_Mo_routeOf_1 : decode b_Mo_routeOf 1 = .ok (.istore_n 2, 1) := by decide +kernel
theorem d_Mo_routeOf_2 : decode b_Mo_routeOf 2 = .ok (.iconst 0, 1) := by decide +kernel
theorem d_Mo_routeOf_3 : decode b_Mo_routeOf 3 = .ok (.istore_n 3, 1) := by decide +kernel
theorem d_Mo_routeOf_4 : decode b_Mo_routeOf 4 = .ok (.iconst 0, 1) := by decide +kernel
theorem d_Mo_routeOf_5 : decode b_Mo_routeOf 5 = .ok (.istore 4, 2) := by decide +kernel
theorem d_Mo_routeOf_7 : decode b_Mo_routeOf 7 = .ok (.iload 4, 2) := by decide +kernel
theorem d_Mo_routeOf_9 : decode b_Mo_routeOf 9 = .ok (.aload_n 0, 1) := by decide +kernel
theorem d_Mo_routeOf_10 : decode b_Mo_routeOf 10 = .ok (.getfield 38, 3) := by decide +kernel
theorem d_Mo_routeOf_13 : decode b_Mo_routeOf 13 = .ok (.if_icmp .ge 123, 3) := by decide +kernel
theorem d_Mo_routeOf_16 : decode b_Mo_routeOf 16 = .ok (.aload_n 0, 1) := by decide +kernel
theorem d_Mo_routeOf_17 : decode b_Mo_routeOf 17 = .ok (.getfield 13, 3) := by decide +kernel
theorem d_Mo_routeOf_20 : decode b_Mo_routeOf 20 = .ok (.iload 4, 2) := by decide +kernel
theorem d_Mo_routeOf_22 : decode b_Mo_routeOf 22 = .ok (.iaload, 1) := by decide +kernel
theorem d_Mo_routeOf_23 : decode b_Mo_routeOf 23 = .ok (.sipush 999, 3) := by decide +kernel
theorem d_Mo_routeOf_26 : decode b_Mo_routeOf 26 = .ok (.if_icmp .le 7, 3) := by decide +kernel
theorem d_Mo_routeOf_29 : decode b_Mo_routeOf 29 = .ok (.iconst 4, 1) := by decide +kernel
theorem d_Mo_routeOf_30 : decode b_Mo_routeOf 30 = .ok (.goto 36, 3) := by decide +kernel
theorem d_Mo_routeOf_33 : decode b_Mo_routeOf 33 = .ok (.aload_n 0, 1) := by decide +kernel
theorem d_Mo_routeOf_34 : decode b_Mo_routeOf 34 = .ok (.getfield 13, 3) := by decide +kernel
theorem d_Mo_routeOf_37 : decode b_Mo_routeOf 37 = .ok (.iload 4, 2) := by decide +kernel
theorem d_Mo_routeOf_39 : decode b_Mo_routeOf 39 = .ok (.iaload, 1) := by decide +kernel
theorem d_Mo_routeOf_40 : decode b_Mo_routeOf 40 = .ok (.bipush 99, 2) := by decide +kernel
theorem d_Mo_routeOf_42 : decode b_Mo_routeOf 42 = .ok (.if_icmp .le 7, 3) := by decide +kernel
theorem d_Mo_routeOf_45 : decode b_Mo_routeOf 45 = .ok (.iconst 3, 1) := by decide +kernel
theorem d_Mo_routeOf_46 : decode b_Mo_routeOf 46 = .ok (.goto 20, 3) := by decide +kernel
theorem d_Mo_routeOf_49 : decode b_Mo_routeOf 49 = .ok (.aload_n 0, 1) := by decide +kernel
theorem d_Mo_routeOf_50 : decode b_Mo_routeOf 50 = .ok (.getfield 13, 3) := by decide +kernel
theorem d_Mo_routeOf_53 : decode b_Mo_routeOf 53 = .ok (.iload 4, 2) := by decide +kernel
theorem d_Mo_routeOf_55 : decode b_Mo_routeOf 55 = .ok (.iaload, 1) := by decide +kernel
theorem d_Mo_routeOf_56 : decode b_Mo_routeOf 56 = .ok (.bipush 9, 2) := by decide +kernel
theorem d_Mo_routeOf_58 : decode b_Mo_routeOf 58 = .ok (.if_icmp .le 7, 3) := by decide +kernel
theorem d_Mo_routeOf_61 : decode b_Mo_routeOf 61 = .ok (.iconst 2, 1) := by decide +kernel
theorem d_Mo_routeOf_62 : decode b_Mo_routeOf 62 = .ok (.goto 4, 3) := by decide +kernel
theorem d_Mo_routeOf_65 : decode b_Mo_routeOf 65 = .ok (.iconst 1, 1) := by decide +kernel
theorem d_Mo_routeOf_66 : decode b_Mo_routeOf 66 = .ok (.istore 5, 2) := by decide +kernel
theorem d_Mo_routeOf_68 : decode b_Mo_routeOf 68 = .ok (.iload_n 1, 1) := by decide +kernel
theorem d_Mo_routeOf_69 : decode b_Mo_routeOf 69 = .ok (.istore 6, 2) := by decide +kernel
theorem d_Mo_routeOf_71 : decode b_Mo_routeOf 71 = .ok (.iload 5, 2) := by decide +kernel
theorem d_Mo_routeOf_73 : decode b_Mo_routeOf 73 = .ok (.istore 7, 2) := by decide +kernel
theorem d_Mo_routeOf_75 : decode b_Mo_routeOf 75 = .ok (.iload 7, 2) := by decide +kernel
theorem d_Mo_routeOf_77 : decode b_Mo_routeOf 77 = .ok (.bipush 8, 2) := by decide +kernel
theorem d_Mo_routeOf_79 : decode b_Mo_routeOf 79 = .ok (.if_icmp .ge 16, 3) := by decide +kernel
theorem d_Mo_routeOf_82 : decode b_Mo_routeOf 82 = .ok (.iload 6, 2) := by decide +kernel
theorem d_Mo_routeOf_84 : decode b_Mo_routeOf 84 = .ok (.bipush 10, 2) := by decide +kernel
theorem d_Mo_routeOf_86 : decode b_Mo_routeOf 86 = .ok (.idiv, 1) := by decide +kernel
theorem d_Mo_routeOf_87 : decode b_Mo_routeOf 87 = .ok (.istore 6, 2) := by decide +kernel
theorem d_Mo_routeOf_89 : decode b_Mo_routeOf 89 = .ok (.iinc 7 1, 3) := by decide +kernel
theorem d_Mo_routeOf_92 : decode b_Mo_routeOf 92 = .ok (.goto (-17), 3) := by decide +kernel
theorem d_Mo_routeOf_95 : decode b_Mo_routeOf 95 = .ok (.aload_n 0, 1) := by decide +kernel
theorem d_Mo_routeOf_96 : decode b_Mo_routeOf 96 = .ok (.getfield 7, 3) := by decide +kernel
theorem d_Mo_routeOf_99 : decode b_Mo_routeOf 99 = .ok (.iload 4, 2) := by decide +kernel
theorem d_Mo_routeOf_101 : decode b_Mo_routeOf 101 = .ok (.iaload, 1) := by decide +kernel
theorem d_Mo_routeOf_102 : decode b_Mo_routeOf 102 = .ok (.iconst 1, 1) := by decide +kernel
theorem d_Mo_routeOf_103 : decode b_Mo_routeOf 103 = .ok (.if_icmp .ne 27, 3) := by decide +kernel
theorem d_Mo_routeOf_106 : decode b_Mo_routeOf 106 = .ok (.iload 6, 2) := by decide +kernel
theorem d_Mo_routeOf_108 : decode b_Mo_routeOf 108 = .ok (.aload_n 0, 1) := by decide +kernel
theorem d_Mo_routeOf_109 : decode b_Mo_routeOf 109 = .ok (.getfield 13, 3) := by decide +kernel
theorem d_Mo_routeOf_112 : decode b_Mo_routeOf 112 = .ok (.iload 4, 2) := by decide +kernel
theorem d_Mo_routeOf_114 : decode b_Mo_routeOf 114 = .ok (.iaload, 1) := by decide +kernel
theorem d_Mo_routeOf_115 : decode b_Mo_routeOf 115 = .ok (.if_icmp .ne 15, 3) := by decide +kernel
theorem d_Mo_routeOf_118 : decode b_Mo_routeOf 118 = .ok (.iload 5, 2) := by decide +kernel
theorem d_Mo_routeOf_120 : decode b_Mo_routeOf 120 = .ok (.iload_n 3, 1) := by decide +kernel
theorem d_Mo_routeOf_121 : decode b_Mo_routeOf 121 = .ok (.if_icmp .lt 9, 3) := by decide +kernel
theorem d_Mo_routeOf_124 : decode b_Mo_routeOf 124 = .ok (.iload 4, 2) := by decide +kernel
theorem d_Mo_routeOf_126 : decode b_Mo_routeOf 126 = .ok (.istore_n 2, 1) := by decide +kernel
theorem d_Mo_routeOf_127 : decode b_Mo_routeOf 127 = .ok (.iload 5, 2) := by decide +kernel
theorem d_Mo_routeOf_129 : decode b_Mo_routeOf 129 = .ok (.istore_n 3, 1) := by decide +kernel
theorem d_Mo_routeOf_130 : decode b_Mo_routeOf 130 = .ok (.iinc 4 1, 3) := by decide +kernel
theorem d_Mo_routeOf_133 : decode b_Mo_routeOf 133 = .ok (.goto (-126), 3) := by decide +kernel
theorem d_Mo_routeOf_136 : decode b_Mo_routeOf 136 = .ok (.iload_n 2, 1) := by decide +kernel
theorem d_Mo_routeOf_137 : decode b_Mo_routeOf 137 = .ok (.ireturn, 1) := by decide +kernel
theorem d_Mo_inUse_0 : decode b_Mo_inUse 0 = .ok (.iconst 0, 1) := by decide +kernel
theorem d_Mo_inUse_1 : decode b_Mo_inUse 1 = .ok (.istore_n 1, 1) := by decide +kernel
theorem d_Mo_inUse_2 : decode b_Mo_inUse 2 = .ok (.iconst 0, 1) := by decide +kernel
theorem d_Mo_inUse_3 : decode b_Mo_inUse 3 = .ok (.istore_n 2, 1) := by decide +kernel
theorem d_Mo_inUse_4 : decode b_Mo_inUse 4 = .ok (.iload_n 2, 1) := by decide +kernel
theorem d_Mo_inUse_5 : decode b_Mo_inUse 5 = .ok (.aload_n 0, 1) := by decide +kernel
theorem d_Mo_inUse_6 : decode b_Mo_inUse 6 = .ok (.getfield 38, 3) := by decide +kernel
theorem d_Mo_inUse_9 : decode b_Mo_inUse 9 = .ok (.if_icmp .ge 37, 3) := by decide +kernel
theorem d_Mo_inUse_12 : decode b_Mo_inUse 12 = .ok (.iload_n 1, 1) := by decide +kernel
theorem d_Mo_inUse_13 : decode b_Mo_inUse 13 = .ok (.aload_n 0, 1) := by decide +kernel
theorem d_Mo_inUse_14 : decode b_Mo_inUse 14 = .ok (.getfield 7, 3) := by decide +kernel
theorem d_Mo_inUse_17 : decode b_Mo_inUse 17 = .ok (.iload_n 2, 1) := by decide +kernel
theorem d_Mo_inUse_18 : decode b_Mo_inUse 18 = .ok (.iaload, 1) := by decide +kernel
theorem d_Mo_inUse_19 : decode b_Mo_inUse 19 = .ok (.iconst 3, 1) := by decide +kernel
theorem d_Mo_inUse_20 : decode b_Mo_inUse 20 = .ok (.if_icmp .eq 13, 3) := by decide +kernel
theorem d_Mo_inUse_23 : decode b_Mo_inUse 23 = .ok (.aload_n 0, 1) := by decide +kernel
theorem d_Mo_inUse_24 : decode b_Mo_inUse 24 = .ok (.getfield 7, 3) := by decide +kernel
theorem d_Mo_inUse_27 : decode b_Mo_inUse 27 = .ok (.iload_n 2, 1) := by decide +kernel
theorem d_Mo_inUse_28 : decode b_Mo_inUse 28 = .ok (.iaload, 1) := by decide +kernel
theorem d_Mo_inUse_29 : decode b_Mo_inUse 29 = .ok (.iconst 4, 1) := by decide +kernel
theorem d_Mo_inUse_30 : decode b_Mo_inUse 30 = .ok (.if_icmp .ne 7, 3) := by decide +kernel
theorem d_Mo_inUse_33 : decode b_Mo_inUse 33 = .ok (.iconst 1, 1) := by decide +kernel
theorem d_Mo_inUse_34 : decode b_Mo_inUse 34 = .ok (.goto 4, 3) := by decide +kernel
theorem d_Mo_inUse_37 : decode b_Mo_inUse 37 = .ok (.iconst 0, 1) := by decide +kernel
theorem d_Mo_inUse_38 : decode b_Mo_inUse 38 = .ok (.iadd, 1) := by decide +kernel
theorem d_Mo_inUse_39 : decode b_Mo_inUse 39 = .ok (.istore_n 1, 1) := by decide +kernel
theorem d_Mo_inUse_40 : decode b_Mo_inUse 40 = .ok (.iinc 2 1, 3) := by decide +kernel
theorem d_Mo_inUse_43 : decode b_Mo_inUse 43 = .ok (.goto (-39), 3) := by decide +kernel
theorem d_Mo_inUse_46 : decode b_Mo_inUse 46 = .ok (.iload_n 1, 1) := by decide +kernel
theorem d_Mo_inUse_47 : decode b_Mo_inUse 47 = .ok (.ireturn, 1) := by decide +kernel
theorem d_Mo_free_0 : decode b_Mo_free 0 = .ok (.aload_n 0, 1) := by decide +kernel
theorem d_Mo_free_1 : decode b_Mo_free 1 = .ok (.iload_n 1, 1) := by decide +kernel
theorem d_Mo_free_2 : decode b_Mo_free 2 = .ok (.invokevirtual 66, 3) := by decide +kernel
theorem d_Mo_free_5 : decode b_Mo_free 5 = .ok (.istore_n 2, 1) := by decide +kernel
theorem d_Mo_free_6 : decode b_Mo_free 6 = .ok (.aload_n 0, 1) := by decide +kernel
theorem d_Mo_free_7 : decode b_Mo_free 7 = .ok (.getfield 16, 3) := by decide +kernel
theorem d_Mo_free_10 : decode b_Mo_free 10 = .ok (.iload_n 2, 1) := by decide +kernel
theorem d_Mo_free_11 : decode b_Mo_free 11 = .ok (.iaload, 1) := by decide +kernel
theorem d_Mo_free_12 : decode b_Mo_free 12 = .ok (.aload_n 0, 1) := by decide +kernel
theorem d_Mo_free_13 : decode b_Mo_free 13 = .ok (.getfield 19, 3) := by decide +kernel
theorem d_Mo_free_16 : decode b_Mo_free 16 = .ok (.iload_n 2, 1) := by decide +kernel
theorem d_Mo_free_17 : decode b_Mo_free 17 = .ok (.iaload, 1) := by decide +kernel
theorem d_Mo_free_18 : decode b_Mo_free 18 = .ok (.isub, 1) := by decide +kernel
theorem d_Mo_free_19 : decode b_Mo_free 19 = .ok (.istore_n 3, 1) := by decide +kernel
theorem d_Mo_free_20 : decode b_Mo_free 20 = .ok (.iconst 0, 1) := by decide +kernel
theorem d_Mo_free_21 : decode b_Mo_free 21 = .ok (.istore 4, 2) := by decide +kernel
theorem d_Mo_free_23 : decode b_Mo_free 23 = .ok (.iload 4, 2) := by decide +kernel
theorem d_Mo_free_25 : decode b_Mo_free 25 = .ok (.aload_n 0, 1) := by decide +kernel
theorem d_Mo_free_26 : decode b_Mo_free 26 = .ok (.getfield 38, 3) := by decide +kernel
theorem d_Mo_free_29 : decode b_Mo_free 29 = .ok (.if_icmp .ge 100, 3) := by decide +kernel
theorem d_Mo_free_32 : decode b_Mo_free 32 = .ok (.aload_n 0, 1) := by decide +kernel
theorem d_Mo_free_33 : decode b_Mo_free 33 = .ok (.getfield 7, 3) := by decide +kernel
theorem d_Mo_free_36 : decode b_Mo_free 36 = .ok (.iload 4, 2) := by decide +kernel
theorem d_Mo_free_38 : decode b_Mo_free 38 = .ok (.iaload, 1) := by decide +kernel
theorem d_Mo_free_39 : decode b_Mo_free 39 = .ok (.iconst 3, 1) := by decide +kernel
theorem d_Mo_free_40 : decode b_Mo_free 40 = .ok (.if_icmp .ne 83, 3) := by decide +kernel
theorem d_Mo_free_43 : decode b_Mo_free 43 = .ok (.aload_n 0, 1) := by decide +kernel
theorem d_Mo_free_44 : decode b_Mo_free 44 = .ok (.getfield 16, 3) := by decide +kernel
theorem d_Mo_free_47 : decode b_Mo_free 47 = .ok (.iload 4, 2) := by decide +kernel
theorem d_Mo_free_49 : decode b_Mo_free 49 = .ok (.iaload, 1) := by decide +kernel
theorem d_Mo_free_50 : decode b_Mo_free 50 = .ok (.iload_n 1, 1) := by decide +kernel
theorem d_Mo_free_51 : decode b_Mo_free 51 = .ok (.if_icmp .ne 72, 3) := by decide +kernel
theorem d_Mo_free_54 : decode b_Mo_free 54 = .ok (.aload_n 0, 1) := by decide +kernel
theorem d_Mo_free_55 : decode b_Mo_free 55 = .ok (.aload_n 0, 1) := by decide +kernel
theorem d_Mo_free_56 : decode b_Mo_free 56 = .ok (.getfield 13, 3) := by decide +kernel
theorem d_Mo_free_59 : decode b_Mo_free 59 = .ok (.iload 4, 2) := by decide +kernel
theorem d_Mo_free_61 : decode b_Mo_free 61 = .ok (.iaload, 1) := by decide +kernel
theorem d_Mo_free_62 : decode b_Mo_free 62 = .ok (.invokevirtual 70, 3) := by decide +kernel
theorem d_Mo_free_65 : decode b_Mo_free 65 = .ok (.aload_n 0, 1) := by decide +kernel
theorem d_Mo_free_66 : decode b_Mo_free 66 = .ok (.getfield 50, 3) := by decide +kernel
theorem d_Mo_free_69 : decode b_Mo_free 69 = .ok (.iconst 2, 1) := by decide +kernel
theorem d_Mo_free_70 : decode b_Mo_free 70 = .ok (.if_icmp .eq 30, 3) := by decide +kernel
theorem d_Mo_free_73 : decode b_Mo_free 73 = .ok (.aload_n 0, 1) := by decide +kernel
theorem d_Mo_free_74 : decode b_Mo_free 74 = .ok (.getfield 50, 3) := by decide +kernel
theorem d_Mo_free_77 : decode b_Mo_free 77 = .ok (.bipush 6, 2) := by decide +kernel
theorem d_Mo_free_79 : decode b_Mo_free 79 = .ok (.if_icmp .eq 21, 3) := by decide +kernel
theorem d_Mo_free_82 : decode b_Mo_free 82 = .ok (.aload_n 0, 1) := by decide +kernel
theorem d_Mo_free_83 : decode b_Mo_free 83 = .ok (.getfield 50, 3) := by decide +kernel
theorem d_Mo_free_86 : decode b_Mo_free 86 = .ok (.bipush 7, 2) := by decide +kernel
theorem d_Mo_free_88 : decode b_Mo_free 88 = .ok (.if_icmp .eq 12, 3) := by decide +kernel
theorem d_Mo_free_91 : decode b_Mo_free 91 = .ok (.aload_n 0, 1) := by decide +kernel
theorem d_Mo_free_92 : decode b_Mo_free 92 = .ok (.getfield 50, 3) := by decide +kernel
theorem d_Mo_free_95 : decode b_Mo_free 95 = .ok (.bipush 8, 2) := by decide +kernel
theorem d_Mo_free_97 : decode b_Mo_free 97 = .ok (.if_icmp .ne 7, 3) := by decide +kernel
theorem d_Mo_free_100 : decode b_Mo_free 100 = .ok (.iconst 1, 1) := by decide +kernel
theorem d_Mo_free_101 : decode b_Mo_free 101 = .ok (.goto 4, 3) := by decide +kernel
theorem d_Mo_free_104 : decode b_Mo_free 104 = .ok (.iconst 0, 1) := by decide +kernel
theorem d_Mo_free_105 : decode b_Mo_free 105 = .ok (.istore 5, 2) := by decide +kernel
theorem d_Mo_free_107 : decode b_Mo_free 107 = .ok (.iload_n 3, 1) := by decide +kernel
theorem d_Mo_free_108 : decode b_Mo_free 108 = .ok (.iload 5, 2) := by decide +kernel
theorem d_Mo_free_110 : decode b_Mo_free 110 = .ok (.ifCond .eq 10, 3) := by decide +kernel
theorem d_Mo_free_113 : decode b_Mo_free 113 = .ok (.aload_n 0, 1) := by decide +kernel
theorem d_Mo_free_114 : decode b_Mo_free 114 = .ok (.getfield 53, 3) := by decide +kernel
theorem d_Mo_free_117 : decode b_Mo_free 117 = .ok (.goto 4, 3) := by decide +kernel
theorem d_Mo_free_120 : decode b_Mo_free 120 = .ok (.iconst 0, 1) := by decide +kernel
theorem d_Mo_free_121 : decode b_Mo_free 121 = .ok (.isub, 1) := by decide +kernel
theorem d_Mo_free_122 : decode b_Mo_free 122 = .ok (.istore_n 3, 1) := by decide +kernel
theorem d_Mo_free_123 : decode b_Mo_free 123 = .ok (.iinc 4 1, 3) := by decide +kernel
theorem d_Mo_free_126 : decode b_Mo_free 126 = .ok (.goto (-103), 3) := by decide +kernel
theorem d_Mo_free_129 : decode b_Mo_free 129 = .ok (.iload_n 3, 1) := by decide +kernel
theorem d_Mo_free_130 : decode b_Mo_free 130 = .ok (.ireturn, 1) := by decide +kernel
theorem d_Mo_latestCut_0 : decode b_Mo_latestCut 0 = .ok (.iconst (-1), 1) := by decide +kernel
theorem d_Mo_latestCut_1 : decode b_Mo_latestCut 1 = .ok (.istore_n 1, 1) := by decide +kernel
theorem d_Mo_latestCut_2 : decode b_Mo_latestCut 2 = .ok (.iconst 0, 1) := by decide +kernel
theorem d_Mo_latestCut_3 : decode b_Mo_latestCut 3 = .ok (.istore_n 2, 1) := by decide +kernel
theorem d_Mo_latestCut_4 : decode b_Mo_latestCut 4 = .ok (.iload_n 2, 1) := by decide +kernel
theorem d_Mo_latestCut_5 : decode b_Mo_latestCut 5 = .ok (.aload_n 0, 1) := by decide +kernel
theorem d_Mo_latestCut_6 : decode b_Mo_latestCut 6 = .ok (.getfield 38, 3) := by decide +kernel
theorem d_Mo_latestCut_9 : decode b_Mo_latestCut 9 = .ok (.if_icmp .ge 26, 3) := by decide +kernel
theorem d_Mo_latestCut_12 : decode b_Mo_latestCut 12 = .ok (.aload_n 0, 1) := by decide +kernel
theorem d_Mo_latestCut_13 : decode b_Mo_latestCut 13 = .ok (.getfield 7, 3) := by decide +kernel
theorem d_Mo_latestCut_16 : decode b_Mo_latestCut 16 = .ok (.iload_n 2, 1) := by decide +kernel
theorem d_Mo_latestCut_17 : decode b_Mo_latestCut 17 = .ok (.iaload, 1) := by decide +kernel
theorem d_Mo_latestCut_18 : decode b_Mo_latestCut 18 = .ok (.bipush 9, 2) := by decide +kernel
theorem d_Mo_latestCut_20 : decode b_Mo_latestCut 20 = .ok (.if_icmp .ne 7, 3) := by decide +kernel
theorem d_Mo_latestCut_23 : decode b_Mo_latestCut 23 = .ok (.iload_n 2, 1) := by decide +kernel
theorem d_Mo_latestCut_24 : decode b_Mo_latestCut 24 = .ok (.goto 4, 3) := by decide +kernel
theorem d_Mo_latestCut_27 : decode b_Mo_latestCut 27 = .ok (.iload_n 1, 1) := by decide +kernel
theorem d_Mo_latestCut_28 : decode b_Mo_latestCut 28 = .ok (.istore_n 1, 1) := by decide +kernel
theorem d_Mo_latestCut_29 : decode b_Mo_latestCut 29 = .ok (.iinc 2 1, 3) := by decide +kernel
theorem d_Mo_latestCut_32 : decode b_Mo_latestCut 32 = .ok (.goto (-28), 3) := by decide +kernel
theorem d_Mo_latestCut_35 : decode b_Mo_latestCut 35 = .ok (.iload_n 1, 1) := by decide +kernel
theorem d_Mo_latestCut_36 : decode b_Mo_latestCut 36 = .ok (.ireturn, 1) := by decide +kernel
theorem d_Mo_fee_0 : decode b_Mo_fee 0 = .ok (.iload_n 0, 1) := by decide +kernel
theorem d_Mo_fee_1 : decode b_Mo_fee 1 = .ok (.iload_n 1, 1) := by decide +kernel
theorem d_Mo_fee_2 : decode b_Mo_fee 2 = .ok (.imul, 1) := by decide +kernel
theorem d_Mo_fee_3 : decode b_Mo_fee 3 = .ok (.sipush 9999, 3) := by decide +kernel
theorem d_Mo_fee_6 : decode b_Mo_fee 6 = .ok (.iadd, 1) := by decide +kernel
theorem d_Mo_fee_7 : decode b_Mo_fee 7 = .ok (.sipush 10000, 3) := by decide +kernel
theorem d_Mo_fee_10 : decode b_Mo_fee 10 = .ok (.idiv, 1) := by decide +kernel
theorem d_Mo_fee_11 : decode b_Mo_fee 11 = .ok (.ireturn, 1) := by decide +kernel
theorem d_Mo_route_0 : decode b_Mo_route 0 = .ok (.iload_n 1, 1) := by decide +kernel
theorem d_Mo_route_1 : decode b_Mo_route 1 = .ok (.iconst 1, 1) := by decide +kernel
theorem d_Mo_route_2 : decode b_Mo_route 2 = .ok (.if_icmp .lt 30, 3) := by decide +kernel
theorem d_Mo_route_5 : decode b_Mo_route 5 = .ok (.iload_n 1, 1) := by decide +kernel
theorem d_Mo_route_6 : decode b_Mo_route 6 = .ok (.sipush 9999, 3) := by decide +kernel
theorem d_Mo_route_9 : decode b_Mo_route 9 = .ok (.if_icmp .gt 23, 3) := by decide +kernel
theorem d_Mo_route_12 : decode b_Mo_route 12 = .ok (.iload_n 2, 1) := by decide +kernel
theorem d_Mo_route_13 : decode b_Mo_route 13 = .ok (.ifCond .lt 19, 3) := by decide +kernel
theorem d_Mo_route_16 : decode b_Mo_route 16 = .ok (.iload_n 2, 1) := by decide +kernel
theorem d_Mo_route_17 : decode b_Mo_route 17 = .ok (.iconst 3, 1) := by decide +kernel
theorem d_Mo_route_18 : decode b_Mo_route 18 = .ok (.if_icmp .gt 14, 3) := by decide +kernel
theorem d_Mo_route_21 : decode b_Mo_route 21 = .ok (.iload_n 3, 1) := by decide +kernel
theorem d_Mo_route_22 : decode b_Mo_route 22 = .ok (.ifCond .lt 10, 3) := by decide +kernel
theorem d_Mo_route_25 : decode b_Mo_route 25 = .ok (.iload_n 3, 1) := by decide +kernel
theorem d_Mo_route_26 : decode b_Mo_route 26 = .ok (.sipush 2000, 3) := by decide +kernel
theorem d_Mo_route_29 : decode b_Mo_route 29 = .ok (.if_icmp .le 5, 3) := by decide +kernel
theorem d_Mo_route_32 : decode b_Mo_route 32 = .ok (.iconst 0, 1) := by decide +kernel
theorem d_Mo_route_33 : decode b_Mo_route 33 = .ok (.ireturn, 1) := by decide +kernel
theorem d_Mo_route_34 : decode b_Mo_route 34 = .ok (.iconst 0, 1) := by decide +kernel
theorem d_Mo_route_35 : decode b_Mo_route 35 = .ok (.istore 4, 2) := by decide +kernel
theorem d_Mo_route_37 : decode b_Mo_route 37 = .ok (.iconst 0, 1) := by decide +kernel
theorem d_Mo_route_38 : decode b_Mo_route 38 = .ok (.istore 5, 2) := by decide +kernel
theorem d_Mo_route_40 : decode b_Mo_route 40 = .ok (.iconst 0, 1) := by decide +kernel
theorem d_Mo_route_41 : decode b_Mo_route 41 = .ok (.istore 6, 2) := by decide +kernel
theorem d_Mo_route_43 : decode b_Mo_route 43 = .ok (.iload 6, 2) := by decide +kernel
theorem d_Mo_route_45 : decode b_Mo_route 45 = .ok (.aload_n 0, 1) := by decide +kernel
theorem d_Mo_route_46 : decode b_Mo_route 46 = .ok (.getfield 38, 3) := by decide +kernel
theorem d_Mo_route_49 : decode b_Mo_route 49 = .ok (.if_icmp .ge 132, 3) := by decide +kernel
theorem d_Mo_route_52 : decode b_Mo_route 52 = .ok (.aload_n 0, 1) := by decide +kernel
theorem d_Mo_route_53 : decode b_Mo_route 53 = .ok (.getfield 7, 3) := by decide +kernel
theorem d_Mo_route_56 : decode b_Mo_route 56 = .ok (.iload 6, 2) := by decide +kernel
theorem d_Mo_route_58 : decode b_Mo_route 58 = .ok (.iaload, 1) := by decide +kernel
theorem d_Mo_route_59 : decode b_Mo_route 59 = .ok (.iconst 1, 1) := by decide +kernel
theorem d_Mo_route_60 : decode b_Mo_route 60 = .ok (.if_icmp .ne 7, 3) := by decide +kernel
theorem d_Mo_route_63 : decode b_Mo_route 63 = .ok (.iconst 1, 1) := by decide +kernel
theorem d_Mo_route_64 : decode b_Mo_route 64 = .ok (.goto 4, 3) := by decide +kernel
theorem d_Mo_route_67 : decode b_Mo_route 67 = .ok (.iconst 0, 1) := by decide +kernel
theorem d_Mo_route_68 : decode b_Mo_route 68 = .ok (.istore 7, 2) := by decide +kernel
theorem d_Mo_route_70 : decode b_Mo_route 70 = .ok (.iconst 0, 1) := by decide +kernel
theorem d_Mo_route_71 : decode b_Mo_route 71 = .ok (.istore 8, 2) := by decide +kernel
theorem d_Mo_route_73 : decode b_Mo_route 73 = .ok (.iload 8, 2) := by decide +kernel
theorem d_Mo_route_75 : decode b_Mo_route 75 = .ok (.iload 6, 2) := by decide +kernel
theorem d_Mo_route_77 : decode b_Mo_route 77 = .ok (.if_icmp .ge 49, 3) := by decide +kernel
theorem d_Mo_route_80 : decode b_Mo_route 80 = .ok (.iload 7, 2) := by decide +kernel
theorem d_Mo_route_82 : decode b_Mo_route 82 = .ok (.ifCond .eq 35, 3) := by decide +kernel
theorem d_Mo_route_85 : decode b_Mo_route 85 = .ok (.aload_n 0, 1) := by decide +kernel
theorem d_Mo_route_86 : decode b_Mo_route 86 = .ok (.getfield 7, 3) := by decide +kernel
theorem d_Mo_route_89 : decode b_Mo_route 89 = .ok (.iload 8, 2) := by decide +kernel
theorem d_Mo_route_91 : decode b_Mo_route 91 = .ok (.iaload, 1) := by decide +kernel
theorem d_Mo_route_92 : decode b_Mo_route 92 = .ok (.iconst 1, 1) := by decide +kernel
theorem d_Mo_route_93 : decode b_Mo_route 93 = .ok (.if_icmp .ne 20, 3) := by decide +kernel
theorem d_Mo_route_96 : decode b_Mo_route 96 = .ok (.aload_n 0, 1) := by decide +kernel
theorem d_Mo_route_97 : decode b_Mo_route 97 = .ok (.getfield 13, 3) := by decide +kernel
theorem d_Mo_route_100 : decode b_Mo_route 100 = .ok (.iload 8, 2) := by decide +kernel
theorem d_Mo_route_102 : decode b_Mo_route 102 = .ok (.iaload, 1) := by decide +kernel
theorem d_Mo_route_103 : decode b_Mo_route 103 = .ok (.aload_n 0, 1) := by decide +kernel
theorem d_Mo_route_104 : decode b_Mo_route 104 = .ok (.getfield 13, 3) := by decide +kernel
theorem d_Mo_route_107 : decode b_Mo_route 107 = .ok (.iload 6, 2) := by decide +kernel
theorem d_Mo_route_109 : decode b_Mo_route 109 = .ok (.iaload, 1) := by decide +kernel
theorem d_Mo_route_110 : decode b_Mo_route 110 = .ok (.if_icmp .eq 7, 3) := by decide +kernel
theorem d_Mo_route_113 : decode b_Mo_route 113 = .ok (.iconst 1, 1) := by decide +kernel
theorem d_Mo_route_114 : decode b_Mo_route 114 = .ok (.goto 4, 3) := by decide +kernel
theorem d_Mo_route_117 : decode b_Mo_route 117 = .ok (.iconst 0, 1) := by decide +kernel
theorem d_Mo_route_118 : decode b_Mo_route 118 = .ok (.istore 7, 2) := by decide +kernel
theorem d_Mo_route_120 : decode b_Mo_route 120 = .ok (.iinc 8 1, 3) := by decide +kernel
theorem d_Mo_route_123 : decode b_Mo_route 123 = .ok (.goto (-50), 3) := by decide +kernel
theorem d_Mo_route_126 : decode b_Mo_route 126 = .ok (.iload 4, 2) := by decide +kernel
theorem d_Mo_route_128 : decode b_Mo_route 128 = .ok (.iload 7, 2) := by decide +kernel
theorem d_Mo_route_130 : decode b_Mo_route 130 = .ok (.ifCond .eq 7, 3) := by decide +kernel
theorem d_Mo_route_133 : decode b_Mo_route 133 = .ok (.iconst 1, 1) := by decide +kernel
theorem d_Mo_route_134 : decode b_Mo_route 134 = .ok (.goto 4, 3) := by decide +kernel
theorem d_Mo_route_137 : decode b_Mo_route 137 = .ok (.iconst 0, 1) := by decide +kernel
theorem d_Mo_route_138 : decode b_Mo_route 138 = .ok (.iadd, 1) := by decide +kernel
theorem d_Mo_route_139 : decode b_Mo_route 139 = .ok (.istore 4, 2) := by decide +kernel
theorem d_Mo_route_141 : decode b_Mo_route 141 = .ok (.iload 5, 2) := by decide +kernel
theorem d_Mo_route_143 : decode b_Mo_route 143 = .ok (.ifCond .ne 25, 3) := by decide +kernel
theorem d_Mo_route_146 : decode b_Mo_route 146 = .ok (.aload_n 0, 1) := by decide +kernel
theorem d_Mo_route_147 : decode b_Mo_route 147 = .ok (.getfield 7, 3) := by decide +kernel
theorem d_Mo_route_150 : decode b_Mo_route 150 = .ok (.iload 6, 2) := by decide +kernel
theorem d_Mo_route_152 : decode b_Mo_route 152 = .ok (.iaload, 1) := by decide +kernel
theorem d_Mo_route_153 : decode b_Mo_route 153 = .ok (.iconst 1, 1) := by decide +kernel
theorem d_Mo_route_154 : decode b_Mo_route 154 = .ok (.if_icmp .ne 18, 3) := by decide +kernel
theorem d_Mo_route_157 : decode b_Mo_route 157 = .ok (.aload_n 0, 1) := by decide +kernel
theorem d_Mo_route_158 : decode b_Mo_route 158 = .ok (.getfield 13, 3) := by decide +kernel
theorem d_Mo_route_161 : decode b_Mo_route 161 = .ok (.iload 6, 2) := by decide +kernel
theorem d_Mo_route_163 : decode b_Mo_route 163 = .ok (.iaload, 1) := by decide +kernel
theorem d_Mo_route_164 : decode b_Mo_route 164 = .ok (.iload_n 1, 1) := by decide +kernel
theorem d_Mo_route_165 : decode b_Mo_route 165 = .ok (.if_icmp .ne 7, 3) := by decide +kernel
theorem d_Mo_route_168 : decode b_Mo_route 168 = .ok (.iconst 1, 1) := by decide +kernel
theorem d_Mo_route_169 : decode b_Mo_route 169 = .ok (.goto 4, 3) := by decide +kernel
theorem d_Mo_route_172 : decode b_Mo_route 172 = .ok (.iconst 0, 1) := by decide +kernel
theorem d_Mo_route_173 : decode b_Mo_route 173 = .ok (.istore 5, 2) := by decide +kernel
theorem d_Mo_route_175 : decode b_Mo_route 175 = .ok (.iinc 6 1, 3) := by decide +kernel
theorem d_Mo_route_178 : decode b_Mo_route 178 = .ok (.goto (-135), 3) := by decide +kernel
theorem d_Mo_route_181 : decode b_Mo_route 181 = .ok (.iload 5, 2) := by decide +kernel
theorem d_Mo_route_183 : decode b_Mo_route 183 = .ok (.ifCond .ne 12, 3) := by decide +kernel
theorem d_Mo_route_186 : decode b_Mo_route 186 = .ok (.iload 4, 2) := by decide +kernel
theorem d_Mo_route_188 : decode b_Mo_route 188 = .ok (.bipush 6, 2) := by decide +kernel
theorem d_Mo_route_190 : decode b_Mo_route 190 = .ok (.if_icmp .lt 5, 3) := by decide +kernel
theorem d_Mo_route_193 : decode b_Mo_route 193 = .ok (.iconst 0, 1) := by decide +kernel
theorem d_Mo_route_194 : decode b_Mo_route 194 = .ok (.ireturn, 1) := by decide +kernel
theorem d_Mo_route_195 : decode b_Mo_route 195 = .ok (.aload_n 0, 1) := by decide +kernel
theorem d_Mo_route_196 : decode b_Mo_route 196 = .ok (.iconst 1, 1) := by decide +kernel
theorem d_Mo_route_197 : decode b_Mo_route 197 = .ok (.iload_n 1, 1) := by decide +kernel
theorem d_Mo_route_198 : decode b_Mo_route 198 = .ok (.iload_n 2, 1) := by decide +kernel
theorem d_Mo_route_199 : decode b_Mo_route 199 = .ok (.iload_n 3, 1) := by decide +kernel
theorem d_Mo_route_200 : decode b_Mo_route 200 = .ok (.invokevirtual 73, 3) := by decide +kernel
theorem d_Mo_route_203 : decode b_Mo_route 203 = .ok (.iconst 1, 1) := by decide +kernel
theorem d_Mo_route_204 : decode b_Mo_route 204 = .ok (.ireturn, 1) := by decide +kernel
theorem d_Mo_card_0 : decode b_Mo_card 0 = .ok (.iload_n 1, 1) := by decide +kernel
theorem d_Mo_card_1 : decode b_Mo_card 1 = .ok (.invokestatic 77, 3) := by decide +kernel
theorem d_Mo_card_4 : decode b_Mo_card 4 = .ok (.ifCond .eq 32, 3) := by decide +kernel
theorem d_Mo_card_7 : decode b_Mo_card 7 = .ok (.iload_n 2, 1) := by decide +kernel
theorem d_Mo_card_8 : decode b_Mo_card 8 = .ok (.ldc 81, 2) := by decide +kernel
theorem d_Mo_card_10 : decode b_Mo_card 10 = .ok (.if_icmp .lt 26, 3) := by decide +kernel
theorem d_Mo_card_13 : decode b_Mo_card 13 = .ok (.iload_n 2, 1) := by decide +kernel
theorem d_Mo_card_14 : decode b_Mo_card 14 = .ok (.ldc 82, 2) := by decide +kernel
theorem d_Mo_card_16 : decode b_Mo_card 16 = .ok (.if_icmp .gt 20, 3) := by decide +kernel
theorem d_Mo_card_19 : decode b_Mo_card 19 = .ok (.iload_n 3, 1) := by decide +kernel
theorem d_Mo_card_20 : decode b_Mo_card 20 = .ok (.ldc 81, 2) := by decide +kernel
theorem d_Mo_card_22 : decode b_Mo_card 22 = .ok (.if_icmp .lt 14, 3) := by decide +kernel
theorem d_Mo_card_25 : decode b_Mo_card 25 = .ok (.iload_n 3, 1) := by decide +kernel
theorem d_Mo_card_26 : decode b_Mo_card 26 = .ok (.ldc 82, 2) := by decide +kernel
theorem d_Mo_card_28 : decode b_Mo_card 28 = .ok (.if_icmp .gt 8, 3) := by decide +kernel
theorem d_Mo_card_31 : decode b_Mo_card 31 = .ok (.iload_n 2, 1) := by decide +kernel
theorem d_Mo_card_32 : decode b_Mo_card 32 = .ok (.iload_n 3, 1) := by decide +kernel
theorem d_Mo_card_33 : decode b_Mo_card 33 = .ok (.if_icmp .ge 5, 3) := by decide +kernel
theorem d_Mo_card_36 : decode b_Mo_card 36 = .ok (.iconst (-1), 1) := by decide +kernel
theorem d_Mo_card_37 : decode b_Mo_card 37 = .ok (.ireturn, 1) := by decide +kernel
theorem d_Mo_card_38 : decode b_Mo_card 38 = .ok (.aload_n 0, 1) := by decide +kernel
theorem d_Mo_card_39 : decode b_Mo_card 39 = .ok (.iload_n 1, 1) := by decide +kernel
theorem d_Mo_card_40 : decode b_Mo_card 40 = .ok (.invokevirtual 66, 3) := by decide +kernel
theorem d_Mo_card_43 : decode b_Mo_card 43 = .ok (.ifCond .lt 6, 3) := by decide +kernel
theorem d_Mo_card_46 : decode b_Mo_card 46 = .ok (.bipush (-2), 2) := by decide +kernel
theorem d_Mo_card_48 : decode b_Mo_card 48 = .ok (.ireturn, 1) := by decide +kernel
theorem d_Mo_card_49 : decode b_Mo_card 49 = .ok (.iconst 0, 1) := by decide +kernel
theorem d_Mo_card_50 : decode b_Mo_card 50 = .ok (.istore 4, 2) := by decide +kernel
theorem d_Mo_card_52 : decode b_Mo_card 52 = .ok (.iconst 0, 1) := by decide +kernel
theorem d_Mo_card_53 : decode b_Mo_card 53 = .ok (.istore 5, 2) := by decide +kernel
theorem d_Mo_card_55 : decode b_Mo_card 55 = .ok (.iload 5, 2) := by decide +kernel
theorem d_Mo_card_57 : decode b_Mo_card 57 = .ok (.aload_n 0, 1) := by decide +kernel
theorem d_Mo_card_58 : decode b_Mo_card 58 = .ok (.getfield 38, 3) := by decide +kernel
theorem d_Mo_card_61 : decode b_Mo_card 61 = .ok (.if_icmp .ge 30, 3) := by decide +kernel
theorem d_Mo_card_64 : decode b_Mo_card 64 = .ok (.iload 4, 2) := by decide +kernel
theorem d_Mo_card_66 : decode b_Mo_card 66 = .ok (.aload_n 0, 1) := by decide +kernel
theorem d_Mo_card_67 : decode b_Mo_card 67 = .ok (.getfield 7, 3) := by decide +kernel
theorem d_Mo_card_70 : decode b_Mo_card 70 = .ok (.iload 5, 2) := by decide +kernel
theorem d_Mo_card_72 : decode b_Mo_card 72 = .ok (.iaload, 1) := by decide +kernel
theorem d_Mo_card_73 : decode b_Mo_card 73 = .ok (.iconst 2, 1) := by decide +kernel
theorem d_Mo_card_74 : decode b_Mo_card 74 = .ok (.if_icmp .ne 7, 3) := by decide +kernel
theorem d_Mo_card_77 : decode b_Mo_card 77 = .ok (.iconst 1, 1) := by decide +kernel
theorem d_Mo_card_78 : decode b_Mo_card 78 = .ok (.goto 4, 3) := by decide +kernel
theorem d_Mo_card_81 : decode b_Mo_card 81 = .ok (.iconst 0, 1) := by decide +kernel
theorem d_Mo_card_82 : decode b_Mo_card 82 = .ok (.iadd, 1) := by decide +kernel
theorem d_Mo_card_83 : decode b_Mo_card 83 = .ok (.istore 4, 2) := by decide +kernel
theorem d_Mo_card_85 : decode b_Mo_card 85 = .ok (.iinc 5 1, 3) := by decide +kernel
theorem d_Mo_card_88 : decode b_Mo_card 88 = .ok (.goto (-33), 3) := by decide +kernel
theorem d_Mo_card_91 : decode b_Mo_card 91 = .ok (.iload 4, 2) := by decide +kernel
theorem d_Mo_card_93 : decode b_Mo_card 93 = .ok (.bipush 8, 2) := by decide +kernel
theorem d_Mo_card_95 : decode b_Mo_card 95 = .ok (.if_icmp .lt 6, 3) := by decide +kernel
theorem d_Mo_card_98 : decode b_Mo_card 98 = .ok (.bipush (-3), 2) := by decide +kernel
theorem d_Mo_card_100 : decode b_Mo_card 100 = .ok (.ireturn, 1) := by decide +kernel
theorem d_Mo_card_101 : decode b_Mo_card 101 = .ok (.aload_n 0, 1) := by decide +kernel
theorem d_Mo_card_102 : decode b_Mo_card 102 = .ok (.iconst 2, 1) := by decide +kernel
theorem d_Mo_card_103 : decode b_Mo_card 103 = .ok (.iload_n 1, 1) := by decide +kernel
theorem d_Mo_card_104 : decode b_Mo_card 104 = .ok (.iload_n 2, 1) := by decide +kernel
theorem d_Mo_card_105 : decode b_Mo_card 105 = .ok (.iload_n 3, 1) := by decide +kernel
theorem d_Mo_card_106 : decode b_Mo_card 106 = .ok (.invokevirtual 73, 3) := by decide +kernel
theorem d_Mo_card_109 : decode b_Mo_card 109 = .ok (.iload 4, 2) := by decide +kernel
theorem d_Mo_card_111 : decode b_Mo_card 111 = .ok (.iconst 1, 1) := by decide +kernel
theorem d_Mo_card_112 : decode b_Mo_card 112 = .ok (.iadd, 1) := by decide +kernel
theorem d_Mo_card_113 : decode b_Mo_card 113 = .ok (.ireturn, 1) := by decide +kernel
theorem d_Mo_decide_0 : decode b_Mo_decide 0 = .ok (.aload_n 0, 1) := by decide +kernel
theorem d_Mo_decide_1 : decode b_Mo_decide 1 = .ok (.iload_n 1, 1) := by decide +kernel
theorem d_Mo_decide_2 : decode b_Mo_decide 2 = .ok (.invokevirtual 66, 3) := by decide +kernel
theorem d_Mo_decide_5 : decode b_Mo_decide 5 = .ok (.ifCond .ge 6, 3) := by decide +kernel
theorem d_Mo_decide_8 : decode b_Mo_decide 8 = .ok (.bipush (-4), 2) := by decide +kernel
theorem d_Mo_decide_10 : decode b_Mo_decide 10 = .ok (.ireturn, 1) := by decide +kernel
theorem d_Mo_decide_11 : decode b_Mo_decide 11 = .ok (.aload_n 0, 1) := by decide +kernel
theorem d_Mo_decide_12 : decode b_Mo_decide 12 = .ok (.iload_n 1, 1) := by decide +kernel
theorem d_Mo_decide_13 : decode b_Mo_decide 13 = .ok (.invokevirtual 83, 3) := by decide +kernel
theorem d_Mo_decide_16 : decode b_Mo_decide 16 = .ok (.ifCond .ge 6, 3) := by decide +kernel
theorem d_Mo_decide_19 : decode b_Mo_decide 19 = .ok (.bipush (-5), 2) := by decide +kernel
theorem d_Mo_decide_21 : decode b_Mo_decide 21 = .ok (.ireturn, 1) := by decide +kernel
theorem d_Mo_decide_22 : decode b_Mo_decide 22 = .ok (.iconst 0, 1) := by decide +kernel
theorem d_Mo_decide_23 : decode b_Mo_decide 23 = .ok (.istore 4, 2) := by decide +kernel
theorem d_Mo_decide_25 : decode b_Mo_decide 25 = .ok (.iconst 0, 1) := by decide +kernel
theorem d_Mo_decide_26 : decode b_Mo_decide 26 = .ok (.istore 5, 2) := by decide +kernel
theorem d_Mo_decide_28 : decode b_Mo_decide 28 = .ok (.iload 5, 2) := by decide +kernel
theorem d_Mo_decide_30 : decode b_Mo_decide 30 = .ok (.aload_n 0, 1) := by decide +kernel
theorem d_Mo_decide_31 : decode b_Mo_decide 31 = .ok (.getfield 38, 3) := by decide +kernel
theorem d_Mo_decide_34 : decode b_Mo_decide 34 = .ok (.if_icmp .ge 81, 3) := by decide +kernel
theorem d_Mo_decide_37 : decode b_Mo_decide 37 = .ok (.aload_n 0, 1) := by decide +kernel
theorem d_Mo_decide_38 : decode b_Mo_decide 38 = .ok (.getfield 7, 3) := by decide +kernel
theorem d_Mo_decide_41 : decode b_Mo_decide 41 = .ok (.iload 5, 2) := by decide +kernel
theorem d_Mo_decide_43 : decode b_Mo_decide 43 = .ok (.iaload, 1) := by decide +kernel
theorem d_Mo_decide_44 : decode b_Mo_decide 44 = .ok (.iconst 3, 1) := by decide +kernel
theorem d_Mo_decide_45 : decode b_Mo_decide 45 = .ok (.if_icmp .ne 46, 3) := by decide +kernel
theorem d_Mo_decide_48 : decode b_Mo_decide 48 = .ok (.aload_n 0, 1) := by decide +kernel
theorem d_Mo_decide_49 : decode b_Mo_decide 49 = .ok (.getfield 16, 3) := by decide +kernel
theorem d_Mo_decide_52 : decode b_Mo_decide 52 = .ok (.iload 5, 2) := by decide +kernel
theorem d_Mo_decide_54 : decode b_Mo_decide 54 = .ok (.iaload, 1) := by decide +kernel
theorem d_Mo_decide_55 : decode b_Mo_decide 55 = .ok (.iload_n 1, 1) := by decide +kernel
theorem d_Mo_decide_56 : decode b_Mo_decide 56 = .ok (.if_icmp .ne 35, 3) := by decide +kernel
theorem d_Mo_decide_59 : decode b_Mo_decide 59 = .ok (.aload_n 0, 1) := by decide +kernel
theorem d_Mo_decide_60 : decode b_Mo_decide 60 = .ok (.getfield 29, 3) := by decide +kernel
theorem d_Mo_decide_63 : decode b_Mo_decide 63 = .ok (.iload 5, 2) := by decide +kernel
theorem d_Mo_decide_65 : decode b_Mo_decide 65 = .ok (.iaload, 1) := by decide +kernel
theorem d_Mo_decide_66 : decode b_Mo_decide 66 = .ok (.iconst 1, 1) := by decide +kernel
theorem d_Mo_decide_67 : decode b_Mo_decide 67 = .ok (.if_icmp .lt 24, 3) := by decide +kernel
theorem d_Mo_decide_70 : decode b_Mo_decide 70 = .ok (.aload_n 0, 1) := by decide +kernel
theorem d_Mo_decide_71 : decode b_Mo_decide 71 = .ok (.getfield 26, 3) := by decide +kernel
theorem d_Mo_decide_74 : decode b_Mo_decide 74 = .ok (.iload 5, 2) := by decide +kernel
theorem d_Mo_decide_76 : decode b_Mo_decide 76 = .ok (.iaload, 1) := by decide +kernel
theorem d_Mo_decide_77 : decode b_Mo_decide 77 = .ok (.aload_n 0, 1) := by decide +kernel
theorem d_Mo_decide_78 : decode b_Mo_decide 78 = .ok (.getfield 42, 3) := by decide +kernel
theorem d_Mo_decide_81 : decode b_Mo_decide 81 = .ok (.bipush 10, 2) := by decide +kernel
theorem d_Mo_decide_83 : decode b_Mo_decide 83 = .ok (.isub, 1) := by decide +kernel
theorem d_Mo_decide_84 : decode b_Mo_decide 84 = .ok (.if_icmp .le 7, 3) := by decide +kernel
theorem d_Mo_decide_87 : decode b_Mo_decide 87 = .ok (.iconst 1, 1) := by decide +kernel
theorem d_Mo_decide_88 : decode b_Mo_decide 88 = .ok (.goto 4, 3) := by decide +kernel
theorem d_Mo_decide_91 : decode b_Mo_decide 91 = .ok (.iconst 0, 1) := by decide +kernel
theorem d_Mo_decide_92 : decode b_Mo_decide 92 = .ok (.istore 6, 2) := by decide +kernel
theorem d_Mo_decide_94 : decode b_Mo_decide 94 = .ok (.iload 4, 2) := by decide +kernel
theorem d_Mo_decide_96 : decode b_Mo_decide 96 = .ok (.iload 6, 2) := by decide +kernel
theorem d_Mo_decide_98 : decode b_Mo_decide 98 = .ok (.ifCond .eq 7, 3) := by decide +kernel
theorem d_Mo_decide_101 : decode b_Mo_decide 101 = .ok (.iconst 1, 1) := by decide +kernel
theorem d_Mo_decide_102 : decode b_Mo_decide 102 = .ok (.goto 4, 3) := by decide +kernel
theorem d_Mo_decide_105 : decode b_Mo_decide 105 = .ok (.iconst 0, 1) := by decide +kernel
theorem d_Mo_decide_106 : decode b_Mo_decide 106 = .ok (.iadd, 1) := by decide +kernel
theorem d_Mo_decide_107 : decode b_Mo_decide 107 = .ok (.istore 4, 2) := by decide +kernel
theorem d_Mo_decide_109 : decode b_Mo_decide 109 = .ok (.iinc 5 1, 3) := by decide +kernel
theorem d_Mo_decide_112 : decode b_Mo_decide 112 = .ok (.goto (-84), 3) := by decide +kernel
theorem d_Mo_decide_115 : decode b_Mo_decide 115 = .ok (.iload 4, 2) := by decide +kernel
theorem d_Mo_decide_117 : decode b_Mo_decide 117 = .ok (.iconst 4, 1) := by decide +kernel
theorem d_Mo_decide_118 : decode b_Mo_decide 118 = .ok (.if_icmp .lt 6, 3) := by decide +kernel
theorem d_Mo_decide_121 : decode b_Mo_decide 121 = .ok (.bipush (-6), 2) := by decide +kernel
theorem d_Mo_decide_123 : decode b_Mo_decide 123 = .ok (.ireturn, 1) := by decide +kernel
theorem d_Mo_decide_124 : decode b_Mo_decide 124 = .ok (.aload_n 0, 1) := by decide +kernel
theorem d_Mo_decide_125 : decode b_Mo_decide 125 = .ok (.iload_n 1, 1) := by decide +kernel
theorem d_Mo_decide_126 : decode b_Mo_decide 126 = .ok (.invokevirtual 86, 3) := by decide +kernel
theorem d_Mo_decide_129 : decode b_Mo_decide 129 = .ok (.istore 5, 2) := by decide +kernel
theorem d_Mo_decide_131 : decode b_Mo_decide 131 = .ok (.iload 5, 2) := by decide +kernel
theorem d_Mo_decide_133 : decode b_Mo_decide 133 = .ok (.iload_n 2, 1) := by decide +kernel
theorem d_Mo_decide_134 : decode b_Mo_decide 134 = .ok (.if_icmp .lt 7, 3) := by decide +kernel
theorem d_Mo_decide_137 : decode b_Mo_decide 137 = .ok (.iload_n 2, 1) := by decide +kernel
theorem d_Mo_decide_138 : decode b_Mo_decide 138 = .ok (.goto 20, 3) := by decide +kernel
theorem d_Mo_decide_141 : decode b_Mo_decide 141 = .ok (.iload 5, 2) := by decide +kernel
theorem d_Mo_decide_143 : decode b_Mo_decide 143 = .ok (.iconst 1, 1) := by decide +kernel
theorem d_Mo_decide_144 : decode b_Mo_decide 144 = .ok (.if_icmp .lt 12, 3) := by decide +kernel
theorem d_Mo_decide_147 : decode b_Mo_decide 147 = .ok (.iload_n 3, 1) := by decide +kernel
theorem d_Mo_decide_148 : decode b_Mo_decide 148 = .ok (.ifCond .eq 8, 3) := by decide +kernel
theorem d_Mo_decide_151 : decode b_Mo_decide 151 = .ok (.iload 5, 2) := by decide +kernel
theorem d_Mo_decide_153 : decode b_Mo_decide 153 = .ok (.goto 5, 3) := by decide +kernel
theorem d_Mo_decide_156 : decode b_Mo_decide 156 = .ok (.bipush (-7), 2) := by decide +kernel
theorem d_Mo_decide_158 : decode b_Mo_decide 158 = .ok (.ireturn, 1) := by decide +kernel
theorem d_Mo_authorise_0 : decode b_Mo_authorise 0 = .ok (.iload_n 1, 1) := by decide +kernel
theorem d_Mo_authorise_1 : decode b_Mo_authorise 1 = .ok (.iload_n 2, 1) := by decide +kernel
theorem d_Mo_authorise_2 : decode b_Mo_authorise 2 = .ok (.invokestatic 89, 3) := by decide +kernel
theorem d_Mo_authorise_5 : decode b_Mo_authorise 5 = .ok (.ifCond .ne 23, 3) := by decide +kernel
theorem d_Mo_authorise_8 : decode b_Mo_authorise 8 = .ok (.iload_n 3, 1) := by decide +kernel
theorem d_Mo_authorise_9 : decode b_Mo_authorise 9 = .ok (.invokestatic 77, 3) := by decide +kernel
theorem d_Mo_authorise_12 : decode b_Mo_authorise 12 = .ok (.ifCond .eq 16, 3) := by decide +kernel
theorem d_Mo_authorise_15 : decode b_Mo_authorise 15 = .ok (.iload 4, 2) := by decide +kernel
theorem d_Mo_authorise_17 : decode b_Mo_authorise 17 = .ok (.iconst 1, 1) := by decide +kernel
theorem d_Mo_authorise_18 : decode b_Mo_authorise 18 = .ok (.if_icmp .lt 10, 3) := by decide +kernel
theorem d_Mo_authorise_21 : decode b_Mo_authorise 21 = .ok (.iload 4, 2) := by decide +kernel
theorem d_Mo_authorise_23 : decode b_Mo_authorise 23 = .ok (.ldc 93, 2) := by decide +kernel
theorem d_Mo_authorise_25 : decode b_Mo_authorise 25 = .ok (.if_icmp .le 5, 3) := by decide +kernel
theorem d_Mo_authorise_28 : decode b_Mo_authorise 28 = .ok (.iconst (-1), 1) := by decide +kernel
theorem d_Mo_authorise_29 : decode b_Mo_authorise 29 = .ok (.ireturn, 1) := by decide +kernel
theorem d_Mo_authorise_30 : decode b_Mo_authorise 30 = .ok (.iload_n 1, 1) := by decide +kernel
theorem d_Mo_authorise_31 : decode b_Mo_authorise 31 = .ok (.sipush 10000, 3) := by decide +kernel
theorem d_Mo_authorise_34 : decode b_Mo_authorise 34 = .ok (.imul, 1) := by decide +kernel
theorem d_Mo_authorise_35 : decode b_Mo_authorise 35 = .ok (.iload_n 2, 1) := by decide +kernel
theorem d_Mo_authorise_36 : decode b_Mo_authorise 36 = .ok (.iadd, 1) := by decide +kernel
theorem d_Mo_authorise_37 : decode b_Mo_authorise 37 = .ok (.istore 6, 2) := by decide +kernel
theorem d_Mo_authorise_39 : decode b_Mo_authorise 39 = .ok (.aload_n 0, 1) := by decide +kernel
theorem d_Mo_authorise_40 : decode b_Mo_authorise 40 = .ok (.iload 6, 2) := by decide +kernel
theorem d_Mo_authorise_42 : decode b_Mo_authorise 42 = .ok (.invokevirtual 70, 3) := by decide +kernel
theorem d_Mo_authorise_45 : decode b_Mo_authorise 45 = .ok (.aload_n 0, 1) := by decide +kernel
theorem d_Mo_authorise_46 : decode b_Mo_authorise 46 = .ok (.getfield 50, 3) := by decide +kernel
theorem d_Mo_authorise_49 : decode b_Mo_authorise 49 = .ok (.iconst 5, 1) := by decide +kernel
theorem d_Mo_authorise_50 : decode b_Mo_authorise 50 = .ok (.if_icmp .ne 6, 3) := by decide +kernel
theorem d_Mo_authorise_53 : decode b_Mo_authorise 53 = .ok (.bipush (-8), 2) := by decide +kernel
theorem d_Mo_authorise_55 : decode b_Mo_authorise 55 = .ok (.ireturn, 1) := by decide +kernel
theorem d_Mo_authorise_56 : decode b_Mo_authorise 56 = .ok (.aload_n 0, 1) := by decide +kernel
theorem d_Mo_authorise_57 : decode b_Mo_authorise 57 = .ok (.getfield 50, 3) := by decide +kernel
theorem d_Mo_authorise_60 : decode b_Mo_authorise 60 = .ok (.ifCond .eq 71, 3) := by decide +kernel
theorem d_Mo_authorise_63 : decode b_Mo_authorise 63 = .ok (.aload_n 0, 1) := by decide +kernel
theorem d_Mo_authorise_64 : decode b_Mo_authorise 64 = .ok (.getfield 16, 3) := by decide +kernel
theorem d_Mo_authorise_67 : decode b_Mo_authorise 67 = .ok (.aload_n 0, 1) := by decide +kernel
theorem d_Mo_authorise_68 : decode b_Mo_authorise 68 = .ok (.getfield 59, 3) := by decide +kernel
theorem d_Mo_authorise_71 : decode b_Mo_authorise 71 = .ok (.iaload, 1) := by decide +kernel
theorem d_Mo_authorise_72 : decode b_Mo_authorise 72 = .ok (.iload_n 3, 1) := by decide +kernel
theorem d_Mo_authorise_73 : decode b_Mo_authorise 73 = .ok (.if_icmp .ne 35, 3) := by decide +kernel
theorem d_Mo_authorise_76 : decode b_Mo_authorise 76 = .ok (.aload_n 0, 1) := by decide +kernel
theorem d_Mo_authorise_77 : decode b_Mo_authorise 77 = .ok (.getfield 19, 3) := by decide +kernel
theorem d_Mo_authorise_80 : decode b_Mo_authorise 80 = .ok (.aload_n 0, 1) := by decide +kernel
theorem d_Mo_authorise_81 : decode b_Mo_authorise 81 = .ok (.getfield 59, 3) := by decide +kernel
theorem d_Mo_authorise_84 : decode b_Mo_authorise 84 = .ok (.iaload, 1) := by decide +kernel
theorem d_Mo_authorise_85 : decode b_Mo_authorise 85 = .ok (.iload 4, 2) := by decide +kernel
theorem d_Mo_authorise_87 : decode b_Mo_authorise 87 = .ok (.if_icmp .ne 21, 3) := by decide +kernel
theorem d_Mo_authorise_90 : decode b_Mo_authorise 90 = .ok (.aload_n 0, 1) := by decide +kernel
theorem d_Mo_authorise_91 : decode b_Mo_authorise 91 = .ok (.getfield 22, 3) := by decide +kernel
theorem d_Mo_authorise_94 : decode b_Mo_authorise 94 = .ok (.aload_n 0, 1) := by decide +kernel
theorem d_Mo_authorise_95 : decode b_Mo_authorise 95 = .ok (.getfield 59, 3) := by decide +kernel
theorem d_Mo_authorise_98 : decode b_Mo_authorise 98 = .ok (.baload, 1) := by decide +kernel
theorem d_Mo_authorise_99 : decode b_Mo_authorise 99 = .ok (.iload 5, 2) := by decide +kernel
theorem d_Mo_authorise_101 : decode b_Mo_authorise 101 = .ok (.if_icmp .ne 7, 3) := by decide +kernel
theorem d_Mo_authorise_104 : decode b_Mo_authorise 104 = .ok (.iconst 1, 1) := by decide +kernel
theorem d_Mo_authorise_105 : decode b_Mo_authorise 105 = .ok (.goto 4, 3) := by decide +kernel
theorem d_Mo_authorise_108 : decode b_Mo_authorise 108 = .ok (.iconst 0, 1) := by decide +kernel
theorem d_Mo_authorise_109 : decode b_Mo_authorise 109 = .ok (.istore 7, 2) := by decide +kernel
theorem d_Mo_authorise_111 : decode b_Mo_authorise 111 = .ok (.iload 7, 2) := by decide +kernel
theorem d_Mo_authorise_113 : decode b_Mo_authorise 113 = .ok (.ifCond .eq 15, 3) := by decide +kernel
theorem d_Mo_authorise_116 : decode b_Mo_authorise 116 = .ok (.aload_n 0, 1) := by decide +kernel
theorem d_Mo_authorise_117 : decode b_Mo_authorise 117 = .ok (.getfield 29, 3) := by decide +kernel
theorem d_Mo_authorise_120 : decode b_Mo_authorise 120 = .ok (.aload_n 0, 1) := by decide +kernel
theorem d_Mo_authorise_121 : decode b_Mo_authorise 121 = .ok (.getfield 59, 3) := by decide +kernel
theorem d_Mo_authorise_124 : decode b_Mo_authorise 124 = .ok (.iaload, 1) := by decide +kernel
theorem d_Mo_authorise_125 : decode b_Mo_authorise 125 = .ok (.goto 5, 3) := by decide +kernel
theorem d_Mo_authorise_128 : decode b_Mo_authorise 128 = .ok (.bipush (-2), 2) := by decide +kernel
theorem d_Mo_authorise_130 : decode b_Mo_authorise 130 = .ok (.ireturn, 1) := by decide +kernel
theorem d_Mo_authorise_131 : decode b_Mo_authorise 131 = .ok (.aload_n 0, 1) := by decide +kernel
theorem d_Mo_authorise_132 : decode b_Mo_authorise 132 = .ok (.invokevirtual 94, 3) := by decide +kernel
theorem d_Mo_authorise_135 : decode b_Mo_authorise 135 = .ok (.bipush 40, 2) := by decide +kernel
theorem d_Mo_authorise_137 : decode b_Mo_authorise 137 = .ok (.if_icmp .lt 6, 3) := by decide +kernel
theorem d_Mo_authorise_140 : decode b_Mo_authorise 140 = .ok (.bipush (-3), 2) := by decide +kernel
theorem d_Mo_authorise_142 : decode b_Mo_authorise 142 = .ok (.ireturn, 1) := by decide +kernel
theorem d_Mo_authorise_143 : decode b_Mo_authorise 143 = .ok (.aload_n 0, 1) := by decide +kernel
theorem d_Mo_authorise_144 : decode b_Mo_authorise 144 = .ok (.iload_n 3, 1) := by decide +kernel
theorem d_Mo_authorise_145 : decode b_Mo_authorise 145 = .ok (.iload 4, 2) := by decide +kernel
theorem d_Mo_authorise_147 : decode b_Mo_authorise 147 = .ok (.iload 5, 2) := by decide +kernel
theorem d_Mo_authorise_149 : decode b_Mo_authorise 149 = .ok (.invokevirtual 98, 3) := by decide +kernel
theorem d_Mo_authorise_152 : decode b_Mo_authorise 152 = .ok (.istore 7, 2) := by decide +kernel
theorem d_Mo_authorise_154 : decode b_Mo_authorise 154 = .ok (.aload_n 0, 1) := by decide +kernel
theorem d_Mo_authorise_155 : decode b_Mo_authorise 155 = .ok (.iload_n 3, 1) := by decide +kernel
theorem d_Mo_authorise_156 : decode b_Mo_authorise 156 = .ok (.invokevirtual 83, 3) := by decide +kernel
theorem d_Mo_authorise_159 : decode b_Mo_authorise 159 = .ok (.istore 8, 2) := by decide +kernel
theorem d_Mo_authorise_161 : decode b_Mo_authorise 161 = .ok (.aload_n 0, 1) := by decide +kernel
theorem d_Mo_authorise_162 : decode b_Mo_authorise 162 = .ok (.getfield 22, 3) := by decide +kernel
theorem d_Mo_authorise_165 : decode b_Mo_authorise 165 = .ok (.aload_n 0, 1) := by decide +kernel
theorem d_Mo_authorise_166 : decode b_Mo_authorise 166 = .ok (.getfield 38, 3) := by decide +kernel
theorem d_Mo_authorise_169 : decode b_Mo_authorise 169 = .ok (.iload 5, 2) := by decide +kernel
theorem d_Mo_authorise_171 : decode b_Mo_authorise 171 = .ok (.bastore, 1) := by decide +kernel
theorem d_Mo_authorise_172 : decode b_Mo_authorise 172 = .ok (.aload_n 0, 1) := by decide +kernel
theorem d_Mo_authorise_173 : decode b_Mo_authorise 173 = .ok (.getfield 29, 3) := by decide +kernel
theorem d_Mo_authorise_176 : decode b_Mo_authorise 176 = .ok (.aload_n 0, 1) := by decide +kernel
theorem d_Mo_authorise_177 : decode b_Mo_authorise 177 = .ok (.getfield 38, 3) := by decide +kernel
theorem d_Mo_authorise_180 : decode b_Mo_authorise 180 = .ok (.iload 7, 2) := by decide +kernel
theorem d_Mo_authorise_182 : decode b_Mo_authorise 182 = .ok (.iastore, 1) := by decide +kernel
theorem d_Mo_authorise_183 : decode b_Mo_authorise 183 = .ok (.aload_n 0, 1) := by decide +kernel
theorem d_Mo_authorise_184 : decode b_Mo_authorise 184 = .ok (.getfield 32, 3) := by decide +kernel
theorem d_Mo_authorise_187 : decode b_Mo_authorise 187 = .ok (.aload_n 0, 1) := by decide +kernel
theorem d_Mo_authorise_188 : decode b_Mo_authorise 188 = .ok (.getfield 38, 3) := by decide +kernel
theorem d_Mo_authorise_191 : decode b_Mo_authorise 191 = .ok (.iload 8, 2) := by decide +kernel
theorem d_Mo_authorise_193 : decode b_Mo_authorise 193 = .ok (.ifCond .ge 7, 3) := by decide +kernel
theorem d_Mo_authorise_196 : decode b_Mo_authorise 196 = .ok (.iconst 0, 1) := by decide +kernel
theorem d_Mo_authorise_197 : decode b_Mo_authorise 197 = .ok (.goto 10, 3) := by decide +kernel
theorem d_Mo_authorise_200 : decode b_Mo_authorise 200 = .ok (.aload_n 0, 1) := by decide +kernel
theorem d_Mo_authorise_201 : decode b_Mo_authorise 201 = .ok (.getfield 16, 3) := by decide +kernel
theorem d_Mo_authorise_204 : decode b_Mo_authorise 204 = .ok (.iload 8, 2) := by decide +kernel
theorem d_Mo_authorise_206 : decode b_Mo_authorise 206 = .ok (.iaload, 1) := by decide +kernel
theorem d_Mo_authorise_207 : decode b_Mo_authorise 207 = .ok (.iastore, 1) := by decide +kernel
theorem d_Mo_authorise_208 : decode b_Mo_authorise 208 = .ok (.aload_n 0, 1) := by decide +kernel
theorem d_Mo_authorise_209 : decode b_Mo_authorise 209 = .ok (.getfield 35, 3) := by decide +kernel
theorem d_Mo_authorise_212 : decode b_Mo_authorise 212 = .ok (.aload_n 0, 1) := by decide +kernel
theorem d_Mo_authorise_213 : decode b_Mo_authorise 213 = .ok (.getfield 38, 3) := by decide +kernel
theorem d_Mo_authorise_216 : decode b_Mo_authorise 216 = .ok (.iload 8, 2) := by decide +kernel
theorem d_Mo_authorise_218 : decode b_Mo_authorise 218 = .ok (.ifCond .ge 7, 3) := by decide +kernel
theorem d_Mo_authorise_221 : decode b_Mo_authorise 221 = .ok (.iconst 0, 1) := by decide +kernel
theorem d_Mo_authorise_222 : decode b_Mo_authorise 222 = .ok (.goto 10, 3) := by decide +kernel
theorem d_Mo_authorise_225 : decode b_Mo_authorise 225 = .ok (.aload_n 0, 1) := by decide +kernel
theorem d_Mo_authorise_226 : decode b_Mo_authorise 226 = .ok (.getfield 19, 3) := by decide +kernel
theorem d_Mo_authorise_229 : decode b_Mo_authorise 229 = .ok (.iload 8, 2) := by decide +kernel
theorem d_Mo_authorise_231 : decode b_Mo_authorise 231 = .ok (.iaload, 1) := by decide +kernel
theorem d_Mo_authorise_232 : decode b_Mo_authorise 232 = .ok (.iastore, 1) := by decide +kernel
theorem d_Mo_authorise_233 : decode b_Mo_authorise 233 = .ok (.aload_n 0, 1) := by decide +kernel
theorem d_Mo_authorise_234 : decode b_Mo_authorise 234 = .ok (.iconst 3, 1) := by decide +kernel
theorem d_Mo_authorise_235 : decode b_Mo_authorise 235 = .ok (.iload 6, 2) := by decide +kernel
theorem d_Mo_authorise_237 : decode b_Mo_authorise 237 = .ok (.iload_n 3, 1) := by decide +kernel
theorem d_Mo_authorise_238 : decode b_Mo_authorise 238 = .ok (.iload 4, 2) := by decide +kernel
theorem d_Mo_authorise_240 : decode b_Mo_authorise 240 = .ok (.invokevirtual 73, 3) := by decide +kernel
theorem d_Mo_authorise_243 : decode b_Mo_authorise 243 = .ok (.iload 7, 2) := by decide +kernel
theorem d_Mo_authorise_245 : decode b_Mo_authorise 245 = .ok (.ireturn, 1) := by decide +kernel
theorem d_Mo_reverse_0 : decode b_Mo_reverse 0 = .ok (.iload_n 1, 1) := by decide +kernel
theorem d_Mo_reverse_1 : decode b_Mo_reverse 1 = .ok (.iload_n 2, 1) := by decide +kernel
theorem d_Mo_reverse_2 : decode b_Mo_reverse 2 = .ok (.invokestatic 89, 3) := by decide +kernel
theorem d_Mo_reverse_5 : decode b_Mo_reverse 5 = .ok (.ifCond .ne 13, 3) := by decide +kernel
theorem d_Mo_reverse_8 : decode b_Mo_reverse 8 = .ok (.iload_n 3, 1) := by decide +kernel
theorem d_Mo_reverse_9 : decode b_Mo_reverse 9 = .ok (.ifCond .lt 9, 3) := by decide +kernel
theorem d_Mo_reverse_12 : decode b_Mo_reverse 12 = .ok (.iload_n 3, 1) := by decide +kernel
theorem d_Mo_reverse_13 : decode b_Mo_reverse 13 = .ok (.ldc 93, 2) := by decide +kernel
theorem d_Mo_reverse_15 : decode b_Mo_reverse 15 = .ok (.if_icmp .le 5, 3) := by decide +kernel
theorem d_Mo_reverse_18 : decode b_Mo_reverse 18 = .ok (.iconst (-1), 1) := by decide +kernel
theorem d_Mo_reverse_19 : decode b_Mo_reverse 19 = .ok (.ireturn, 1) := by decide +kernel
theorem d_Mo_reverse_20 : decode b_Mo_reverse 20 = .ok (.iload_n 1, 1) := by decide +kernel
theorem d_Mo_reverse_21 : decode b_Mo_reverse 21 = .ok (.sipush 10000, 3) := by decide +kernel
theorem d_Mo_reverse_24 : decode b_Mo_reverse 24 = .ok (.imul, 1) := by decide +kernel
theorem d_Mo_reverse_25 : decode b_Mo_reverse 25 = .ok (.iload_n 2, 1) := by decide +kernel
theorem d_Mo_reverse_26 : decode b_Mo_reverse 26 = .ok (.iadd, 1) := by decide +kernel
theorem d_Mo_reverse_27 : decode b_Mo_reverse 27 = .ok (.istore 4, 2) := by decide +kernel
theorem d_Mo_reverse_29 : decode b_Mo_reverse 29 = .ok (.aload_n 0, 1) := by decide +kernel
theorem d_Mo_reverse_30 : decode b_Mo_reverse 30 = .ok (.iload 4, 2) := by decide +kernel
theorem d_Mo_reverse_32 : decode b_Mo_reverse 32 = .ok (.invokevirtual 70, 3) := by decide +kernel
theorem d_Mo_reverse_35 : decode b_Mo_reverse 35 = .ok (.aload_n 0, 1) := by decide +kernel
theorem d_Mo_reverse_36 : decode b_Mo_reverse 36 = .ok (.getfield 50, 3) := by decide +kernel
theorem d_Mo_reverse_39 : decode b_Mo_reverse 39 = .ok (.ifCond .ne 26, 3) := by decide +kernel
theorem d_Mo_reverse_42 : decode b_Mo_reverse 42 = .ok (.aload_n 0, 1) := by decide +kernel
theorem d_Mo_reverse_43 : decode b_Mo_reverse 43 = .ok (.invokevirtual 94, 3) := by decide +kernel
theorem d_Mo_reverse_46 : decode b_Mo_reverse 46 = .ok (.bipush 40, 2) := by decide +kernel
theorem d_Mo_reverse_48 : decode b_Mo_reverse 48 = .ok (.if_icmp .lt 6, 3) := by decide +kernel
theorem d_Mo_reverse_51 : decode b_Mo_reverse 51 = .ok (.bipush (-3), 2) := by decide +kernel
theorem d_Mo_reverse_53 : decode b_Mo_reverse 53 = .ok (.ireturn, 1) := by decide +kernel
theorem d_Mo_reverse_54 : decode b_Mo_reverse 54 = .ok (.aload_n 0, 1) := by decide +kernel
theorem d_Mo_reverse_55 : decode b_Mo_reverse 55 = .ok (.iconst 4, 1) := by decide +kernel
theorem d_Mo_reverse_56 : decode b_Mo_reverse 56 = .ok (.iload 4, 2) := by decide +kernel
theorem d_Mo_reverse_58 : decode b_Mo_reverse 58 = .ok (.iconst 0, 1) := by decide +kernel
theorem d_Mo_reverse_59 : decode b_Mo_reverse 59 = .ok (.iconst 0, 1) := by decide +kernel
theorem d_Mo_reverse_60 : decode b_Mo_reverse 60 = .ok (.invokevirtual 73, 3) := by decide +kernel
theorem d_Mo_reverse_63 : decode b_Mo_reverse 63 = .ok (.iconst 0, 1) := by decide +kernel
theorem d_Mo_reverse_64 : decode b_Mo_reverse 64 = .ok (.ireturn, 1) := by decide +kernel
theorem d_Mo_reverse_65 : decode b_Mo_reverse 65 = .ok (.aload_n 0, 1) := by decide +kernel
theorem d_Mo_reverse_66 : decode b_Mo_reverse 66 = .ok (.getfield 50, 3) := by decide +kernel
theorem d_Mo_reverse_69 : decode b_Mo_reverse 69 = .ok (.bipush 6, 2) := by decide +kernel
theorem d_Mo_reverse_71 : decode b_Mo_reverse 71 = .ok (.if_icmp .lt 6, 3) := by decide +kernel
theorem d_Mo_reverse_74 : decode b_Mo_reverse 74 = .ok (.bipush (-9), 2) := by decide +kernel
theorem d_Mo_reverse_76 : decode b_Mo_reverse 76 = .ok (.ireturn, 1) := by decide +kernel
theorem d_Mo_reverse_77 : decode b_Mo_reverse 77 = .ok (.aload_n 0, 1) := by decide +kernel
theorem d_Mo_reverse_78 : decode b_Mo_reverse 78 = .ok (.getfield 50, 3) := by decide +kernel
theorem d_Mo_reverse_81 : decode b_Mo_reverse 81 = .ok (.iconst 2, 1) := by decide +kernel
theorem d_Mo_reverse_82 : decode b_Mo_reverse 82 = .ok (.if_icmp .eq 11, 3) := by decide +kernel
theorem d_Mo_reverse_85 : decode b_Mo_reverse 85 = .ok (.aload_n 0, 1) := by decide +kernel
theorem d_Mo_reverse_86 : decode b_Mo_reverse 86 = .ok (.getfield 50, 3) := by decide +kernel
theorem d_Mo_reverse_89 : decode b_Mo_reverse 89 = .ok (.iconst 3, 1) := by decide +kernel
theorem d_Mo_reverse_90 : decode b_Mo_reverse 90 = .ok (.if_icmp .ne 11, 3) := by decide +kernel
theorem d_Mo_reverse_93 : decode b_Mo_reverse 93 = .ok (.aload_n 0, 1) := by decide +kernel
theorem d_Mo_reverse_94 : decode b_Mo_reverse 94 = .ok (.getfield 53, 3) := by decide +kernel
theorem d_Mo_reverse_97 : decode b_Mo_reverse 97 = .ok (.iload_n 3, 1) := by decide +kernel
theorem d_Mo_reverse_98 : decode b_Mo_reverse 98 = .ok (.if_icmp .gt 5, 3) := by decide +kernel
theorem d_Mo_reverse_101 : decode b_Mo_reverse 101 = .ok (.iconst 0, 1) := by decide +kernel
theorem d_Mo_reverse_102 : decode b_Mo_reverse 102 = .ok (.ireturn, 1) := by decide +kernel
theorem d_Mo_reverse_103 : decode b_Mo_reverse 103 = .ok (.aload_n 0, 1) := by decide +kernel
theorem d_Mo_reverse_104 : decode b_Mo_reverse 104 = .ok (.getfield 53, 3) := by decide +kernel
theorem d_Mo_reverse_107 : decode b_Mo_reverse 107 = .ok (.iload_n 3, 1) := by decide +kernel
theorem d_Mo_reverse_108 : decode b_Mo_reverse 108 = .ok (.isub, 1) := by decide +kernel
theorem d_Mo_reverse_109 : decode b_Mo_reverse 109 = .ok (.istore 5, 2) := by decide +kernel
theorem d_Mo_reverse_111 : decode b_Mo_reverse 111 = .ok (.aload_n 0, 1) := by decide +kernel
theorem d_Mo_reverse_112 : decode b_Mo_reverse 112 = .ok (.iconst 5, 1) := by decide +kernel
theorem d_Mo_reverse_113 : decode b_Mo_reverse 113 = .ok (.iload 4, 2) := by decide +kernel
theorem d_Mo_reverse_115 : decode b_Mo_reverse 115 = .ok (.iload_n 3, 1) := by decide +kernel
theorem d_Mo_reverse_116 : decode b_Mo_reverse 116 = .ok (.iconst 0, 1) := by decide +kernel
theorem d_Mo_reverse_117 : decode b_Mo_reverse 117 = .ok (.invokevirtual 73, 3) := by decide +kernel
theorem d_Mo_reverse_120 : decode b_Mo_reverse 120 = .ok (.iload 5, 2) := by decide +kernel
theorem d_Mo_reverse_122 : decode b_Mo_reverse 122 = .ok (.ireturn, 1) := by decide +kernel
theorem d_Mo_present_0 : decode b_Mo_present 0 = .ok (.iload_n 1, 1) := by decide +kernel
theorem d_Mo_present_1 : decode b_Mo_present 1 = .ok (.iload_n 2, 1) := by decide +kernel
theorem d_Mo_present_2 : decode b_Mo_present 2 = .ok (.invokestatic 89, 3) := by decide +kernel
theorem d_Mo_present_5 : decode b_Mo_present 5 = .ok (.ifCond .ne 14, 3) := by decide +kernel
theorem d_Mo_present_8 : decode b_Mo_present 8 = .ok (.iload_n 3, 1) := by decide +kernel
theorem d_Mo_present_9 : decode b_Mo_present 9 = .ok (.iconst 1, 1) := by decide +kernel
theorem d_Mo_present_10 : decode b_Mo_present 10 = .ok (.if_icmp .lt 9, 3) := by decide +kernel
theorem d_Mo_present_13 : decode b_Mo_present 13 = .ok (.iload_n 3, 1) := by decide +kernel
theorem d_Mo_present_14 : decode b_Mo_present 14 = .ok (.ldc 93, 2) := by decide +kernel
theorem d_Mo_present_16 : decode b_Mo_present 16 = .ok (.if_icmp .le 5, 3) := by decide +kernel
theorem d_Mo_present_19 : decode b_Mo_present 19 = .ok (.iconst (-1), 1) := by decide +kernel
theorem d_Mo_present_20 : decode b_Mo_present 20 = .ok (.ireturn, 1) := by decide +kernel
theorem d_Mo_present_21 : decode b_Mo_present 21 = .ok (.iload_n 1, 1) := by decide +kernel
theorem d_Mo_present_22 : decode b_Mo_present 22 = .ok (.sipush 10000, 3) := by decide +kernel
theorem d_Mo_present_25 : decode b_Mo_present 25 = .ok (.imul, 1) := by decide +kernel
theorem d_Mo_present_26 : decode b_Mo_present 26 = .ok (.iload_n 2, 1) := by decide +kernel
theorem d_Mo_present_27 : decode b_Mo_present 27 = .ok (.iadd, 1) := by decide +kernel
theorem d_Mo_present_28 : decode b_Mo_present 28 = .ok (.istore 4, 2) := by decide +kernel
theorem d_Mo_present_30 : decode b_Mo_present 30 = .ok (.aload_n 0, 1) := by decide +kernel
theorem d_Mo_present_31 : decode b_Mo_present 31 = .ok (.iload 4, 2) := by decide +kernel
theorem d_Mo_present_33 : decode b_Mo_present 33 = .ok (.invokevirtual 70, 3) := by decide +kernel
theorem d_Mo_present_36 : decode b_Mo_present 36 = .ok (.aload_n 0, 1) := by decide +kernel
theorem d_Mo_present_37 : decode b_Mo_present 37 = .ok (.getfield 50, 3) := by decide +kernel
theorem d_Mo_present_40 : decode b_Mo_present 40 = .ok (.bipush 6, 2) := by decide +kernel
theorem d_Mo_present_42 : decode b_Mo_present 42 = .ok (.if_icmp .lt 30, 3) := by decide +kernel
theorem d_Mo_present_45 : decode b_Mo_present 45 = .ok (.aload_n 0, 1) := by decide +kernel
theorem d_Mo_present_46 : decode b_Mo_present 46 = .ok (.getfield 53, 3) := by decide +kernel
theorem d_Mo_present_49 : decode b_Mo_present 49 = .ok (.iload_n 3, 1) := by decide +kernel
theorem d_Mo_present_50 : decode b_Mo_present 50 = .ok (.if_icmp .ne 19, 3) := by decide +kernel
theorem d_Mo_present_53 : decode b_Mo_present 53 = .ok (.iload_n 3, 1) := by decide +kernel
theorem d_Mo_present_54 : decode b_Mo_present 54 = .ok (.aload_n 0, 1) := by decide +kernel
theorem d_Mo_present_55 : decode b_Mo_present 55 = .ok (.getfield 35, 3) := by decide +kernel
theorem d_Mo_present_58 : decode b_Mo_present 58 = .ok (.aload_n 0, 1) := by decide +kernel
theorem d_Mo_present_59 : decode b_Mo_present 59 = .ok (.getfield 59, 3) := by decide +kernel
theorem d_Mo_present_62 : decode b_Mo_present 62 = .ok (.iaload, 1) := by decide +kernel
theorem d_Mo_present_63 : decode b_Mo_present 63 = .ok (.invokestatic 102, 3) := by decide +kernel
theorem d_Mo_present_66 : decode b_Mo_present 66 = .ok (.goto 5, 3) := by decide +kernel
theorem d_Mo_present_69 : decode b_Mo_present 69 = .ok (.bipush (-2), 2) := by decide +kernel
theorem d_Mo_present_71 : decode b_Mo_present 71 = .ok (.ireturn, 1) := by decide +kernel
theorem d_Mo_present_72 : decode b_Mo_present 72 = .ok (.aload_n 0, 1) := by decide +kernel
theorem d_Mo_present_73 : decode b_Mo_present 73 = .ok (.getfield 50, 3) := by decide +kernel
theorem d_Mo_present_76 : decode b_Mo_present 76 = .ok (.iconst 2, 1) := by decide +kernel
theorem d_Mo_present_77 : decode b_Mo_present 77 = .ok (.if_icmp .eq 14, 3) := by decide +kernel
theorem d_Mo_present_80 : decode b_Mo_present 80 = .ok (.aload_n 0, 1) := by decide +kernel
theorem d_Mo_present_81 : decode b_Mo_present 81 = .ok (.getfield 50, 3) := by decide +kernel
theorem d_Mo_present_84 : decode b_Mo_present 84 = .ok (.iconst 3, 1) := by decide +kernel
theorem d_Mo_present_85 : decode b_Mo_present 85 = .ok (.if_icmp .eq 6, 3) := by decide +kernel
theorem d_Mo_present_88 : decode b_Mo_present 88 = .ok (.bipush (-11), 2) := by decide +kernel
theorem d_Mo_present_90 : decode b_Mo_present 90 = .ok (.ireturn, 1) := by decide +kernel
theorem d_Mo_present_91 : decode b_Mo_present 91 = .ok (.iload_n 3, 1) := by decide +kernel
theorem d_Mo_present_92 : decode b_Mo_present 92 = .ok (.aload_n 0, 1) := by decide +kernel
theorem d_Mo_present_93 : decode b_Mo_present 93 = .ok (.getfield 53, 3) := by decide +kernel
theorem d_Mo_present_96 : decode b_Mo_present 96 = .ok (.if_icmp .le 6, 3) := by decide +kernel
theorem d_Mo_present_99 : decode b_Mo_present 99 = .ok (.bipush (-10), 2) := by decide +kernel
theorem d_Mo_present_101 : decode b_Mo_present 101 = .ok (.ireturn, 1) := by decide +kernel
theorem d_Mo_present_102 : decode b_Mo_present 102 = .ok (.aload_n 0, 1) := by decide +kernel
theorem d_Mo_present_103 : decode b_Mo_present 103 = .ok (.getfield 59, 3) := by decide +kernel
theorem d_Mo_present_106 : decode b_Mo_present 106 = .ok (.istore 5, 2) := by decide +kernel
theorem d_Mo_present_108 : decode b_Mo_present 108 = .ok (.aload_n 0, 1) := by decide +kernel
theorem d_Mo_present_109 : decode b_Mo_present 109 = .ok (.getfield 50, 3) := by decide +kernel
theorem d_Mo_present_112 : decode b_Mo_present 112 = .ok (.iconst 3, 1) := by decide +kernel
theorem d_Mo_present_113 : decode b_Mo_present 113 = .ok (.if_icmp .ne 7, 3) := by decide +kernel
theorem d_Mo_present_116 : decode b_Mo_present 116 = .ok (.iconst 1, 1) := by decide +kernel
theorem d_Mo_present_117 : decode b_Mo_present 117 = .ok (.goto 4, 3) := by decide +kernel
theorem d_Mo_present_120 : decode b_Mo_present 120 = .ok (.iconst 0, 1) := by decide +kernel
theorem d_Mo_present_121 : decode b_Mo_present 121 = .ok (.istore 6, 2) := by decide +kernel
theorem d_Mo_present_123 : decode b_Mo_present 123 = .ok (.iload 6, 2) := by decide +kernel
theorem d_Mo_present_125 : decode b_Mo_present 125 = .ok (.ifCond .eq 21, 3) := by decide +kernel
theorem d_Mo_present_128 : decode b_Mo_present 128 = .ok (.aload_n 0, 1) := by decide +kernel
theorem d_Mo_present_129 : decode b_Mo_present 129 = .ok (.aload_n 0, 1) := by decide +kernel
theorem d_Mo_present_130 : decode b_Mo_present 130 = .ok (.getfield 16, 3) := by decide +kernel
theorem d_Mo_present_133 : decode b_Mo_present 133 = .ok (.iload 5, 2) := by decide +kernel
theorem d_Mo_present_135 : decode b_Mo_present 135 = .ok (.iaload, 1) := by decide +kernel
theorem d_Mo_present_136 : decode b_Mo_present 136 = .ok (.invokevirtual 86, 3) := by decide +kernel
theorem d_Mo_present_139 : decode b_Mo_present 139 = .ok (.iload_n 3, 1) := by decide +kernel
theorem d_Mo_present_140 : decode b_Mo_present 140 = .ok (.if_icmp .ge 6, 3) := by decide +kernel
theorem d_Mo_present_143 : decode b_Mo_present 143 = .ok (.bipush (-7), 2) := by decide +kernel
theorem d_Mo_present_145 : decode b_Mo_present 145 = .ok (.ireturn, 1) := by decide +kernel
theorem d_Mo_present_146 : decode b_Mo_present 146 = .ok (.aload_n 0, 1) := by decide +kernel
theorem d_Mo_present_147 : decode b_Mo_present 147 = .ok (.bipush 6, 2) := by decide +kernel
theorem d_Mo_present_149 : decode b_Mo_present 149 = .ok (.iload 4, 2) := by decide +kernel
theorem d_Mo_present_151 : decode b_Mo_present 151 = .ok (.iload_n 3, 1) := by decide +kernel
theorem d_Mo_present_152 : decode b_Mo_present 152 = .ok (.iload 5, 2) := by decide +kernel
theorem d_Mo_present_154 : decode b_Mo_present 154 = .ok (.invokevirtual 73, 3) := by decide +kernel
theorem d_Mo_present_157 : decode b_Mo_present 157 = .ok (.iload_n 3, 1) := by decide +kernel
theorem d_Mo_present_158 : decode b_Mo_present 158 = .ok (.aload_n 0, 1) := by decide +kernel
theorem d_Mo_present_159 : decode b_Mo_present 159 = .ok (.getfield 35, 3) := by decide +kernel
theorem d_Mo_present_162 : decode b_Mo_present 162 = .ok (.iload 5, 2) := by decide +kernel
theorem d_Mo_present_164 : decode b_Mo_present 164 = .ok (.iaload, 1) := by decide +kernel
theorem d_Mo_present_165 : decode b_Mo_present 165 = .ok (.invokestatic 102, 3) := by decide +kernel
theorem d_Mo_present_168 : decode b_Mo_present 168 = .ok (.ireturn, 1) := by decide +kernel
theorem d_Mo_chargeback_0 : decode b_Mo_chargeback 0 = .ok (.iload_n 1, 1) := by decide +kernel
theorem d_Mo_chargeback_1 : decode b_Mo_chargeback 1 = .ok (.iload_n 2, 1) := by decide +kernel
theorem d_Mo_chargeback_2 : decode b_Mo_chargeback 2 = .ok (.invokestatic 89, 3) := by decide +kernel
theorem d_Mo_chargeback_5 : decode b_Mo_chargeback 5 = .ok (.ifCond .eq 5, 3) := by decide +kernel
theorem d_Mo_chargeback_8 : decode b_Mo_chargeback 8 = .ok (.iconst (-1), 1) := by decide +kernel
theorem d_Mo_chargeback_9 : decode b_Mo_chargeback 9 = .ok (.ireturn, 1) := by decide +kernel
theorem d_Mo_chargeback_10 : decode b_Mo_chargeback 10 = .ok (.iload_n 1, 1) := by decide +kernel
theorem d_Mo_chargeback_11 : decode b_Mo_chargeback 11 = .ok (.sipush 10000, 3) := by decide +kernel
theorem d_Mo_chargeback_14 : decode b_Mo_chargeback 14 = .ok (.imul, 1) := by decide +kernel
theorem d_Mo_chargeback_15 : decode b_Mo_chargeback 15 = .ok (.iload_n 2, 1) := by decide +kernel
theorem d_Mo_chargeback_16 : decode b_Mo_chargeback 16 = .ok (.iadd, 1) := by decide +kernel
theorem d_Mo_chargeback_17 : decode b_Mo_chargeback 17 = .ok (.istore_n 3, 1) := by decide +kernel
theorem d_Mo_chargeback_18 : decode b_Mo_chargeback 18 = .ok (.aload_n 0, 1) := by decide +kernel
theorem d_Mo_chargeback_19 : decode b_Mo_chargeback 19 = .ok (.iload_n 3, 1) := by decide +kernel
theorem d_Mo_chargeback_20 : decode b_Mo_chargeback 20 = .ok (.invokevirtual 70, 3) := by decide +kernel
theorem d_Mo_chargeback_23 : decode b_Mo_chargeback 23 = .ok (.aload_n 0, 1) := by decide +kernel
theorem d_Mo_chargeback_24 : decode b_Mo_chargeback 24 = .ok (.getfield 50, 3) := by decide +kernel
theorem d_Mo_chargeback_27 : decode b_Mo_chargeback 27 = .ok (.iconst 5, 1) := by decide +kernel
theorem d_Mo_chargeback_28 : decode b_Mo_chargeback 28 = .ok (.if_icmp .gt 6, 3) := by decide +kernel
theorem d_Mo_chargeback_31 : decode b_Mo_chargeback 31 = .ok (.bipush (-11), 2) := by decide +kernel
theorem d_Mo_chargeback_33 : decode b_Mo_chargeback 33 = .ok (.ireturn, 1) := by decide +kernel
theorem d_Mo_chargeback_34 : decode b_Mo_chargeback 34 = .ok (.aload_n 0, 1) := by decide +kernel
theorem d_Mo_chargeback_35 : decode b_Mo_chargeback 35 = .ok (.getfield 50, 3) := by decide +kernel
theorem d_Mo_chargeback_38 : decode b_Mo_chargeback 38 = .ok (.bipush 7, 2) := by decide +kernel
theorem d_Mo_chargeback_40 : decode b_Mo_chargeback 40 = .ok (.if_icmp .lt 5, 3) := by decide +kernel
theorem d_Mo_chargeback_43 : decode b_Mo_chargeback 43 = .ok (.iconst 0, 1) := by decide +kernel
theorem d_Mo_chargeback_44 : decode b_Mo_chargeback 44 = .ok (.ireturn, 1) := by decide +kernel
theorem d_Mo_chargeback_45 : decode b_Mo_chargeback 45 = .ok (.aload_n 0, 1) := by decide +kernel
theorem d_Mo_chargeback_46 : decode b_Mo_chargeback 46 = .ok (.getfield 42, 3) := by decide +kernel
theorem d_Mo_chargeback_49 : decode b_Mo_chargeback 49 = .ok (.aload_n 0, 1) := by decide +kernel
theorem d_Mo_chargeback_50 : decode b_Mo_chargeback 50 = .ok (.getfield 56, 3) := by decide +kernel
theorem d_Mo_chargeback_53 : decode b_Mo_chargeback 53 = .ok (.bipush 30, 2) := by decide +kernel
theorem d_Mo_chargeback_55 : decode b_Mo_chargeback 55 = .ok (.iadd, 1) := by decide +kernel
theorem d_Mo_chargeback_56 : decode b_Mo_chargeback 56 = .ok (.if_icmp .le 6, 3) := by decide +kernel
theorem d_Mo_chargeback_59 : decode b_Mo_chargeback 59 = .ok (.bipush (-9), 2) := by decide +kernel
theorem d_Mo_chargeback_61 : decode b_Mo_chargeback 61 = .ok (.ireturn, 1) := by decide +kernel
theorem d_Mo_chargeback_62 : decode b_Mo_chargeback 62 = .ok (.aload_n 0, 1) := by decide +kernel
theorem d_Mo_chargeback_63 : decode b_Mo_chargeback 63 = .ok (.bipush 7, 2) := by decide +kernel
theorem d_Mo_chargeback_65 : decode b_Mo_chargeback 65 = .ok (.iload_n 3, 1) := by decide +kernel
theorem d_Mo_chargeback_66 : decode b_Mo_chargeback 66 = .ok (.aload_n 0, 1) := by decide +kernel
theorem d_Mo_chargeback_67 : decode b_Mo_chargeback 67 = .ok (.getfield 53, 3) := by decide +kernel
theorem d_Mo_chargeback_70 : decode b_Mo_chargeback 70 = .ok (.aload_n 0, 1) := by decide +kernel
theorem d_Mo_chargeback_71 : decode b_Mo_chargeback 71 = .ok (.getfield 59, 3) := by decide +kernel
theorem d_Mo_chargeback_74 : decode b_Mo_chargeback 74 = .ok (.invokevirtual 73, 3) := by decide +kernel
theorem d_Mo_chargeback_77 : decode b_Mo_chargeback 77 = .ok (.aload_n 0, 1) := by decide +kernel
theorem d_Mo_chargeback_78 : decode b_Mo_chargeback 78 = .ok (.getfield 53, 3) := by decide +kernel
theorem d_Mo_chargeback_81 : decode b_Mo_chargeback 81 = .ok (.ireturn, 1) := by decide +kernel
theorem d_Mo_represent_0 : decode b_Mo_represent 0 = .ok (.iload_n 1, 1) := by decide +kernel
theorem d_Mo_represent_1 : decode b_Mo_represent 1 = .ok (.iload_n 2, 1) := by decide +kernel
theorem d_Mo_represent_2 : decode b_Mo_represent 2 = .ok (.invokestatic 89, 3) := by decide +kernel
theorem d_Mo_represent_5 : decode b_Mo_represent 5 = .ok (.ifCond .eq 5, 3) := by decide +kernel
theorem d_Mo_represent_8 : decode b_Mo_represent 8 = .ok (.iconst (-1), 1) := by decide +kernel
theorem d_Mo_represent_9 : decode b_Mo_represent 9 = .ok (.ireturn, 1) := by decide +kernel
theorem d_Mo_represent_10 : decode b_Mo_represent 10 = .ok (.iload_n 1, 1) := by decide +kernel
theorem d_Mo_represent_11 : decode b_Mo_represent 11 = .ok (.sipush 10000, 3) := by decide +kernel
theorem d_Mo_represent_14 : decode b_Mo_represent 14 = .ok (.imul, 1) := by decide +kernel
theorem d_Mo_represent_15 : decode b_Mo_represent 15 = .ok (.iload_n 2, 1) := by decide +kernel
theorem d_Mo_represent_16 : decode b_Mo_represent 16 = .ok (.iadd, 1) := by decide +kernel
theorem d_Mo_represent_17 : decode b_Mo_represent 17 = .ok (.istore_n 3, 1) := by decide +kernel
theorem d_Mo_represent_18 : decode b_Mo_represent 18 = .ok (.aload_n 0, 1) := by decide +kernel
theorem d_Mo_represent_19 : decode b_Mo_represent 19 = .ok (.iload_n 3, 1) := by decide +kernel
theorem d_Mo_represent_20 : decode b_Mo_represent 20 = .ok (.invokevirtual 70, 3) := by decide +kernel
theorem d_Mo_represent_23 : decode b_Mo_represent 23 = .ok (.aload_n 0, 1) := by decide +kernel
theorem d_Mo_represent_24 : decode b_Mo_represent 24 = .ok (.getfield 50, 3) := by decide +kernel
theorem d_Mo_represent_27 : decode b_Mo_represent 27 = .ok (.bipush 7, 2) := by decide +kernel
theorem d_Mo_represent_29 : decode b_Mo_represent 29 = .ok (.if_icmp .eq 33, 3) := by decide +kernel
theorem d_Mo_represent_32 : decode b_Mo_represent 32 = .ok (.aload_n 0, 1) := by decide +kernel
theorem d_Mo_represent_33 : decode b_Mo_represent 33 = .ok (.getfield 50, 3) := by decide +kernel
theorem d_Mo_represent_36 : decode b_Mo_represent 36 = .ok (.bipush 8, 2) := by decide +kernel
theorem d_Mo_represent_38 : decode b_Mo_represent 38 = .ok (.if_icmp .ne 7, 3) := by decide +kernel
theorem d_Mo_represent_41 : decode b_Mo_represent 41 = .ok (.iconst 0, 1) := by decide +kernel
theorem d_Mo_represent_42 : decode b_Mo_represent 42 = .ok (.goto 19, 3) := by decide +kernel
theorem d_Mo_represent_45 : decode b_Mo_represent 45 = .ok (.aload_n 0, 1) := by decide +kernel
theorem d_Mo_represent_46 : decode b_Mo_represent 46 = .ok (.getfield 50, 3) := by decide +kernel
theorem d_Mo_represent_49 : decode b_Mo_represent 49 = .ok (.bipush 9, 2) := by decide +kernel
theorem d_Mo_represent_51 : decode b_Mo_represent 51 = .ok (.if_icmp .ne 8, 3) := by decide +kernel
theorem d_Mo_represent_54 : decode b_Mo_represent 54 = .ok (.bipush (-9), 2) := by decide +kernel
theorem d_Mo_represent_56 : decode b_Mo_represent 56 = .ok (.goto 5, 3) := by decide +kernel
theorem d_Mo_represent_59 : decode b_Mo_represent 59 = .ok (.bipush (-11), 2) := by decide +kernel
theorem d_Mo_represent_61 : decode b_Mo_represent 61 = .ok (.ireturn, 1) := by decide +kernel
theorem d_Mo_represent_62 : decode b_Mo_represent 62 = .ok (.aload_n 0, 1) := by decide +kernel
theorem d_Mo_represent_63 : decode b_Mo_represent 63 = .ok (.bipush 8, 2) := by decide +kernel
theorem d_Mo_represent_65 : decode b_Mo_represent 65 = .ok (.iload_n 3, 1) := by decide +kernel
theorem d_Mo_represent_66 : decode b_Mo_represent 66 = .ok (.aload_n 0, 1) := by decide +kernel
theorem d_Mo_represent_67 : decode b_Mo_represent 67 = .ok (.getfield 53, 3) := by decide +kernel
theorem d_Mo_represent_70 : decode b_Mo_represent 70 = .ok (.aload_n 0, 1) := by decide +kernel
theorem d_Mo_represent_71 : decode b_Mo_represent 71 = .ok (.getfield 59, 3) := by decide +kernel
theorem d_Mo_represent_74 : decode b_Mo_represent 74 = .ok (.invokevirtual 73, 3) := by decide +kernel
theorem d_Mo_represent_77 : decode b_Mo_represent 77 = .ok (.aload_n 0, 1) := by decide +kernel
theorem d_Mo_represent_78 : decode b_Mo_represent 78 = .ok (.getfield 53, 3) := by decide +kernel
theorem d_Mo_represent_81 : decode b_Mo_represent 81 = .ok (.ireturn, 1) := by decide +kernel
theorem d_Mo_reconcile_0 : decode b_Mo_reconcile 0 = .ok (.iload_n 1, 1) := by decide +kernel
theorem d_Mo_reconcile_1 : decode b_Mo_reconcile 1 = .ok (.ifCond .lt 8, 3) := by decide +kernel
theorem d_Mo_reconcile_4 : decode b_Mo_reconcile 4 = .ok (.iload_n 1, 1) := by decide +kernel
theorem d_Mo_reconcile_5 : decode b_Mo_reconcile 5 = .ok (.iconst 3, 1) := by decide +kernel
theorem d_Mo_reconcile_6 : decode b_Mo_reconcile 6 = .ok (.if_icmp .le 5, 3) := by decide +kernel
theorem d_Mo_reconcile_9 : decode b_Mo_reconcile 9 = .ok (.iconst 0, 1) := by decide +kernel
theorem d_Mo_reconcile_10 : decode b_Mo_reconcile 10 = .ok (.ireturn, 1) := by decide +kernel
theorem d_Mo_reconcile_11 : decode b_Mo_reconcile 11 = .ok (.iconst 0, 1) := by decide +kernel
theorem d_Mo_reconcile_12 : decode b_Mo_reconcile 12 = .ok (.istore 5, 2) := by decide +kernel
theorem d_Mo_reconcile_14 : decode b_Mo_reconcile 14 = .ok (.lconst 0, 1) := by decide +kernel
theorem d_Mo_reconcile_15 : decode b_Mo_reconcile 15 = .ok (.lstore 6, 2) := by decide +kernel
theorem d_Mo_reconcile_17 : decode b_Mo_reconcile 17 = .ok (.aload_n 0, 1) := by decide +kernel
theorem d_Mo_reconcile_18 : decode b_Mo_reconcile 18 = .ok (.invokevirtual 106, 3) := by decide +kernel
theorem d_Mo_reconcile_21 : decode b_Mo_reconcile 21 = .ok (.iconst 1, 1) := by decide +kernel
theorem d_Mo_reconcile_22 : decode b_Mo_reconcile 22 = .ok (.iadd, 1) := by decide +kernel
theorem d_Mo_reconcile_23 : decode b_Mo_reconcile 23 = .ok (.istore 8, 2) := by decide +kernel
theorem d_Mo_reconcile_25 : decode b_Mo_reconcile 25 = .ok (.iload 8, 2) := by decide +kernel
theorem d_Mo_reconcile_27 : decode b_Mo_reconcile 27 = .ok (.aload_n 0, 1) := by decide +kernel
theorem d_Mo_reconcile_28 : decode b_Mo_reconcile 28 = .ok (.getfield 38, 3) := by decide +kernel
theorem d_Mo_reconcile_31 : decode b_Mo_reconcile 31 = .ok (.if_icmp .ge 55, 3) := by decide +kernel
theorem d_Mo_reconcile_34 : decode b_Mo_reconcile 34 = .ok (.aload_n 0, 1) := by decide +kernel
theorem d_Mo_reconcile_35 : decode b_Mo_reconcile 35 = .ok (.getfield 7, 3) := by decide +kernel
theorem d_Mo_reconcile_38 : decode b_Mo_reconcile 38 = .ok (.iload 8, 2) := by decide +kernel
theorem d_Mo_reconcile_40 : decode b_Mo_reconcile 40 = .ok (.iaload, 1) := by decide +kernel
theorem d_Mo_reconcile_41 : decode b_Mo_reconcile 41 = .ok (.bipush 6, 2) := by decide +kernel
theorem d_Mo_reconcile_43 : decode b_Mo_reconcile 43 = .ok (.if_icmp .ne 37, 3) := by decide +kernel
theorem d_Mo_reconcile_46 : decode b_Mo_reconcile 46 = .ok (.aload_n 0, 1) := by decide +kernel
theorem d_Mo_reconcile_47 : decode b_Mo_reconcile 47 = .ok (.getfield 13, 3) := by decide +kernel
theorem d_Mo_reconcile_50 : decode b_Mo_reconcile 50 = .ok (.iload 8, 2) := by decide +kernel
theorem d_Mo_reconcile_52 : decode b_Mo_reconcile 52 = .ok (.iaload, 1) := by decide +kernel
theorem d_Mo_reconcile_53 : decode b_Mo_reconcile 53 = .ok (.sipush 10000, 3) := by decide +kernel
theorem d_Mo_reconcile_56 : decode b_Mo_reconcile 56 = .ok (.idiv, 1) := by decide +kernel
theorem d_Mo_reconcile_57 : decode b_Mo_reconcile 57 = .ok (.iload_n 1, 1) := by decide +kernel
theorem d_Mo_reconcile_58 : decode b_Mo_reconcile 58 = .ok (.if_icmp .ne 22, 3) := by decide +kernel
theorem d_Mo_reconcile_61 : decode b_Mo_reconcile 61 = .ok (.iload 5, 2) := by decide +kernel
theorem d_Mo_reconcile_63 : decode b_Mo_reconcile 63 = .ok (.iconst 1, 1) := by decide +kernel
theorem d_Mo_reconcile_64 : decode b_Mo_reconcile 64 = .ok (.iadd, 1) := by decide +kernel
theorem d_Mo_reconcile_65 : decode b_Mo_reconcile 65 = .ok (.istore 5, 2) := by decide +kernel
theorem d_Mo_reconcile_67 : decode b_Mo_reconcile 67 = .ok (.lload 6, 2) := by decide +kernel
theorem d_Mo_reconcile_69 : decode b_Mo_reconcile 69 = .ok (.aload_n 0, 1) := by decide +kernel
theorem d_Mo_reconcile_70 : decode b_Mo_reconcile 70 = .ok (.getfield 16, 3) := by decide +kernel
theorem d_Mo_reconcile_73 : decode b_Mo_reconcile 73 = .ok (.iload 8, 2) := by decide +kernel
theorem d_Mo_reconcile_75 : decode b_Mo_reconcile 75 = .ok (.iaload, 1) := by decide +kernel
theorem d_Mo_reconcile_76 : decode b_Mo_reconcile 76 = .ok (.i2l, 1) := by decide +kernel
theorem d_Mo_reconcile_77 : decode b_Mo_reconcile 77 = .ok (.ladd, 1) := by decide +kernel
theorem d_Mo_reconcile_78 : decode b_Mo_reconcile 78 = .ok (.lstore 6, 2) := by decide +kernel
theorem d_Mo_reconcile_80 : decode b_Mo_reconcile 80 = .ok (.iinc 8 1, 3) := by decide +kernel
theorem d_Mo_reconcile_83 : decode b_Mo_reconcile 83 = .ok (.goto (-58), 3) := by decide +kernel
theorem d_Mo_reconcile_86 : decode b_Mo_reconcile 86 = .ok (.iload 5, 2) := by decide +kernel
theorem d_Mo_reconcile_88 : decode b_Mo_reconcile 88 = .ok (.iload_n 2, 1) := by decide +kernel
theorem d_Mo_reconcile_89 : decode b_Mo_reconcile 89 = .ok (.if_icmp .ne 14, 3) := by decide +kernel
theorem d_Mo_reconcile_92 : decode b_Mo_reconcile 92 = .ok (.lload 6, 2) := by decide +kernel
theorem d_Mo_reconcile_94 : decode b_Mo_reconcile 94 = .ok (.lload_n 3, 1) := by decide +kernel
theorem d_Mo_reconcile_95 : decode b_Mo_reconcile 95 = .ok (.lcmp, 1) := by decide +kernel
theorem d_Mo_reconcile_96 : decode b_Mo_reconcile 96 = .ok (.ifCond .ne 7, 3) := by decide +kernel
theorem d_Mo_reconcile_99 : decode b_Mo_reconcile 99 = .ok (.iconst 1, 1) := by decide +kernel
theorem d_Mo_reconcile_100 : decode b_Mo_reconcile 100 = .ok (.goto 4, 3) := by decide +kernel
theorem d_Mo_reconcile_103 : decode b_Mo_reconcile 103 = .ok (.iconst 0, 1) := by decide +kernel
theorem d_Mo_reconcile_104 : decode b_Mo_reconcile 104 = .ok (.ireturn, 1) := by decide +kernel
theorem d_Mo_cutoff_0 : decode b_Mo_cutoff 0 = .ok (.iconst 0, 1) := by decide +kernel
theorem d_Mo_cutoff_1 : decode b_Mo_cutoff 1 = .ok (.istore_n 1, 1) := by decide +kernel
theorem d_Mo_cutoff_2 : decode b_Mo_cutoff 2 = .ok (.aload_n 0, 1) := by decide +kernel
theorem d_Mo_cutoff_3 : decode b_Mo_cutoff 3 = .ok (.invokevirtual 106, 3) := by decide +kernel
theorem d_Mo_cutoff_6 : decode b_Mo_cutoff 6 = .ok (.iconst 1, 1) := by decide +kernel
theorem d_Mo_cutoff_7 : decode b_Mo_cutoff 7 = .ok (.iadd, 1) := by decide +kernel
theorem d_Mo_cutoff_8 : decode b_Mo_cutoff 8 = .ok (.istore_n 2, 1) := by decide +kernel
theorem d_Mo_cutoff_9 : decode b_Mo_cutoff 9 = .ok (.iload_n 2, 1) := by decide +kernel
theorem d_Mo_cutoff_10 : decode b_Mo_cutoff 10 = .ok (.aload_n 0, 1) := by decide +kernel
theorem d_Mo_cutoff_11 : decode b_Mo_cutoff 11 = .ok (.getfield 38, 3) := by decide +kernel
theorem d_Mo_cutoff_14 : decode b_Mo_cutoff 14 = .ok (.if_icmp .ge 39, 3) := by decide +kernel
theorem d_Mo_cutoff_17 : decode b_Mo_cutoff 17 = .ok (.iload_n 1, 1) := by decide +kernel
theorem d_Mo_cutoff_18 : decode b_Mo_cutoff 18 = .ok (.aload_n 0, 1) := by decide +kernel
theorem d_Mo_cutoff_19 : decode b_Mo_cutoff 19 = .ok (.getfield 7, 3) := by decide +kernel
theorem d_Mo_cutoff_22 : decode b_Mo_cutoff 22 = .ok (.iload_n 2, 1) := by decide +kernel
theorem d_Mo_cutoff_23 : decode b_Mo_cutoff 23 = .ok (.iaload, 1) := by decide +kernel
theorem d_Mo_cutoff_24 : decode b_Mo_cutoff 24 = .ok (.bipush 6, 2) := by decide +kernel
theorem d_Mo_cutoff_26 : decode b_Mo_cutoff 26 = .ok (.if_icmp .lt 18, 3) := by decide +kernel
theorem d_Mo_cutoff_29 : decode b_Mo_cutoff 29 = .ok (.aload_n 0, 1) := by decide +kernel
theorem d_Mo_cutoff_30 : decode b_Mo_cutoff 30 = .ok (.getfield 7, 3) := by decide +kernel
theorem d_Mo_cutoff_33 : decode b_Mo_cutoff 33 = .ok (.iload_n 2, 1) := by decide +kernel
theorem d_Mo_cutoff_34 : decode b_Mo_cutoff 34 = .ok (.iaload, 1) := by decide +kernel
theorem d_Mo_cutoff_35 : decode b_Mo_cutoff 35 = .ok (.bipush 8, 2) := by decide +kernel
theorem d_Mo_cutoff_37 : decode b_Mo_cutoff 37 = .ok (.if_icmp .gt 7, 3) := by decide +kernel
theorem d_Mo_cutoff_40 : decode b_Mo_cutoff 40 = .ok (.iconst 1, 1) := by decide +kernel
theorem d_Mo_cutoff_41 : decode b_Mo_cutoff 41 = .ok (.goto 4, 3) := by decide +kernel
theorem d_Mo_cutoff_44 : decode b_Mo_cutoff 44 = .ok (.iconst 0, 1) := by decide +kernel
theorem d_Mo_cutoff_45 : decode b_Mo_cutoff 45 = .ok (.iadd, 1) := by decide +kernel
theorem d_Mo_cutoff_46 : decode b_Mo_cutoff 46 = .ok (.istore_n 1, 1) := by decide +kernel
theorem d_Mo_cutoff_47 : decode b_Mo_cutoff 47 = .ok (.iinc 2 1, 3) := by decide +kernel
theorem d_Mo_cutoff_50 : decode b_Mo_cutoff 50 = .ok (.goto (-41), 3) := by decide +kernel
theorem d_Mo_cutoff_53 : decode b_Mo_cutoff 53 = .ok (.iload_n 1, 1) := by decide +kernel
theorem d_Mo_cutoff_54 : decode b_Mo_cutoff 54 = .ok (.ifCond .le 12, 3) := by decide +kernel
theorem d_Mo_cutoff_57 : decode b_Mo_cutoff 57 = .ok (.aload_n 0, 1) := by decide +kernel
theorem d_Mo_cutoff_58 : decode b_Mo_cutoff 58 = .ok (.bipush 9, 2) := by decide +kernel
theorem d_Mo_cutoff_60 : decode b_Mo_cutoff 60 = .ok (.iconst 0, 1) := by decide +kernel
theorem d_Mo_cutoff_61 : decode b_Mo_cutoff 61 = .ok (.iconst 0, 1) := by decide +kernel
theorem d_Mo_cutoff_62 : decode b_Mo_cutoff 62 = .ok (.iconst 0, 1) := by decide +kernel
theorem d_Mo_cutoff_63 : decode b_Mo_cutoff 63 = .ok (.invokevirtual 73, 3) := by decide +kernel
theorem d_Mo_cutoff_66 : decode b_Mo_cutoff 66 = .ok (.iload_n 1, 1) := by decide +kernel
theorem d_Mo_cutoff_67 : decode b_Mo_cutoff 67 = .ok (.ireturn, 1) := by decide +kernel
theorem d_Mo_added_0 : decode b_Mo_added 0 = .ok (.aload_n 0, 1) := by decide +kernel
theorem d_Mo_added_1 : decode b_Mo_added 1 = .ok (.getfield 7, 3) := by decide +kernel
theorem d_Mo_added_4 : decode b_Mo_added 4 = .ok (.iload_n 1, 1) := by decide +kernel
theorem d_Mo_added_5 : decode b_Mo_added 5 = .ok (.iaload, 1) := by decide +kernel
theorem d_Mo_added_6 : decode b_Mo_added 6 = .ok (.bipush 6, 2) := by decide +kernel
theorem d_Mo_added_8 : decode b_Mo_added 8 = .ok (.if_icmp .lt 14, 3) := by decide +kernel
theorem d_Mo_added_11 : decode b_Mo_added 11 = .ok (.aload_n 0, 1) := by decide +kernel
theorem d_Mo_added_12 : decode b_Mo_added 12 = .ok (.getfield 7, 3) := by decide +kernel
theorem d_Mo_added_15 : decode b_Mo_added 15 = .ok (.iload_n 1, 1) := by decide +kernel
theorem d_Mo_added_16 : decode b_Mo_added 16 = .ok (.iaload, 1) := by decide +kernel
theorem d_Mo_added_17 : decode b_Mo_added 17 = .ok (.bipush 8, 2) := by decide +kernel
theorem d_Mo_added_19 : decode b_Mo_added 19 = .ok (.if_icmp .le 5, 3) := by decide +kernel
theorem d_Mo_added_22 : decode b_Mo_added 22 = .ok (.lconst 0, 1) := by decide +kernel
theorem d_Mo_added_23 : decode b_Mo_added 23 = .ok (.lreturn, 1) := by decide +kernel
theorem d_Mo_added_24 : decode b_Mo_added 24 = .ok (.aload_n 0, 1) := by decide +kernel
theorem d_Mo_added_25 : decode b_Mo_added 25 = .ok (.getfield 19, 3) := by decide +kernel
theorem d_Mo_added_28 : decode b_Mo_added 28 = .ok (.iload_n 1, 1) := by decide +kernel
theorem d_Mo_added_29 : decode b_Mo_added 29 = .ok (.iaload, 1) := by decide +kernel
theorem d_Mo_added_30 : decode b_Mo_added 30 = .ok (.istore_n 3, 1) := by decide +kernel
theorem d_Mo_added_31 : decode b_Mo_added 31 = .ok (.aload_n 0, 1) := by decide +kernel
theorem d_Mo_added_32 : decode b_Mo_added 32 = .ok (.getfield 16, 3) := by decide +kernel
theorem d_Mo_added_35 : decode b_Mo_added 35 = .ok (.iload_n 1, 1) := by decide +kernel
theorem d_Mo_added_36 : decode b_Mo_added 36 = .ok (.iaload, 1) := by decide +kernel
theorem d_Mo_added_37 : decode b_Mo_added 37 = .ok (.istore 4, 2) := by decide +kernel
theorem d_Mo_added_39 : decode b_Mo_added 39 = .ok (.iload_n 2, 1) := by decide +kernel
theorem d_Mo_added_40 : decode b_Mo_added 40 = .ok (.aload_n 0, 1) := by decide +kernel
theorem d_Mo_added_41 : decode b_Mo_added 41 = .ok (.getfield 13, 3) := by decide +kernel
theorem d_Mo_added_44 : decode b_Mo_added 44 = .ok (.iload_n 1, 1) := by decide +kernel
theorem d_Mo_added_45 : decode b_Mo_added 45 = .ok (.iaload, 1) := by decide +kernel
theorem d_Mo_added_46 : decode b_Mo_added 46 = .ok (.sipush 10000, 3) := by decide +kernel
theorem d_Mo_added_49 : decode b_Mo_added 49 = .ok (.idiv, 1) := by decide +kernel
theorem d_Mo_added_50 : decode b_Mo_added 50 = .ok (.if_icmp .ne 7, 3) := by decide +kernel
theorem d_Mo_added_53 : decode b_Mo_added 53 = .ok (.iconst 1, 1) := by decide +kernel
theorem d_Mo_added_54 : decode b_Mo_added 54 = .ok (.goto 4, 3) := by decide +kernel
theorem d_Mo_added_57 : decode b_Mo_added 57 = .ok (.iconst 0, 1) := by decide +kernel
theorem d_Mo_added_58 : decode b_Mo_added 58 = .ok (.istore 5, 2) := by decide +kernel
theorem d_Mo_added_60 : decode b_Mo_added 60 = .ok (.iload_n 2, 1) := by decide +kernel
theorem d_Mo_added_61 : decode b_Mo_added 61 = .ok (.iconst 4, 1) := by decide +kernel
theorem d_Mo_added_62 : decode b_Mo_added 62 = .ok (.aload_n 0, 1) := by decide +kernel
theorem d_Mo_added_63 : decode b_Mo_added 63 = .ok (.getfield 32, 3) := by decide +kernel
theorem d_Mo_added_66 : decode b_Mo_added 66 = .ok (.iload_n 3, 1) := by decide +kernel
theorem d_Mo_added_67 : decode b_Mo_added 67 = .ok (.iaload, 1) := by decide +kernel
theorem d_Mo_added_68 : decode b_Mo_added 68 = .ok (.iadd, 1) := by decide +kernel
theorem d_Mo_added_69 : decode b_Mo_added 69 = .ok (.if_icmp .ne 7, 3) := by decide +kernel
theorem d_Mo_added_72 : decode b_Mo_added 72 = .ok (.iconst 1, 1) := by decide +kernel
theorem d_Mo_added_73 : decode b_Mo_added 73 = .ok (.goto 4, 3) := by decide +kernel
theorem d_Mo_added_76 : decode b_Mo_added 76 = .ok (.iconst 0, 1) := by decide +kernel
theorem d_Mo_added_77 : decode b_Mo_added 77 = .ok (.istore 6, 2) := by decide +kernel
theorem d_Mo_added_79 : decode b_Mo_added 79 = .ok (.aload_n 0, 1) := by decide +kernel
theorem d_Mo_added_80 : decode b_Mo_added 80 = .ok (.getfield 7, 3) := by decide +kernel
theorem d_Mo_added_83 : decode b_Mo_added 83 = .ok (.iload_n 1, 1) := by decide +kernel
theorem d_Mo_added_84 : decode b_Mo_added 84 = .ok (.iaload, 1) := by decide +kernel
theorem d_Mo_added_85 : decode b_Mo_added 85 = .ok (.bipush 6, 2) := by decide +kernel
theorem d_Mo_added_87 : decode b_Mo_added 87 = .ok (.if_icmp .eq 49, 3) := by decide +kernel
theorem d_Mo_added_90 : decode b_Mo_added 90 = .ok (.iload 5, 2) := by decide +kernel
theorem d_Mo_added_92 : decode b_Mo_added 92 = .ok (.ifCond .eq 8, 3) := by decide +kernel
theorem d_Mo_added_95 : decode b_Mo_added 95 = .ok (.iload 4, 2) := by decide +kernel
theorem d_Mo_added_97 : decode b_Mo_added 97 = .ok (.goto 15, 3) := by decide +kernel
theorem d_Mo_added_100 : decode b_Mo_added 100 = .ok (.iload 6, 2) := by decide +kernel
theorem d_Mo_added_102 : decode b_Mo_added 102 = .ok (.ifCond .eq 9, 3) := by decide +kernel
theorem d_Mo_added_105 : decode b_Mo_added 105 = .ok (.iload 4, 2) := by decide +kernel
theorem d_Mo_added_107 : decode b_Mo_added 107 = .ok (.ineg, 1) := by decide +kernel
theorem d_Mo_added_108 : decode b_Mo_added 108 = .ok (.goto 4, 3) := by decide +kernel
theorem d_Mo_added_111 : decode b_Mo_added 111 = .ok (.iconst 0, 1) := by decide +kernel
theorem d_Mo_added_112 : decode b_Mo_added 112 = .ok (.istore 7, 2) := by decide +kernel
theorem d_Mo_added_114 : decode b_Mo_added 114 = .ok (.aload_n 0, 1) := by decide +kernel
theorem d_Mo_added_115 : decode b_Mo_added 115 = .ok (.getfield 7, 3) := by decide +kernel
theorem d_Mo_added_118 : decode b_Mo_added 118 = .ok (.iload_n 1, 1) := by decide +kernel
theorem d_Mo_added_119 : decode b_Mo_added 119 = .ok (.iaload, 1) := by decide +kernel
theorem d_Mo_added_120 : decode b_Mo_added 120 = .ok (.bipush 8, 2) := by decide +kernel
theorem d_Mo_added_122 : decode b_Mo_added 122 = .ok (.if_icmp .ne 9, 3) := by decide +kernel
theorem d_Mo_added_125 : decode b_Mo_added 125 = .ok (.iload 7, 2) := by decide +kernel
theorem d_Mo_added_127 : decode b_Mo_added 127 = .ok (.i2l, 1) := by decide +kernel
theorem d_Mo_added_128 : decode b_Mo_added 128 = .ok (.goto 7, 3) := by decide +kernel
theorem d_Mo_added_131 : decode b_Mo_added 131 = .ok (.iload 7, 2) := by decide +kernel
theorem d_Mo_added_133 : decode b_Mo_added 133 = .ok (.ineg, 1) := by decide +kernel
theorem d_Mo_added_134 : decode b_Mo_added 134 = .ok (.i2l, 1) := by decide +kernel
theorem d_Mo_added_135 : decode b_Mo_added 135 = .ok (.lreturn, 1) := by decide +kernel
theorem d_Mo_added_136 : decode b_Mo_added 136 = .ok (.iload 4, 2) := by decide +kernel
theorem d_Mo_added_138 : decode b_Mo_added 138 = .ok (.aload_n 0, 1) := by decide +kernel
theorem d_Mo_added_139 : decode b_Mo_added 139 = .ok (.getfield 35, 3) := by decide +kernel
theorem d_Mo_added_142 : decode b_Mo_added 142 = .ok (.iload_n 3, 1) := by decide +kernel
theorem d_Mo_added_143 : decode b_Mo_added 143 = .ok (.iaload, 1) := by decide +kernel
theorem d_Mo_added_144 : decode b_Mo_added 144 = .ok (.invokestatic 102, 3) := by decide +kernel
theorem d_Mo_added_147 : decode b_Mo_added 147 = .ok (.istore 7, 2) := by decide +kernel
theorem d_Mo_added_149 : decode b_Mo_added 149 = .ok (.iload 4, 2) := by decide +kernel
theorem d_Mo_added_151 : decode b_Mo_added 151 = .ok (.aload_n 0, 1) := by decide +kernel
theorem d_Mo_added_152 : decode b_Mo_added 152 = .ok (.getfield 35, 3) := by decide +kernel
theorem d_Mo_added_155 : decode b_Mo_added 155 = .ok (.iload_n 3, 1) := by decide +kernel
theorem d_Mo_added_156 : decode b_Mo_added 156 = .ok (.iaload, 1) := by decide +kernel
theorem d_Mo_added_157 : decode b_Mo_added 157 = .ok (.imul, 1) := by decide +kernel
theorem d_Mo_added_158 : decode b_Mo_added 158 = .ok (.iconst 3, 1) := by decide +kernel
theorem d_Mo_added_159 : decode b_Mo_added 159 = .ok (.imul, 1) := by decide +kernel
theorem d_Mo_added_160 : decode b_Mo_added 160 = .ok (.ldc 109, 2) := by decide +kernel
theorem d_Mo_added_162 : decode b_Mo_added 162 = .ok (.idiv, 1) := by decide +kernel
theorem d_Mo_added_163 : decode b_Mo_added 163 = .ok (.istore 8, 2) := by decide +kernel
theorem d_Mo_added_165 : decode b_Mo_added 165 = .ok (.iload 5, 2) := by decide +kernel
theorem d_Mo_added_167 : decode b_Mo_added 167 = .ok (.ifCond .eq 12, 3) := by decide +kernel
theorem d_Mo_added_170 : decode b_Mo_added 170 = .ok (.iload 4, 2) := by decide +kernel
theorem d_Mo_added_172 : decode b_Mo_added 172 = .ok (.iload 7, 2) := by decide +kernel
theorem d_Mo_added_174 : decode b_Mo_added 174 = .ok (.isub, 1) := by decide +kernel
theorem d_Mo_added_175 : decode b_Mo_added 175 = .ok (.i2l, 1) := by decide +kernel
theorem d_Mo_added_176 : decode b_Mo_added 176 = .ok (.goto 33, 3) := by decide +kernel
theorem d_Mo_added_179 : decode b_Mo_added 179 = .ok (.iload 6, 2) := by decide +kernel
theorem d_Mo_added_181 : decode b_Mo_added 181 = .ok (.ifCond .eq 12, 3) := by decide +kernel
theorem d_Mo_added_184 : decode b_Mo_added 184 = .ok (.iload 8, 2) := by decide +kernel
theorem d_Mo_added_186 : decode b_Mo_added 186 = .ok (.iload 4, 2) := by decide +kernel
theorem d_Mo_added_188 : decode b_Mo_added 188 = .ok (.isub, 1) := by decide +kernel
theorem d_Mo_added_189 : decode b_Mo_added 189 = .ok (.i2l, 1) := by decide +kernel
theorem d_Mo_added_190 : decode b_Mo_added 190 = .ok (.goto 19, 3) := by decide +kernel
theorem d_Mo_added_193 : decode b_Mo_added 193 = .ok (.iload_n 2, 1) := by decide +kernel
theorem d_Mo_added_194 : decode b_Mo_added 194 = .ok (.bipush 8, 2) := by decide +kernel
theorem d_Mo_added_196 : decode b_Mo_added 196 = .ok (.if_icmp .ne 12, 3) := by decide +kernel
theorem d_Mo_added_199 : decode b_Mo_added 199 = .ok (.iload 7, 2) := by decide +kernel
theorem d_Mo_added_201 : decode b_Mo_added 201 = .ok (.iload 8, 2) := by decide +kernel
theorem d_Mo_added_203 : decode b_Mo_added 203 = .ok (.isub, 1) := by decide +kernel
theorem d_Mo_added_204 : decode b_Mo_added 204 = .ok (.i2l, 1) := by decide +kernel
theorem d_Mo_added_205 : decode b_Mo_added 205 = .ok (.goto 4, 3) := by decide +kernel
theorem d_Mo_added_208 : decode b_Mo_added 208 = .ok (.lconst 0, 1) := by decide +kernel
theorem d_Mo_added_209 : decode b_Mo_added 209 = .ok (.lreturn, 1) := by decide +kernel
theorem d_Mo_sum_0 : decode b_Mo_sum 0 = .ok (.lconst 0, 1) := by decide +kernel
theorem d_Mo_sum_1 : decode b_Mo_sum 1 = .ok (.lstore 4, 2) := by decide +kernel
theorem d_Mo_sum_3 : decode b_Mo_sum 3 = .ok (.iload_n 2, 1) := by decide +kernel
theorem d_Mo_sum_4 : decode b_Mo_sum 4 = .ok (.istore 6, 2) := by decide +kernel
theorem d_Mo_sum_6 : decode b_Mo_sum 6 = .ok (.iload 6, 2) := by decide +kernel
theorem d_Mo_sum_8 : decode b_Mo_sum 8 = .ok (.iload_n 3, 1) := by decide +kernel
theorem d_Mo_sum_9 : decode b_Mo_sum 9 = .ok (.if_icmp .ge 21, 3) := by decide +kernel
theorem d_Mo_sum_12 : decode b_Mo_sum 12 = .ok (.lload 4, 2) := by decide +kernel
theorem d_Mo_sum_14 : decode b_Mo_sum 14 = .ok (.aload_n 0, 1) := by decide +kernel
theorem d_Mo_sum_15 : decode b_Mo_sum 15 = .ok (.iload 6, 2) := by decide +kernel
theorem d_Mo_sum_17 : decode b_Mo_sum 17 = .ok (.iload_n 1, 1) := by decide +kernel
theorem d_Mo_sum_18 : decode b_Mo_sum 18 = .ok (.invokevirtual 110, 3) := by decide +kernel
theorem d_Mo_sum_21 : decode b_Mo_sum 21 = .ok (.ladd, 1) := by decide +kernel
theorem d_Mo_sum_22 : decode b_Mo_sum 22 = .ok (.lstore 4, 2) := by decide +kernel
theorem d_Mo_sum_24 : decode b_Mo_sum 24 = .ok (.iinc 6 1, 3) := by decide +kernel
theorem d_Mo_sum_27 : decode b_Mo_sum 27 = .ok (.goto (-21), 3) := by decide +kernel
theorem d_Mo_sum_30 : decode b_Mo_sum 30 = .ok (.lload 4, 2) := by decide +kernel
theorem d_Mo_sum_32 : decode b_Mo_sum 32 = .ok (.lreturn, 1) := by decide +kernel
theorem d_Mo_tick_0 : decode b_Mo_tick 0 = .ok (.iload_n 1, 1) := by decide +kernel
theorem d_Mo_tick_1 : decode b_Mo_tick 1 = .ok (.iconst 1, 1) := by decide +kernel
theorem d_Mo_tick_2 : decode b_Mo_tick 2 = .ok (.if_icmp .lt 19, 3) := by decide +kernel
theorem d_Mo_tick_5 : decode b_Mo_tick 5 = .ok (.iload_n 1, 1) := by decide +kernel
theorem d_Mo_tick_6 : decode b_Mo_tick 6 = .ok (.bipush 100, 2) := by decide +kernel
theorem d_Mo_tick_8 : decode b_Mo_tick 8 = .ok (.if_icmp .gt 13, 3) := by decide +kernel
theorem d_Mo_tick_11 : decode b_Mo_tick 11 = .ok (.aload_n 0, 1) := by decide +kernel
theorem d_Mo_tick_12 : decode b_Mo_tick 12 = .ok (.aload_n 0, 1) := by decide +kernel
theorem d_Mo_tick_13 : decode b_Mo_tick 13 = .ok (.getfield 42, 3) := by decide +kernel
theorem d_Mo_tick_16 : decode b_Mo_tick 16 = .ok (.iload_n 1, 1) := by decide +kernel
theorem d_Mo_tick_17 : decode b_Mo_tick 17 = .ok (.iadd, 1) := by decide +kernel
theorem d_Mo_tick_18 : decode b_Mo_tick 18 = .ok (.putfield 42, 3) := by decide +kernel
theorem d_Mo_tick_21 : decode b_Mo_tick 21 = .ok (.aload_n 0, 1) := by decide +kernel
theorem d_Mo_tick_22 : decode b_Mo_tick 22 = .ok (.getfield 42, 3) := by decide +kernel
theorem d_Mo_tick_25 : decode b_Mo_tick 25 = .ok (.ireturn, 1) := by decide +kernel
theorem d_Mo_flush_0 : decode b_Mo_flush 0 = .ok (.aload_n 0, 1) := by decide +kernel
theorem d_Mo_flush_1 : decode b_Mo_flush 1 = .ok (.getfield 45, 3) := by decide +kernel
theorem d_Mo_flush_4 : decode b_Mo_flush 4 = .ok (.istore_n 1, 1) := by decide +kernel
theorem d_Mo_flush_5 : decode b_Mo_flush 5 = .ok (.aload_n 0, 1) := by decide +kernel
theorem d_Mo_flush_6 : decode b_Mo_flush 6 = .ok (.iconst 0, 1) := by decide +kernel
theorem d_Mo_flush_7 : decode b_Mo_flush 7 = .ok (.putfield 45, 3) := by decide +kernel
theorem d_Mo_flush_10 : decode b_Mo_flush 10 = .ok (.iload_n 1, 1) := by decide +kernel
theorem d_Mo_flush_11 : decode b_Mo_flush 11 = .ok (.ireturn, 1) := by decide +kernel
theorem d_Mo_crash_0 : decode b_Mo_crash 0 = .ok (.iload_n 1, 1) := by decide +kernel
theorem d_Mo_crash_1 : decode b_Mo_crash 1 = .ok (.ifCond .lt 11, 3) := by decide +kernel
theorem d_Mo_crash_4 : decode b_Mo_crash 4 = .ok (.iload_n 1, 1) := by decide +kernel
theorem d_Mo_crash_5 : decode b_Mo_crash 5 = .ok (.aload_n 0, 1) := by decide +kernel
theorem d_Mo_crash_6 : decode b_Mo_crash 6 = .ok (.getfield 45, 3) := by decide +kernel
theorem d_Mo_crash_9 : decode b_Mo_crash 9 = .ok (.if_icmp .le 5, 3) := by decide +kernel
theorem d_Mo_crash_12 : decode b_Mo_crash 12 = .ok (.iconst 0, 1) := by decide +kernel
theorem d_Mo_crash_13 : decode b_Mo_crash 13 = .ok (.ireturn, 1) := by decide +kernel
theorem d_Mo_crash_14 : decode b_Mo_crash 14 = .ok (.aload_n 0, 1) := by decide +kernel
theorem d_Mo_crash_15 : decode b_Mo_crash 15 = .ok (.aload_n 0, 1) := by decide +kernel
theorem d_Mo_crash_16 : decode b_Mo_crash 16 = .ok (.getfield 38, 3) := by decide +kernel
theorem d_Mo_crash_19 : decode b_Mo_crash 19 = .ok (.iload_n 1, 1) := by decide +kernel
theorem d_Mo_crash_20 : decode b_Mo_crash 20 = .ok (.isub, 1) := by decide +kernel
theorem d_Mo_crash_21 : decode b_Mo_crash 21 = .ok (.putfield 38, 3) := by decide +kernel
theorem d_Mo_crash_24 : decode b_Mo_crash 24 = .ok (.aload_n 0, 1) := by decide +kernel
theorem d_Mo_crash_25 : decode b_Mo_crash 25 = .ok (.iconst 0, 1) := by decide +kernel
theorem d_Mo_crash_26 : decode b_Mo_crash 26 = .ok (.putfield 45, 3) := by decide +kernel
theorem d_Mo_crash_29 : decode b_Mo_crash 29 = .ok (.iconst 1, 1) := by decide +kernel
theorem d_Mo_crash_30 : decode b_Mo_crash 30 = .ok (.ireturn, 1) := by decide +kernel
theorem d_Mo_unwritten_0 : decode b_Mo_unwritten 0 = .ok (.aload_n 0, 1) := by decide +kernel
theorem d_Mo_unwritten_1 : decode b_Mo_unwritten 1 = .ok (.getfield 45, 3) := by decide +kernel
theorem d_Mo_unwritten_4 : decode b_Mo_unwritten 4 = .ok (.ireturn, 1) := by decide +kernel
theorem d_Mo_state_0 : decode b_Mo_state 0 = .ok (.iload_n 1, 1) := by decide +kernel
theorem d_Mo_state_1 : decode b_Mo_state 1 = .ok (.iload_n 2, 1) := by decide +kernel
theorem d_Mo_state_2 : decode b_Mo_state 2 = .ok (.invokestatic 89, 3) := by decide +kernel
theorem d_Mo_state_5 : decode b_Mo_state 5 = .ok (.ifCond .eq 5, 3) := by decide +kernel
theorem d_Mo_state_8 : decode b_Mo_state 8 = .ok (.iconst (-1), 1) := by decide +kernel
theorem d_Mo_state_9 : decode b_Mo_state 9 = .ok (.ireturn, 1) := by decide +kernel
theorem d_Mo_state_10 : decode b_Mo_state 10 = .ok (.aload_n 0, 1) := by decide +kernel
theorem d_Mo_state_11 : decode b_Mo_state 11 = .ok (.iload_n 1, 1) := by decide +kernel
theorem d_Mo_state_12 : decode b_Mo_state 12 = .ok (.sipush 10000, 3) := by decide +kernel
theorem d_Mo_state_15 : decode b_Mo_state 15 = .ok (.imul, 1) := by decide +kernel
theorem d_Mo_state_16 : decode b_Mo_state 16 = .ok (.iload_n 2, 1) := by decide +kernel
theorem d_Mo_state_17 : decode b_Mo_state 17 = .ok (.iadd, 1) := by decide +kernel
theorem d_Mo_state_18 : decode b_Mo_state 18 = .ok (.invokevirtual 70, 3) := by decide +kernel
theorem d_Mo_state_21 : decode b_Mo_state 21 = .ok (.aload_n 0, 1) := by decide +kernel
theorem d_Mo_state_22 : decode b_Mo_state 22 = .ok (.getfield 50, 3) := by decide +kernel
theorem d_Mo_state_25 : decode b_Mo_state 25 = .ok (.ireturn, 1) := by decide +kernel
theorem d_Mo_held_0 : decode b_Mo_held 0 = .ok (.iload_n 1, 1) := by decide +kernel
theorem d_Mo_held_1 : decode b_Mo_held 1 = .ok (.iload_n 2, 1) := by decide +kernel
theorem d_Mo_held_2 : decode b_Mo_held 2 = .ok (.invokestatic 89, 3) := by decide +kernel
theorem d_Mo_held_5 : decode b_Mo_held 5 = .ok (.ifCond .eq 5, 3) := by decide +kernel
theorem d_Mo_held_8 : decode b_Mo_held 8 = .ok (.iconst (-1), 1) := by decide +kernel
theorem d_Mo_held_9 : decode b_Mo_held 9 = .ok (.ireturn, 1) := by decide +kernel
theorem d_Mo_held_10 : decode b_Mo_held 10 = .ok (.aload_n 0, 1) := by decide +kernel
theorem d_Mo_held_11 : decode b_Mo_held 11 = .ok (.iload_n 1, 1) := by decide +kernel
theorem d_Mo_held_12 : decode b_Mo_held 12 = .ok (.sipush 10000, 3) := by decide +kernel
theorem d_Mo_held_15 : decode b_Mo_held 15 = .ok (.imul, 1) := by decide +kernel
theorem d_Mo_held_16 : decode b_Mo_held 16 = .ok (.iload_n 2, 1) := by decide +kernel
theorem d_Mo_held_17 : decode b_Mo_held 17 = .ok (.iadd, 1) := by decide +kernel
theorem d_Mo_held_18 : decode b_Mo_held 18 = .ok (.invokevirtual 70, 3) := by decide +kernel
theorem d_Mo_held_21 : decode b_Mo_held 21 = .ok (.aload_n 0, 1) := by decide +kernel
theorem d_Mo_held_22 : decode b_Mo_held 22 = .ok (.getfield 50, 3) := by decide +kernel
theorem d_Mo_held_25 : decode b_Mo_held 25 = .ok (.iconst 2, 1) := by decide +kernel
theorem d_Mo_held_26 : decode b_Mo_held 26 = .ok (.if_icmp .eq 12, 3) := by decide +kernel
theorem d_Mo_held_29 : decode b_Mo_held 29 = .ok (.aload_n 0, 1) := by decide +kernel
theorem d_Mo_held_30 : decode b_Mo_held 30 = .ok (.getfield 50, 3) := by decide +kernel
theorem d_Mo_held_33 : decode b_Mo_held 33 = .ok (.bipush 7, 2) := by decide +kernel
theorem d_Mo_held_35 : decode b_Mo_held 35 = .ok (.if_icmp .ne 10, 3) := by decide +kernel
theorem d_Mo_held_38 : decode b_Mo_held 38 = .ok (.aload_n 0, 1) := by decide +kernel
theorem d_Mo_held_39 : decode b_Mo_held 39 = .ok (.getfield 53, 3) := by decide +kernel
theorem d_Mo_held_42 : decode b_Mo_held 42 = .ok (.goto 4, 3) := by decide +kernel
theorem d_Mo_held_45 : decode b_Mo_held 45 = .ok (.iconst 0, 1) := by decide +kernel
theorem d_Mo_held_46 : decode b_Mo_held 46 = .ok (.ireturn, 1) := by decide +kernel
theorem d_Mo_available_0 : decode b_Mo_available 0 = .ok (.aload_n 0, 1) := by decide +kernel
theorem d_Mo_available_1 : decode b_Mo_available 1 = .ok (.iload_n 1, 1) := by decide +kernel
theorem d_Mo_available_2 : decode b_Mo_available 2 = .ok (.invokevirtual 66, 3) := by decide +kernel
theorem d_Mo_available_5 : decode b_Mo_available 5 = .ok (.ifCond .ge 8, 3) := by decide +kernel
theorem d_Mo_available_8 : decode b_Mo_available 8 = .ok (.bipush (-4), 2) := by decide +kernel
theorem d_Mo_available_10 : decode b_Mo_available 10 = .ok (.goto 8, 3) := by decide +kernel
theorem d_Mo_available_13 : decode b_Mo_available 13 = .ok (.aload_n 0, 1) := by decide +kernel
theorem d_Mo_available_14 : decode b_Mo_available 14 = .ok (.iload_n 1, 1) := by decide +kernel
theorem d_Mo_available_15 : decode b_Mo_available 15 = .ok (.invokevirtual 86, 3) := by decide +kernel
theorem d_Mo_available_18 : decode b_Mo_available 18 = .ok (.ireturn, 1) := by decide +kernel
theorem d_Mo_position_0 : decode b_Mo_position 0 = .ok (.iload_n 1, 1) := by decide +kernel
theorem d_Mo_position_1 : decode b_Mo_position 1 = .ok (.ifCond .lt 9, 3) := by decide +kernel
theorem d_Mo_position_4 : decode b_Mo_position 4 = .ok (.iload_n 1, 1) := by decide +kernel
theorem d_Mo_position_5 : decode b_Mo_position 5 = .ok (.bipush 8, 2) := by decide +kernel
theorem d_Mo_position_7 : decode b_Mo_position 7 = .ok (.if_icmp .le 5, 3) := by decide +kernel
theorem d_Mo_position_10 : decode b_Mo_position 10 = .ok (.lconst 0, 1) := by decide +kernel
theorem d_Mo_position_11 : decode b_Mo_position 11 = .ok (.lreturn, 1) := by decide +kernel
theorem d_Mo_position_12 : decode b_Mo_position 12 = .ok (.aload_n 0, 1) := by decide +kernel
theorem d_Mo_position_13 : decode b_Mo_position 13 = .ok (.invokevirtual 106, 3) := by decide +kernel
theorem d_Mo_position_16 : decode b_Mo_position 16 = .ok (.iconst 1, 1) := by decide +kernel
theorem d_Mo_position_17 : decode b_Mo_position 17 = .ok (.iadd, 1) := by decide +kernel
theorem d_Mo_position_18 : decode b_Mo_position 18 = .ok (.istore_n 2, 1) := by decide +kernel
theorem d_Mo_position_19 : decode b_Mo_position 19 = .ok (.aload_n 0, 1) := by decide +kernel
theorem d_Mo_position_20 : decode b_Mo_position 20 = .ok (.iload_n 1, 1) := by decide +kernel
theorem d_Mo_position_21 : decode b_Mo_position 21 = .ok (.iload_n 2, 1) := by decide +kernel
theorem d_Mo_position_22 : decode b_Mo_position 22 = .ok (.aload_n 0, 1) := by decide +kernel
theorem d_Mo_position_23 : decode b_Mo_position 23 = .ok (.getfield 38, 3) := by decide +kernel
theorem d_Mo_position_26 : decode b_Mo_position 26 = .ok (.invokevirtual 114, 3) := by decide +kernel
theorem d_Mo_position_29 : decode b_Mo_position 29 = .ok (.lreturn, 1) := by decide +kernel
theorem d_Mo_settled_0 : decode b_Mo_settled 0 = .ok (.iload_n 1, 1) := by decide +kernel
theorem d_Mo_settled_1 : decode b_Mo_settled 1 = .ok (.ifCond .lt 9, 3) := by decide +kernel
theorem d_Mo_settled_4 : decode b_Mo_settled 4 = .ok (.iload_n 1, 1) := by decide +kernel
theorem d_Mo_settled_5 : decode b_Mo_settled 5 = .ok (.bipush 8, 2) := by decide +kernel
theorem d_Mo_settled_7 : decode b_Mo_settled 7 = .ok (.if_icmp .le 5, 3) := by decide +kernel
theorem d_Mo_settled_10 : decode b_Mo_settled 10 = .ok (.lconst 0, 1) := by decide +kernel
theorem d_Mo_settled_11 : decode b_Mo_settled 11 = .ok (.lreturn, 1) := by decide +kernel
theorem d_Mo_settled_12 : decode b_Mo_settled 12 = .ok (.aload_n 0, 1) := by decide +kernel
theorem d_Mo_settled_13 : decode b_Mo_settled 13 = .ok (.invokevirtual 106, 3) := by decide +kernel
theorem d_Mo_settled_16 : decode b_Mo_settled 16 = .ok (.iconst 1, 1) := by decide +kernel
theorem d_Mo_settled_17 : decode b_Mo_settled 17 = .ok (.iadd, 1) := by decide +kernel
theorem d_Mo_settled_18 : decode b_Mo_settled 18 = .ok (.istore_n 2, 1) := by decide +kernel
theorem d_Mo_settled_19 : decode b_Mo_settled 19 = .ok (.aload_n 0, 1) := by decide +kernel
theorem d_Mo_settled_20 : decode b_Mo_settled 20 = .ok (.iload_n 1, 1) := by decide +kernel
theorem d_Mo_settled_21 : decode b_Mo_settled 21 = .ok (.iconst 0, 1) := by decide +kernel
theorem d_Mo_settled_22 : decode b_Mo_settled 22 = .ok (.iload_n 2, 1) := by decide +kernel
theorem d_Mo_settled_23 : decode b_Mo_settled 23 = .ok (.invokevirtual 114, 3) := by decide +kernel
theorem d_Mo_settled_26 : decode b_Mo_settled 26 = .ok (.lreturn, 1) := by decide +kernel
