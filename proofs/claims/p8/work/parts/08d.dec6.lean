theorem dX6_init_0 : decode cX6_init 0 = .ok (.aload_n 0, 1) := by decide +kernel
theorem dX6_init_1 : decode cX6_init 1 = .ok (.invokespecial 1, 3) := by decide +kernel
theorem dX6_init_4 : decode cX6_init 4 = .ok (.aload_n 0, 1) := by decide +kernel
theorem dX6_init_5 : decode cX6_init 5 = .ok (.bipush 12, 2) := by decide +kernel
theorem dX6_init_7 : decode cX6_init 7 = .ok (.anewarray 9, 3) := by decide +kernel
theorem dX6_init_10 : decode cX6_init 10 = .ok (.putfield 11, 3) := by decide +kernel
theorem dX6_init_13 : decode cX6_init 13 = .ok (.aload_n 0, 1) := by decide +kernel
theorem dX6_init_14 : decode cX6_init 14 = .ok (.bipush 8, 2) := by decide +kernel
theorem dX6_init_16 : decode cX6_init 16 = .ok (.newarray .int, 2) := by decide +kernel
theorem dX6_init_18 : decode cX6_init 18 = .ok (.putfield 15, 3) := by decide +kernel
theorem dX6_init_21 : decode cX6_init 21 = .ok (.aload_n 0, 1) := by decide +kernel
theorem dX6_init_22 : decode cX6_init 22 = .ok (.bipush 64, 2) := by decide +kernel
theorem dX6_init_24 : decode cX6_init 24 = .ok (.anewarray 19, 3) := by decide +kernel
theorem dX6_init_27 : decode cX6_init 27 = .ok (.putfield 21, 3) := by decide +kernel
theorem dX6_init_30 : decode cX6_init 30 = .ok (.aload_n 0, 1) := by decide +kernel
theorem dX6_init_31 : decode cX6_init 31 = .ok (.iconst 0, 1) := by decide +kernel
theorem dX6_init_32 : decode cX6_init 32 = .ok (.putfield 25, 3) := by decide +kernel
theorem dX6_init_35 : decode cX6_init 35 = .ok (.aload_n 0, 1) := by decide +kernel
theorem dX6_init_36 : decode cX6_init 36 = .ok (.iconst 0, 1) := by decide +kernel
theorem dX6_init_37 : decode cX6_init 37 = .ok (.putfield 29, 3) := by decide +kernel
theorem dX6_init_40 : decode cX6_init 40 = .ok (.aload_n 0, 1) := by decide +kernel
theorem dX6_init_41 : decode cX6_init 41 = .ok (.new 32, 3) := by decide +kernel
theorem dX6_init_44 : decode cX6_init 44 = .ok (.dup, 1) := by decide +kernel
theorem dX6_init_45 : decode cX6_init 45 = .ok (.invokespecial 34, 3) := by decide +kernel
theorem dX6_init_48 : decode cX6_init 48 = .ok (.putfield 35, 3) := by decide +kernel
theorem dX6_init_51 : decode cX6_init 51 = .ok (.iconst 2, 1) := by decide +kernel
theorem dX6_init_52 : decode cX6_init 52 = .ok (.bipush 8, 2) := by decide +kernel
theorem dX6_init_54 : decode cX6_init 54 = .ok (.iload_n 1, 1) := by decide +kernel
theorem dX6_init_55 : decode cX6_init 55 = .ok (.invokestatic 39, 3) := by decide +kernel
theorem dX6_init_58 : decode cX6_init 58 = .ok (.invokestatic 45, 3) := by decide +kernel
theorem dX6_init_61 : decode cX6_init 61 = .ok (.istore_n 2, 1) := by decide +kernel
theorem dX6_init_62 : decode cX6_init 62 = .ok (.aload_n 0, 1) := by decide +kernel
theorem dX6_init_63 : decode cX6_init 63 = .ok (.iload_n 2, 1) := by decide +kernel
theorem dX6_init_64 : decode cX6_init 64 = .ok (.anewarray 48, 3) := by decide +kernel
theorem dX6_init_67 : decode cX6_init 67 = .ok (.putfield 50, 3) := by decide +kernel
theorem dX6_init_70 : decode cX6_init 70 = .ok (.iconst 0, 1) := by decide +kernel
theorem dX6_init_71 : decode cX6_init 71 = .ok (.istore_n 3, 1) := by decide +kernel
theorem dX6_init_72 : decode cX6_init 72 = .ok (.iload_n 3, 1) := by decide +kernel
theorem dX6_init_73 : decode cX6_init 73 = .ok (.iload_n 2, 1) := by decide +kernel
theorem dX6_init_74 : decode cX6_init 74 = .ok (.if_icmp .ge 23, 3) := by decide +kernel
theorem dX6_init_77 : decode cX6_init 77 = .ok (.aload_n 0, 1) := by decide +kernel
theorem dX6_init_78 : decode cX6_init 78 = .ok (.getfield 50, 3) := by decide +kernel
theorem dX6_init_81 : decode cX6_init 81 = .ok (.iload_n 3, 1) := by decide +kernel
theorem dX6_init_82 : decode cX6_init 82 = .ok (.new 48, 3) := by decide +kernel
theorem dX6_init_85 : decode cX6_init 85 = .ok (.dup, 1) := by decide +kernel
theorem dX6_init_86 : decode cX6_init 86 = .ok (.iload_n 3, 1) := by decide +kernel
theorem dX6_init_87 : decode cX6_init 87 = .ok (.invokespecial 54, 3) := by decide +kernel
theorem dX6_init_90 : decode cX6_init 90 = .ok (.aastore, 1) := by decide +kernel
theorem dX6_init_91 : decode cX6_init 91 = .ok (.iinc 3 1, 3) := by decide +kernel
theorem dX6_init_94 : decode cX6_init 94 = .ok (.goto (-22), 3) := by decide +kernel
theorem dX6_init_97 : decode cX6_init 97 = .ok (.iconst 0, 1) := by decide +kernel
theorem dX6_init_98 : decode cX6_init 98 = .ok (.istore_n 3, 1) := by decide +kernel
theorem dX6_init_99 : decode cX6_init 99 = .ok (.iload_n 3, 1) := by decide +kernel
theorem dX6_init_100 : decode cX6_init 100 = .ok (.bipush 12, 2) := by decide +kernel
theorem dX6_init_102 : decode cX6_init 102 = .ok (.if_icmp .ge 22, 3) := by decide +kernel
theorem dX6_init_105 : decode cX6_init 105 = .ok (.aload_n 0, 1) := by decide +kernel
theorem dX6_init_106 : decode cX6_init 106 = .ok (.getfield 11, 3) := by decide +kernel
theorem dX6_init_109 : decode cX6_init 109 = .ok (.iload_n 3, 1) := by decide +kernel
theorem dX6_init_110 : decode cX6_init 110 = .ok (.new 9, 3) := by decide +kernel
theorem dX6_init_113 : decode cX6_init 113 = .ok (.dup, 1) := by decide +kernel
theorem dX6_init_114 : decode cX6_init 114 = .ok (.invokespecial 57, 3) := by decide +kernel
theorem dX6_init_117 : decode cX6_init 117 = .ok (.aastore, 1) := by decide +kernel
theorem dX6_init_118 : decode cX6_init 118 = .ok (.iinc 3 1, 3) := by decide +kernel
theorem dX6_init_121 : decode cX6_init 121 = .ok (.goto (-22), 3) := by decide +kernel
theorem dX6_init_124 : decode cX6_init 124 = .ok (.iconst 0, 1) := by decide +kernel
theorem dX6_init_125 : decode cX6_init 125 = .ok (.istore_n 3, 1) := by decide +kernel
theorem dX6_init_126 : decode cX6_init 126 = .ok (.iload_n 3, 1) := by decide +kernel
theorem dX6_init_127 : decode cX6_init 127 = .ok (.bipush 8, 2) := by decide +kernel
theorem dX6_init_129 : decode cX6_init 129 = .ok (.if_icmp .ge 16, 3) := by decide +kernel
theorem dX6_init_132 : decode cX6_init 132 = .ok (.aload_n 0, 1) := by decide +kernel
theorem dX6_init_133 : decode cX6_init 133 = .ok (.getfield 15, 3) := by decide +kernel
theorem dX6_init_136 : decode cX6_init 136 = .ok (.iload_n 3, 1) := by decide +kernel
theorem dX6_init_137 : decode cX6_init 137 = .ok (.iconst (-1), 1) := by decide +kernel
theorem dX6_init_138 : decode cX6_init 138 = .ok (.iastore, 1) := by decide +kernel
theorem dX6_init_139 : decode cX6_init 139 = .ok (.iinc 3 1, 3) := by decide +kernel
theorem dX6_init_142 : decode cX6_init 142 = .ok (.goto (-16), 3) := by decide +kernel
theorem dX6_init_145 : decode cX6_init 145 = .ok (.return_, 1) := by decide +kernel
theorem dX6_lay_0 : decode cX6_lay 0 = .ok (.iload_n 1, 1) := by decide +kernel
theorem dX6_lay_1 : decode cX6_lay 1 = .ok (.invokestatic 58, 3) := by decide +kernel
theorem dX6_lay_4 : decode cX6_lay 4 = .ok (.ifCond .eq 19, 3) := by decide +kernel
theorem dX6_lay_7 : decode cX6_lay 7 = .ok (.aload_n 0, 1) := by decide +kernel
theorem dX6_lay_8 : decode cX6_lay 8 = .ok (.iload_n 2, 1) := by decide +kernel
theorem dX6_lay_9 : decode cX6_lay 9 = .ok (.invokevirtual 62, 3) := by decide +kernel
theorem dX6_lay_12 : decode cX6_lay 12 = .ok (.ifCond .eq 11, 3) := by decide +kernel
theorem dX6_lay_15 : decode cX6_lay 15 = .ok (.aload_n 0, 1) := by decide +kernel
theorem dX6_lay_16 : decode cX6_lay 16 = .ok (.iload_n 3, 1) := by decide +kernel
theorem dX6_lay_17 : decode cX6_lay 17 = .ok (.invokevirtual 62, 3) := by decide +kernel
theorem dX6_lay_20 : decode cX6_lay 20 = .ok (.ifCond .ne 13, 3) := by decide +kernel
theorem dX6_lay_23 : decode cX6_lay 23 = .ok (.new 65, 3) := by decide +kernel
theorem dX6_lay_26 : decode cX6_lay 26 = .ok (.dup, 1) := by decide +kernel
theorem dX6_lay_27 : decode cX6_lay 27 = .ok (.ldc 67, 2) := by decide +kernel
theorem dX6_lay_29 : decode cX6_lay 29 = .ok (.invokespecial 69, 3) := by decide +kernel
theorem dX6_lay_32 : decode cX6_lay 32 = .ok (.athrow, 1) := by decide +kernel
theorem dX6_lay_33 : decode cX6_lay 33 = .ok (.aload_n 0, 1) := by decide +kernel
theorem dX6_lay_34 : decode cX6_lay 34 = .ok (.getfield 11, 3) := by decide +kernel
theorem dX6_lay_37 : decode cX6_lay 37 = .ok (.iload_n 1, 1) := by decide +kernel
theorem dX6_lay_38 : decode cX6_lay 38 = .ok (.aaload, 1) := by decide +kernel
theorem dX6_lay_39 : decode cX6_lay 39 = .ok (.getfield 72, 3) := by decide +kernel
theorem dX6_lay_42 : decode cX6_lay 42 = .ok (.ifCond .ne 21, 3) := by decide +kernel
theorem dX6_lay_45 : decode cX6_lay 45 = .ok (.iload_n 2, 1) := by decide +kernel
theorem dX6_lay_46 : decode cX6_lay 46 = .ok (.iload_n 3, 1) := by decide +kernel
theorem dX6_lay_47 : decode cX6_lay 47 = .ok (.if_icmp .eq 16, 3) := by decide +kernel
theorem dX6_lay_50 : decode cX6_lay 50 = .ok (.iload 4, 2) := by decide +kernel
theorem dX6_lay_52 : decode cX6_lay 52 = .ok (.iconst 1, 1) := by decide +kernel
theorem dX6_lay_53 : decode cX6_lay 53 = .ok (.if_icmp .lt 10, 3) := by decide +kernel
theorem dX6_lay_56 : decode cX6_lay 56 = .ok (.iload 4, 2) := by decide +kernel
theorem dX6_lay_58 : decode cX6_lay 58 = .ok (.bipush 60, 2) := by decide +kernel
theorem dX6_lay_60 : decode cX6_lay 60 = .ok (.if_icmp .le 13, 3) := by decide +kernel
theorem dX6_lay_63 : decode cX6_lay 63 = .ok (.new 76, 3) := by decide +kernel
theorem dX6_lay_66 : decode cX6_lay 66 = .ok (.dup, 1) := by decide +kernel
theorem dX6_lay_67 : decode cX6_lay 67 = .ok (.ldc 78, 2) := by decide +kernel
theorem dX6_lay_69 : decode cX6_lay 69 = .ok (.invokespecial 80, 3) := by decide +kernel
theorem dX6_lay_72 : decode cX6_lay 72 = .ok (.athrow, 1) := by decide +kernel
theorem dX6_lay_73 : decode cX6_lay 73 = .ok (.aload_n 0, 1) := by decide +kernel
theorem dX6_lay_74 : decode cX6_lay 74 = .ok (.getfield 11, 3) := by decide +kernel
theorem dX6_lay_77 : decode cX6_lay 77 = .ok (.iload_n 1, 1) := by decide +kernel
theorem dX6_lay_78 : decode cX6_lay 78 = .ok (.aaload, 1) := by decide +kernel
theorem dX6_lay_79 : decode cX6_lay 79 = .ok (.astore 5, 2) := by decide +kernel
theorem dX6_lay_81 : decode cX6_lay 81 = .ok (.aload 5, 2) := by decide +kernel
theorem dX6_lay_83 : decode cX6_lay 83 = .ok (.iconst 1, 1) := by decide +kernel
theorem dX6_lay_84 : decode cX6_lay 84 = .ok (.putfield 72, 3) := by decide +kernel
theorem dX6_lay_87 : decode cX6_lay 87 = .ok (.aload 5, 2) := by decide +kernel
theorem dX6_lay_89 : decode cX6_lay 89 = .ok (.iload_n 2, 1) := by decide +kernel
theorem dX6_lay_90 : decode cX6_lay 90 = .ok (.iload_n 3, 1) := by decide +kernel
theorem dX6_lay_91 : decode cX6_lay 91 = .ok (.invokestatic 39, 3) := by decide +kernel
theorem dX6_lay_94 : decode cX6_lay 94 = .ok (.putfield 81, 3) := by decide +kernel
theorem dX6_lay_97 : decode cX6_lay 97 = .ok (.aload 5, 2) := by decide +kernel
theorem dX6_lay_99 : decode cX6_lay 99 = .ok (.iload_n 2, 1) := by decide +kernel
theorem dX6_lay_100 : decode cX6_lay 100 = .ok (.iload_n 3, 1) := by decide +kernel
theorem dX6_lay_101 : decode cX6_lay 101 = .ok (.invokestatic 45, 3) := by decide +kernel
theorem dX6_lay_104 : decode cX6_lay 104 = .ok (.putfield 84, 3) := by decide +kernel
theorem dX6_lay_107 : decode cX6_lay 107 = .ok (.aload 5, 2) := by decide +kernel
theorem dX6_lay_109 : decode cX6_lay 109 = .ok (.iload 4, 2) := by decide +kernel
theorem dX6_lay_111 : decode cX6_lay 111 = .ok (.putfield 87, 3) := by decide +kernel
theorem dX6_lay_114 : decode cX6_lay 114 = .ok (.return_, 1) := by decide +kernel
theorem dX6_turn_0 : decode cX6_turn 0 = .ok (.iload_n 1, 1) := by decide +kernel
theorem dX6_turn_1 : decode cX6_turn 1 = .ok (.invokestatic 58, 3) := by decide +kernel
theorem dX6_turn_4 : decode cX6_turn 4 = .ok (.ifCond .ne 13, 3) := by decide +kernel
theorem dX6_turn_7 : decode cX6_turn 7 = .ok (.new 65, 3) := by decide +kernel
theorem dX6_turn_10 : decode cX6_turn 10 = .ok (.dup, 1) := by decide +kernel
theorem dX6_turn_11 : decode cX6_turn 11 = .ok (.ldc 90, 2) := by decide +kernel
theorem dX6_turn_13 : decode cX6_turn 13 = .ok (.invokespecial 69, 3) := by decide +kernel
theorem dX6_turn_16 : decode cX6_turn 16 = .ok (.athrow, 1) := by decide +kernel
theorem dX6_turn_17 : decode cX6_turn 17 = .ok (.aload_n 0, 1) := by decide +kernel
theorem dX6_turn_18 : decode cX6_turn 18 = .ok (.getfield 11, 3) := by decide +kernel
theorem dX6_turn_21 : decode cX6_turn 21 = .ok (.iload_n 1, 1) := by decide +kernel
theorem dX6_turn_22 : decode cX6_turn 22 = .ok (.aaload, 1) := by decide +kernel
theorem dX6_turn_23 : decode cX6_turn 23 = .ok (.getfield 72, 3) := by decide +kernel
theorem dX6_turn_26 : decode cX6_turn 26 = .ok (.ifCond .eq 16, 3) := by decide +kernel
theorem dX6_turn_29 : decode cX6_turn 29 = .ok (.aload_n 0, 1) := by decide +kernel
theorem dX6_turn_30 : decode cX6_turn 30 = .ok (.getfield 11, 3) := by decide +kernel
theorem dX6_turn_33 : decode cX6_turn 33 = .ok (.iload_n 1, 1) := by decide +kernel
theorem dX6_turn_34 : decode cX6_turn 34 = .ok (.aaload, 1) := by decide +kernel
theorem dX6_turn_35 : decode cX6_turn 35 = .ok (.getfield 92, 3) := by decide +kernel
theorem dX6_turn_38 : decode cX6_turn 38 = .ok (.iload_n 2, 1) := by decide +kernel
theorem dX6_turn_39 : decode cX6_turn 39 = .ok (.if_icmp .ne 13, 3) := by decide +kernel
theorem dX6_turn_42 : decode cX6_turn 42 = .ok (.new 76, 3) := by decide +kernel
theorem dX6_turn_45 : decode cX6_turn 45 = .ok (.dup, 1) := by decide +kernel
theorem dX6_turn_46 : decode cX6_turn 46 = .ok (.ldc 95, 2) := by decide +kernel
theorem dX6_turn_48 : decode cX6_turn 48 = .ok (.invokespecial 80, 3) := by decide +kernel
theorem dX6_turn_51 : decode cX6_turn 51 = .ok (.athrow, 1) := by decide +kernel
theorem dX6_turn_52 : decode cX6_turn 52 = .ok (.iload_n 2, 1) := by decide +kernel
theorem dX6_turn_53 : decode cX6_turn 53 = .ok (.ifCond .eq 11, 3) := by decide +kernel
theorem dX6_turn_56 : decode cX6_turn 56 = .ok (.aload_n 0, 1) := by decide +kernel
theorem dX6_turn_57 : decode cX6_turn 57 = .ok (.iload_n 1, 1) := by decide +kernel
theorem dX6_turn_58 : decode cX6_turn 58 = .ok (.invokevirtual 97, 3) := by decide +kernel
theorem dX6_turn_61 : decode cX6_turn 61 = .ok (.goto 8, 3) := by decide +kernel
theorem dX6_turn_64 : decode cX6_turn 64 = .ok (.aload_n 0, 1) := by decide +kernel
theorem dX6_turn_65 : decode cX6_turn 65 = .ok (.iload_n 1, 1) := by decide +kernel
theorem dX6_turn_66 : decode cX6_turn 66 = .ok (.invokevirtual 100, 3) := by decide +kernel
theorem dX6_turn_69 : decode cX6_turn 69 = .ok (.return_, 1) := by decide +kernel
theorem dX6_attach_0 : decode cX6_attach 0 = .ok (.iload_n 1, 1) := by decide +kernel
theorem dX6_attach_1 : decode cX6_attach 1 = .ok (.invokestatic 103, 3) := by decide +kernel
theorem dX6_attach_4 : decode cX6_attach 4 = .ok (.ifCond .eq 16, 3) := by decide +kernel
theorem dX6_attach_7 : decode cX6_attach 7 = .ok (.iload_n 2, 1) := by decide +kernel
theorem dX6_attach_8 : decode cX6_attach 8 = .ok (.iconst (-1), 1) := by decide +kernel
theorem dX6_attach_9 : decode cX6_attach 9 = .ok (.if_icmp .eq 21, 3) := by decide +kernel
theorem dX6_attach_12 : decode cX6_attach 12 = .ok (.aload_n 0, 1) := by decide +kernel
theorem dX6_attach_13 : decode cX6_attach 13 = .ok (.iload_n 2, 1) := by decide +kernel
theorem dX6_attach_14 : decode cX6_attach 14 = .ok (.invokevirtual 62, 3) := by decide +kernel
theorem dX6_attach_17 : decode cX6_attach 17 = .ok (.ifCond .ne 13, 3) := by decide +kernel
theorem dX6_attach_20 : decode cX6_attach 20 = .ok (.new 65, 3) := by decide +kernel
theorem dX6_attach_23 : decode cX6_attach 23 = .ok (.dup, 1) := by decide +kernel
theorem dX6_attach_24 : decode cX6_attach 24 = .ok (.ldc 106, 2) := by decide +kernel
theorem dX6_attach_26 : decode cX6_attach 26 = .ok (.invokespecial 69, 3) := by decide +kernel
theorem dX6_attach_29 : decode cX6_attach 29 = .ok (.athrow, 1) := by decide +kernel
theorem dX6_attach_30 : decode cX6_attach 30 = .ok (.aload_n 0, 1) := by decide +kernel
theorem dX6_attach_31 : decode cX6_attach 31 = .ok (.getfield 15, 3) := by decide +kernel
theorem dX6_attach_34 : decode cX6_attach 34 = .ok (.iload_n 1, 1) := by decide +kernel
theorem dX6_attach_35 : decode cX6_attach 35 = .ok (.iaload, 1) := by decide +kernel
theorem dX6_attach_36 : decode cX6_attach 36 = .ok (.istore_n 3, 1) := by decide +kernel
theorem dX6_attach_37 : decode cX6_attach 37 = .ok (.iload_n 3, 1) := by decide +kernel
theorem dX6_attach_38 : decode cX6_attach 38 = .ok (.iload_n 2, 1) := by decide +kernel
theorem dX6_attach_39 : decode cX6_attach 39 = .ok (.if_icmp .ne 13, 3) := by decide +kernel
theorem dX6_attach_42 : decode cX6_attach 42 = .ok (.new 76, 3) := by decide +kernel
theorem dX6_attach_45 : decode cX6_attach 45 = .ok (.dup, 1) := by decide +kernel
theorem dX6_attach_46 : decode cX6_attach 46 = .ok (.ldc 108, 2) := by decide +kernel
theorem dX6_attach_48 : decode cX6_attach 48 = .ok (.invokespecial 80, 3) := by decide +kernel
theorem dX6_attach_51 : decode cX6_attach 51 = .ok (.athrow, 1) := by decide +kernel
theorem dX6_attach_52 : decode cX6_attach 52 = .ok (.aload_n 0, 1) := by decide +kernel
theorem dX6_attach_53 : decode cX6_attach 53 = .ok (.getfield 15, 3) := by decide +kernel
theorem dX6_attach_56 : decode cX6_attach 56 = .ok (.iload_n 1, 1) := by decide +kernel
theorem dX6_attach_57 : decode cX6_attach 57 = .ok (.iload_n 2, 1) := by decide +kernel
theorem dX6_attach_58 : decode cX6_attach 58 = .ok (.iastore, 1) := by decide +kernel
theorem dX6_attach_59 : decode cX6_attach 59 = .ok (.iload_n 3, 1) := by decide +kernel
theorem dX6_attach_60 : decode cX6_attach 60 = .ok (.iconst (-1), 1) := by decide +kernel
theorem dX6_attach_61 : decode cX6_attach 61 = .ok (.if_icmp .eq 23, 3) := by decide +kernel
theorem dX6_attach_64 : decode cX6_attach 64 = .ok (.aload_n 0, 1) := by decide +kernel
theorem dX6_attach_65 : decode cX6_attach 65 = .ok (.aload_n 0, 1) := by decide +kernel
theorem dX6_attach_66 : decode cX6_attach 66 = .ok (.getfield 50, 3) := by decide +kernel
theorem dX6_attach_69 : decode cX6_attach 69 = .ok (.iload_n 3, 1) := by decide +kernel
theorem dX6_attach_70 : decode cX6_attach 70 = .ok (.aaload, 1) := by decide +kernel
theorem dX6_attach_71 : decode cX6_attach 71 = .ok (.invokevirtual 110, 3) := by decide +kernel
theorem dX6_attach_74 : decode cX6_attach 74 = .ok (.aload_n 0, 1) := by decide +kernel
theorem dX6_attach_75 : decode cX6_attach 75 = .ok (.aload_n 0, 1) := by decide +kernel
theorem dX6_attach_76 : decode cX6_attach 76 = .ok (.getfield 50, 3) := by decide +kernel
theorem dX6_attach_79 : decode cX6_attach 79 = .ok (.iload_n 3, 1) := by decide +kernel
theorem dX6_attach_80 : decode cX6_attach 80 = .ok (.aaload, 1) := by decide +kernel
theorem dX6_attach_81 : decode cX6_attach 81 = .ok (.invokevirtual 114, 3) := by decide +kernel
theorem dX6_attach_84 : decode cX6_attach 84 = .ok (.iload_n 2, 1) := by decide +kernel
theorem dX6_attach_85 : decode cX6_attach 85 = .ok (.iconst (-1), 1) := by decide +kernel
theorem dX6_attach_86 : decode cX6_attach 86 = .ok (.if_icmp .eq 23, 3) := by decide +kernel
theorem dX6_attach_89 : decode cX6_attach 89 = .ok (.aload_n 0, 1) := by decide +kernel
theorem dX6_attach_90 : decode cX6_attach 90 = .ok (.aload_n 0, 1) := by decide +kernel
theorem dX6_attach_91 : decode cX6_attach 91 = .ok (.getfield 50, 3) := by decide +kernel
theorem dX6_attach_94 : decode cX6_attach 94 = .ok (.iload_n 2, 1) := by decide +kernel
theorem dX6_attach_95 : decode cX6_attach 95 = .ok (.aaload, 1) := by decide +kernel
theorem dX6_attach_96 : decode cX6_attach 96 = .ok (.invokevirtual 110, 3) := by decide +kernel
theorem dX6_attach_99 : decode cX6_attach 99 = .ok (.aload_n 0, 1) := by decide +kernel
theorem dX6_attach_100 : decode cX6_attach 100 = .ok (.aload_n 0, 1) := by decide +kernel
theorem dX6_attach_101 : decode cX6_attach 101 = .ok (.getfield 50, 3) := by decide +kernel
theorem dX6_attach_104 : decode cX6_attach 104 = .ok (.iload_n 2, 1) := by decide +kernel
theorem dX6_attach_105 : decode cX6_attach 105 = .ok (.aaload, 1) := by decide +kernel
theorem dX6_attach_106 : decode cX6_attach 106 = .ok (.invokevirtual 114, 3) := by decide +kernel
theorem dX6_attach_109 : decode cX6_attach 109 = .ok (.return_, 1) := by decide +kernel
theorem dX6_deliver_0 : decode cX6_deliver 0 = .ok (.iload_n 1, 1) := by decide +kernel
theorem dX6_deliver_1 : decode cX6_deliver 1 = .ok (.invokestatic 58, 3) := by decide +kernel
theorem dX6_deliver_4 : decode cX6_deliver 4 = .ok (.ifCond .eq 10, 3) := by decide +kernel
theorem dX6_deliver_7 : decode cX6_deliver 7 = .ok (.iload_n 2, 1) := by decide +kernel
theorem dX6_deliver_8 : decode cX6_deliver 8 = .ok (.invokestatic 117, 3) := by decide +kernel
theorem dX6_deliver_11 : decode cX6_deliver 11 = .ok (.ifCond .ne 13, 3) := by decide +kernel
theorem dX6_deliver_14 : decode cX6_deliver 14 = .ok (.new 65, 3) := by decide +kernel
theorem dX6_deliver_17 : decode cX6_deliver 17 = .ok (.dup, 1) := by decide +kernel
theorem dX6_deliver_18 : decode cX6_deliver 18 = .ok (.ldc 120, 2) := by decide +kernel
theorem dX6_deliver_20 : decode cX6_deliver 20 = .ok (.invokespecial 69, 3) := by decide +kernel
theorem dX6_deliver_23 : decode cX6_deliver 23 = .ok (.athrow, 1) := by decide +kernel
theorem dX6_deliver_24 : decode cX6_deliver 24 = .ok (.aload_n 0, 1) := by decide +kernel
theorem dX6_deliver_25 : decode cX6_deliver 25 = .ok (.iload_n 1, 1) := by decide +kernel
theorem dX6_deliver_26 : decode cX6_deliver 26 = .ok (.iload_n 2, 1) := by decide +kernel
theorem dX6_deliver_27 : decode cX6_deliver 27 = .ok (.invokevirtual 122, 3) := by decide +kernel
theorem dX6_deliver_30 : decode cX6_deliver 30 = .ok (.ireturn, 1) := by decide +kernel
theorem dX6_run_0 : decode cX6_run 0 = .ok (.iload_n 1, 1) := by decide +kernel
theorem dX6_run_1 : decode cX6_run 1 = .ok (.ifCond .lt 10, 3) := by decide +kernel
theorem dX6_run_4 : decode cX6_run 4 = .ok (.iload_n 1, 1) := by decide +kernel
theorem dX6_run_5 : decode cX6_run 5 = .ok (.sipush 500, 3) := by decide +kernel
theorem dX6_run_8 : decode cX6_run 8 = .ok (.if_icmp .le 13, 3) := by decide +kernel
theorem dX6_run_11 : decode cX6_run 11 = .ok (.new 76, 3) := by decide +kernel
theorem dX6_run_14 : decode cX6_run 14 = .ok (.dup, 1) := by decide +kernel
theorem dX6_run_15 : decode cX6_run 15 = .ok (.ldc 125, 2) := by decide +kernel
theorem dX6_run_17 : decode cX6_run 17 = .ok (.invokespecial 80, 3) := by decide +kernel
theorem dX6_run_20 : decode cX6_run 20 = .ok (.athrow, 1) := by decide +kernel
theorem dX6_run_21 : decode cX6_run 21 = .ok (.iconst 0, 1) := by decide +kernel
theorem dX6_run_22 : decode cX6_run 22 = .ok (.istore_n 2, 1) := by decide +kernel
theorem dX6_run_23 : decode cX6_run 23 = .ok (.iload_n 2, 1) := by decide +kernel
theorem dX6_run_24 : decode cX6_run 24 = .ok (.iload_n 1, 1) := by decide +kernel
theorem dX6_run_25 : decode cX6_run 25 = .ok (.if_icmp .ge 32, 3) := by decide +kernel
theorem dX6_run_28 : decode cX6_run 28 = .ok (.aload_n 0, 1) := by decide +kernel
theorem dX6_run_29 : decode cX6_run 29 = .ok (.invokevirtual 127, 3) := by decide +kernel
theorem dX6_run_32 : decode cX6_run 32 = .ok (.istore_n 3, 1) := by decide +kernel
theorem dX6_run_33 : decode cX6_run 33 = .ok (.iload_n 3, 1) := by decide +kernel
theorem dX6_run_34 : decode cX6_run 34 = .ok (.iconst (-1), 1) := by decide +kernel
theorem dX6_run_35 : decode cX6_run 35 = .ok (.if_icmp .ne 5, 3) := by decide +kernel
theorem dX6_run_38 : decode cX6_run 38 = .ok (.iload_n 2, 1) := by decide +kernel
theorem dX6_run_39 : decode cX6_run 39 = .ok (.ireturn, 1) := by decide +kernel
theorem dX6_run_40 : decode cX6_run 40 = .ok (.aload_n 0, 1) := by decide +kernel
theorem dX6_run_41 : decode cX6_run 41 = .ok (.iload_n 3, 1) := by decide +kernel
theorem dX6_run_42 : decode cX6_run 42 = .ok (.iconst 2, 1) := by decide +kernel
theorem dX6_run_43 : decode cX6_run 43 = .ok (.idiv, 1) := by decide +kernel
theorem dX6_run_44 : decode cX6_run 44 = .ok (.iload_n 3, 1) := by decide +kernel
theorem dX6_run_45 : decode cX6_run 45 = .ok (.iconst 2, 1) := by decide +kernel
theorem dX6_run_46 : decode cX6_run 46 = .ok (.irem, 1) := by decide +kernel
theorem dX6_run_47 : decode cX6_run 47 = .ok (.invokevirtual 122, 3) := by decide +kernel
theorem dX6_run_50 : decode cX6_run 50 = .ok (.pop, 1) := by decide +kernel
theorem dX6_run_51 : decode cX6_run 51 = .ok (.iinc 2 1, 3) := by decide +kernel
theorem dX6_run_54 : decode cX6_run 54 = .ok (.goto (-31), 3) := by decide +kernel
theorem dX6_run_57 : decode cX6_run 57 = .ok (.iload_n 1, 1) := by decide +kernel
theorem dX6_run_58 : decode cX6_run 58 = .ok (.ireturn, 1) := by decide +kernel
theorem dX6_spoil_0 : decode cX6_spoil 0 = .ok (.iload_n 1, 1) := by decide +kernel
theorem dX6_spoil_1 : decode cX6_spoil 1 = .ok (.invokestatic 58, 3) := by decide +kernel
theorem dX6_spoil_4 : decode cX6_spoil 4 = .ok (.ifCond .eq 10, 3) := by decide +kernel
theorem dX6_spoil_7 : decode cX6_spoil 7 = .ok (.iload_n 2, 1) := by decide +kernel
theorem dX6_spoil_8 : decode cX6_spoil 8 = .ok (.invokestatic 117, 3) := by decide +kernel
theorem dX6_spoil_11 : decode cX6_spoil 11 = .ok (.ifCond .ne 13, 3) := by decide +kernel
theorem dX6_spoil_14 : decode cX6_spoil 14 = .ok (.new 65, 3) := by decide +kernel
theorem dX6_spoil_17 : decode cX6_spoil 17 = .ok (.dup, 1) := by decide +kernel
theorem dX6_spoil_18 : decode cX6_spoil 18 = .ok (.ldc 120, 2) := by decide +kernel
theorem dX6_spoil_20 : decode cX6_spoil 20 = .ok (.invokespecial 69, 3) := by decide +kernel
theorem dX6_spoil_23 : decode cX6_spoil 23 = .ok (.athrow, 1) := by decide +kernel
theorem dX6_spoil_24 : decode cX6_spoil 24 = .ok (.aload_n 0, 1) := by decide +kernel
theorem dX6_spoil_25 : decode cX6_spoil 25 = .ok (.getfield 11, 3) := by decide +kernel
theorem dX6_spoil_28 : decode cX6_spoil 28 = .ok (.iload_n 1, 1) := by decide +kernel
theorem dX6_spoil_29 : decode cX6_spoil 29 = .ok (.aaload, 1) := by decide +kernel
theorem dX6_spoil_30 : decode cX6_spoil 30 = .ok (.getfield 131, 3) := by decide +kernel
theorem dX6_spoil_33 : decode cX6_spoil 33 = .ok (.iload_n 2, 1) := by decide +kernel
theorem dX6_spoil_34 : decode cX6_spoil 34 = .ok (.aaload, 1) := by decide +kernel
theorem dX6_spoil_35 : decode cX6_spoil 35 = .ok (.iload_n 3, 1) := by decide +kernel
theorem dX6_spoil_36 : decode cX6_spoil 36 = .ok (.invokevirtual 135, 3) := by decide +kernel
theorem dX6_spoil_39 : decode cX6_spoil 39 = .ok (.astore 4, 2) := by decide +kernel
theorem dX6_spoil_41 : decode cX6_spoil 41 = .ok (.aload 4, 2) := by decide +kernel
theorem dX6_spoil_43 : decode cX6_spoil 43 = .ok (.ifnonnull 5, 3) := by decide +kernel
theorem dX6_spoil_46 : decode cX6_spoil 46 = .ok (.iconst 0, 1) := by decide +kernel
theorem dX6_spoil_47 : decode cX6_spoil 47 = .ok (.ireturn, 1) := by decide +kernel
theorem dX6_spoil_48 : decode cX6_spoil 48 = .ok (.aload 4, 2) := by decide +kernel
theorem dX6_spoil_50 : decode cX6_spoil 50 = .ok (.iconst 1, 1) := by decide +kernel
theorem dX6_spoil_51 : decode cX6_spoil 51 = .ok (.putfield 141, 3) := by decide +kernel
theorem dX6_spoil_54 : decode cX6_spoil 54 = .ok (.iconst 1, 1) := by decide +kernel
theorem dX6_spoil_55 : decode cX6_spoil 55 = .ok (.ireturn, 1) := by decide +kernel
theorem dX6_inject_0 : decode cX6_inject 0 = .ok (.aload_n 0, 1) := by decide +kernel
theorem dX6_inject_1 : decode cX6_inject 1 = .ok (.iload_n 1, 1) := by decide +kernel
theorem dX6_inject_2 : decode cX6_inject 2 = .ok (.invokevirtual 62, 3) := by decide +kernel
theorem dX6_inject_5 : decode cX6_inject 5 = .ok (.ifCond .eq 10, 3) := by decide +kernel
theorem dX6_inject_8 : decode cX6_inject 8 = .ok (.iload_n 2, 1) := by decide +kernel
theorem dX6_inject_9 : decode cX6_inject 9 = .ok (.invokestatic 103, 3) := by decide +kernel
theorem dX6_inject_12 : decode cX6_inject 12 = .ok (.ifCond .ne 13, 3) := by decide +kernel
theorem dX6_inject_15 : decode cX6_inject 15 = .ok (.new 65, 3) := by decide +kernel
theorem dX6_inject_18 : decode cX6_inject 18 = .ok (.dup, 1) := by decide +kernel
theorem dX6_inject_19 : decode cX6_inject 19 = .ok (.ldc 144, 2) := by decide +kernel
theorem dX6_inject_21 : decode cX6_inject 21 = .ok (.invokespecial 69, 3) := by decide +kernel
theorem dX6_inject_24 : decode cX6_inject 24 = .ok (.athrow, 1) := by decide +kernel
theorem dX6_inject_25 : decode cX6_inject 25 = .ok (.iload_n 3, 1) := by decide +kernel
theorem dX6_inject_26 : decode cX6_inject 26 = .ok (.ifCond .lt 18, 3) := by decide +kernel
theorem dX6_inject_29 : decode cX6_inject 29 = .ok (.iload_n 3, 1) := by decide +kernel
theorem dX6_inject_30 : decode cX6_inject 30 = .ok (.bipush 60, 2) := by decide +kernel
theorem dX6_inject_32 : decode cX6_inject 32 = .ok (.if_icmp .gt 12, 3) := by decide +kernel
theorem dX6_inject_35 : decode cX6_inject 35 = .ok (.aload_n 0, 1) := by decide +kernel
theorem dX6_inject_36 : decode cX6_inject 36 = .ok (.getfield 25, 3) := by decide +kernel
theorem dX6_inject_39 : decode cX6_inject 39 = .ok (.bipush 64, 2) := by decide +kernel
theorem dX6_inject_41 : decode cX6_inject 41 = .ok (.if_icmp .lt 13, 3) := by decide +kernel
theorem dX6_inject_44 : decode cX6_inject 44 = .ok (.new 76, 3) := by decide +kernel
theorem dX6_inject_47 : decode cX6_inject 47 = .ok (.dup, 1) := by decide +kernel
theorem dX6_inject_48 : decode cX6_inject 48 = .ok (.ldc 146, 2) := by decide +kernel
theorem dX6_inject_50 : decode cX6_inject 50 = .ok (.invokespecial 80, 3) := by decide +kernel
theorem dX6_inject_53 : decode cX6_inject 53 = .ok (.athrow, 1) := by decide +kernel
theorem dX6_inject_54 : decode cX6_inject 54 = .ok (.aload_n 0, 1) := by decide +kernel
theorem dX6_inject_55 : decode cX6_inject 55 = .ok (.getfield 25, 3) := by decide +kernel
theorem dX6_inject_58 : decode cX6_inject 58 = .ok (.istore 4, 2) := by decide +kernel
theorem dX6_inject_60 : decode cX6_inject 60 = .ok (.aload_n 0, 1) := by decide +kernel
theorem dX6_inject_61 : decode cX6_inject 61 = .ok (.getfield 21, 3) := by decide +kernel
theorem dX6_inject_64 : decode cX6_inject 64 = .ok (.iload 4, 2) := by decide +kernel
theorem dX6_inject_66 : decode cX6_inject 66 = .ok (.new 19, 3) := by decide +kernel
theorem dX6_inject_69 : decode cX6_inject 69 = .ok (.dup, 1) := by decide +kernel
theorem dX6_inject_70 : decode cX6_inject 70 = .ok (.iload_n 2, 1) := by decide +kernel
theorem dX6_inject_71 : decode cX6_inject 71 = .ok (.iload_n 3, 1) := by decide +kernel
theorem dX6_inject_72 : decode cX6_inject 72 = .ok (.invokespecial 148, 3) := by decide +kernel
theorem dX6_inject_75 : decode cX6_inject 75 = .ok (.aastore, 1) := by decide +kernel
theorem dX6_inject_76 : decode cX6_inject 76 = .ok (.aload_n 0, 1) := by decide +kernel
theorem dX6_inject_77 : decode cX6_inject 77 = .ok (.dup, 1) := by decide +kernel
theorem dX6_inject_78 : decode cX6_inject 78 = .ok (.getfield 25, 3) := by decide +kernel
theorem dX6_inject_81 : decode cX6_inject 81 = .ok (.iconst 1, 1) := by decide +kernel
theorem dX6_inject_82 : decode cX6_inject 82 = .ok (.iadd, 1) := by decide +kernel
theorem dX6_inject_83 : decode cX6_inject 83 = .ok (.putfield 25, 3) := by decide +kernel
theorem dX6_inject_86 : decode cX6_inject 86 = .ok (.aload_n 0, 1) := by decide +kernel
theorem dX6_inject_87 : decode cX6_inject 87 = .ok (.aload_n 0, 1) := by decide +kernel
theorem dX6_inject_88 : decode cX6_inject 88 = .ok (.getfield 50, 3) := by decide +kernel
theorem dX6_inject_91 : decode cX6_inject 91 = .ok (.iload_n 1, 1) := by decide +kernel
theorem dX6_inject_92 : decode cX6_inject 92 = .ok (.aaload, 1) := by decide +kernel
theorem dX6_inject_93 : decode cX6_inject 93 = .ok (.iload 4, 2) := by decide +kernel
theorem dX6_inject_95 : decode cX6_inject 95 = .ok (.iconst (-1), 1) := by decide +kernel
theorem dX6_inject_96 : decode cX6_inject 96 = .ok (.invokevirtual 151, 3) := by decide +kernel
theorem dX6_inject_99 : decode cX6_inject 99 = .ok (.iload 4, 2) := by decide +kernel
theorem dX6_inject_101 : decode cX6_inject 101 = .ok (.ireturn, 1) := by decide +kernel
theorem dX6_packet_0 : decode cX6_packet 0 = .ok (.iload_n 1, 1) := by decide +kernel
theorem dX6_packet_1 : decode cX6_packet 1 = .ok (.ifCond .lt 11, 3) := by decide +kernel
theorem dX6_packet_4 : decode cX6_packet 4 = .ok (.iload_n 1, 1) := by decide +kernel
theorem dX6_packet_5 : decode cX6_packet 5 = .ok (.aload_n 0, 1) := by decide +kernel
theorem dX6_packet_6 : decode cX6_packet 6 = .ok (.getfield 25, 3) := by decide +kernel
theorem dX6_packet_9 : decode cX6_packet 9 = .ok (.if_icmp .lt 5, 3) := by decide +kernel
theorem dX6_packet_12 : decode cX6_packet 12 = .ok (.iconst (-1), 1) := by decide +kernel
theorem dX6_packet_13 : decode cX6_packet 13 = .ok (.ireturn, 1) := by decide +kernel
theorem dX6_packet_14 : decode cX6_packet 14 = .ok (.aload_n 0, 1) := by decide +kernel
theorem dX6_packet_15 : decode cX6_packet 15 = .ok (.getfield 21, 3) := by decide +kernel
theorem dX6_packet_18 : decode cX6_packet 18 = .ok (.iload_n 1, 1) := by decide +kernel
theorem dX6_packet_19 : decode cX6_packet 19 = .ok (.aaload, 1) := by decide +kernel
theorem dX6_packet_20 : decode cX6_packet 20 = .ok (.astore_n 3, 1) := by decide +kernel
theorem dX6_packet_21 : decode cX6_packet 21 = .ok (.iload_n 2, 1) := by decide +kernel
theorem dX6_packet_22 : decode cX6_packet 22 = .ok (.tableswitch 59 0 4 #[34, 39, 44, 49, 54], 34) := by decide +kernel
theorem dX6_packet_56 : decode cX6_packet 56 = .ok (.aload_n 3, 1) := by decide +kernel
theorem dX6_packet_57 : decode cX6_packet 57 = .ok (.getfield 155, 3) := by decide +kernel
theorem dX6_packet_60 : decode cX6_packet 60 = .ok (.ireturn, 1) := by decide +kernel
theorem dX6_packet_61 : decode cX6_packet 61 = .ok (.aload_n 3, 1) := by decide +kernel
theorem dX6_packet_62 : decode cX6_packet 62 = .ok (.getfield 158, 3) := by decide +kernel
theorem dX6_packet_65 : decode cX6_packet 65 = .ok (.ireturn, 1) := by decide +kernel
theorem dX6_packet_66 : decode cX6_packet 66 = .ok (.aload_n 3, 1) := by decide +kernel
theorem dX6_packet_67 : decode cX6_packet 67 = .ok (.getfield 161, 3) := by decide +kernel
theorem dX6_packet_70 : decode cX6_packet 70 = .ok (.ireturn, 1) := by decide +kernel
theorem dX6_packet_71 : decode cX6_packet 71 = .ok (.aload_n 3, 1) := by decide +kernel
theorem dX6_packet_72 : decode cX6_packet 72 = .ok (.getfield 164, 3) := by decide +kernel
theorem dX6_packet_75 : decode cX6_packet 75 = .ok (.ireturn, 1) := by decide +kernel
theorem dX6_packet_76 : decode cX6_packet 76 = .ok (.aload_n 3, 1) := by decide +kernel
theorem dX6_packet_77 : decode cX6_packet 77 = .ok (.getfield 167, 3) := by decide +kernel
theorem dX6_packet_80 : decode cX6_packet 80 = .ok (.ireturn, 1) := by decide +kernel
theorem dX6_packet_81 : decode cX6_packet 81 = .ok (.iconst (-1), 1) := by decide +kernel
theorem dX6_packet_82 : decode cX6_packet 82 = .ok (.ireturn, 1) := by decide +kernel
theorem dX6_queue_0 : decode cX6_queue 0 = .ok (.iload_n 1, 1) := by decide +kernel
theorem dX6_queue_1 : decode cX6_queue 1 = .ok (.invokestatic 58, 3) := by decide +kernel
theorem dX6_queue_4 : decode cX6_queue 4 = .ok (.ifCond .eq 10, 3) := by decide +kernel
theorem dX6_queue_7 : decode cX6_queue 7 = .ok (.iload_n 2, 1) := by decide +kernel
theorem dX6_queue_8 : decode cX6_queue 8 = .ok (.invokestatic 117, 3) := by decide +kernel
theorem dX6_queue_11 : decode cX6_queue 11 = .ok (.ifCond .ne 5, 3) := by decide +kernel
theorem dX6_queue_14 : decode cX6_queue 14 = .ok (.iconst (-1), 1) := by decide +kernel
theorem dX6_queue_15 : decode cX6_queue 15 = .ok (.ireturn, 1) := by decide +kernel
theorem dX6_queue_16 : decode cX6_queue 16 = .ok (.aload_n 0, 1) := by decide +kernel
theorem dX6_queue_17 : decode cX6_queue 17 = .ok (.getfield 11, 3) := by decide +kernel
theorem dX6_queue_20 : decode cX6_queue 20 = .ok (.iload_n 1, 1) := by decide +kernel
theorem dX6_queue_21 : decode cX6_queue 21 = .ok (.aaload, 1) := by decide +kernel
theorem dX6_queue_22 : decode cX6_queue 22 = .ok (.getfield 131, 3) := by decide +kernel
theorem dX6_queue_25 : decode cX6_queue 25 = .ok (.iload_n 2, 1) := by decide +kernel
theorem dX6_queue_26 : decode cX6_queue 26 = .ok (.aaload, 1) := by decide +kernel
theorem dX6_queue_27 : decode cX6_queue 27 = .ok (.astore 4, 2) := by decide +kernel
theorem dX6_queue_29 : decode cX6_queue 29 = .ok (.iload_n 3, 1) := by decide +kernel
theorem dX6_queue_30 : decode cX6_queue 30 = .ok (.ifCond .ne 9, 3) := by decide +kernel
theorem dX6_queue_33 : decode cX6_queue 33 = .ok (.aload 4, 2) := by decide +kernel
theorem dX6_queue_35 : decode cX6_queue 35 = .ok (.getfield 170, 3) := by decide +kernel
theorem dX6_queue_38 : decode cX6_queue 38 = .ok (.ireturn, 1) := by decide +kernel
theorem dX6_queue_39 : decode cX6_queue 39 = .ok (.aload 4, 2) := by decide +kernel
theorem dX6_queue_41 : decode cX6_queue 41 = .ok (.iconst 0, 1) := by decide +kernel
theorem dX6_queue_42 : decode cX6_queue 42 = .ok (.invokevirtual 135, 3) := by decide +kernel
theorem dX6_queue_45 : decode cX6_queue 45 = .ok (.astore 5, 2) := by decide +kernel
theorem dX6_queue_47 : decode cX6_queue 47 = .ok (.aload 5, 2) := by decide +kernel
theorem dX6_queue_49 : decode cX6_queue 49 = .ok (.ifnonnull 5, 3) := by decide +kernel
theorem dX6_queue_52 : decode cX6_queue 52 = .ok (.iconst (-1), 1) := by decide +kernel
theorem dX6_queue_53 : decode cX6_queue 53 = .ok (.ireturn, 1) := by decide +kernel
theorem dX6_queue_54 : decode cX6_queue 54 = .ok (.iload_n 3, 1) := by decide +kernel
theorem dX6_queue_55 : decode cX6_queue 55 = .ok (.tableswitch 53 1 4 #[29, 35, 41, 47], 29) := by decide +kernel
theorem dX6_queue_84 : decode cX6_queue 84 = .ok (.aload 5, 2) := by decide +kernel
theorem dX6_queue_86 : decode cX6_queue 86 = .ok (.invokevirtual 173, 3) := by decide +kernel
theorem dX6_queue_89 : decode cX6_queue 89 = .ok (.ireturn, 1) := by decide +kernel
theorem dX6_queue_90 : decode cX6_queue 90 = .ok (.aload 5, 2) := by decide +kernel
theorem dX6_queue_92 : decode cX6_queue 92 = .ok (.getfield 176, 3) := by decide +kernel
theorem dX6_queue_95 : decode cX6_queue 95 = .ok (.ireturn, 1) := by decide +kernel
theorem dX6_queue_96 : decode cX6_queue 96 = .ok (.aload 5, 2) := by decide +kernel
theorem dX6_queue_98 : decode cX6_queue 98 = .ok (.getfield 179, 3) := by decide +kernel
theorem dX6_queue_101 : decode cX6_queue 101 = .ok (.ireturn, 1) := by decide +kernel
theorem dX6_queue_102 : decode cX6_queue 102 = .ok (.aload 5, 2) := by decide +kernel
theorem dX6_queue_104 : decode cX6_queue 104 = .ok (.getfield 182, 3) := by decide +kernel
theorem dX6_queue_107 : decode cX6_queue 107 = .ok (.ireturn, 1) := by decide +kernel
theorem dX6_queue_108 : decode cX6_queue 108 = .ok (.iconst (-1), 1) := by decide +kernel
theorem dX6_queue_109 : decode cX6_queue 109 = .ok (.ireturn, 1) := by decide +kernel
theorem dX6_knows_0 : decode cX6_knows 0 = .ok (.aload_n 0, 1) := by decide +kernel
theorem dX6_knows_1 : decode cX6_knows 1 = .ok (.iload_n 1, 1) := by decide +kernel
theorem dX6_knows_2 : decode cX6_knows 2 = .ok (.invokevirtual 62, 3) := by decide +kernel
theorem dX6_knows_5 : decode cX6_knows 5 = .ok (.ifCond .eq 11, 3) := by decide +kernel
theorem dX6_knows_8 : decode cX6_knows 8 = .ok (.aload_n 0, 1) := by decide +kernel
theorem dX6_knows_9 : decode cX6_knows 9 = .ok (.iload_n 2, 1) := by decide +kernel
theorem dX6_knows_10 : decode cX6_knows 10 = .ok (.invokevirtual 62, 3) := by decide +kernel
theorem dX6_knows_13 : decode cX6_knows 13 = .ok (.ifCond .ne 5, 3) := by decide +kernel
theorem dX6_knows_16 : decode cX6_knows 16 = .ok (.iconst (-1), 1) := by decide +kernel
theorem dX6_knows_17 : decode cX6_knows 17 = .ok (.ireturn, 1) := by decide +kernel
theorem dX6_knows_18 : decode cX6_knows 18 = .ok (.aload_n 0, 1) := by decide +kernel
theorem dX6_knows_19 : decode cX6_knows 19 = .ok (.getfield 50, 3) := by decide +kernel
theorem dX6_knows_22 : decode cX6_knows 22 = .ok (.iload_n 1, 1) := by decide +kernel
theorem dX6_knows_23 : decode cX6_knows 23 = .ok (.aaload, 1) := by decide +kernel
theorem dX6_knows_24 : decode cX6_knows 24 = .ok (.getfield 185, 3) := by decide +kernel
theorem dX6_knows_27 : decode cX6_knows 27 = .ok (.iload_n 2, 1) := by decide +kernel
theorem dX6_knows_28 : decode cX6_knows 28 = .ok (.aaload, 1) := by decide +kernel
theorem dX6_knows_29 : decode cX6_knows 29 = .ok (.astore_n 3, 1) := by decide +kernel
theorem dX6_knows_30 : decode cX6_knows 30 = .ok (.aload_n 3, 1) := by decide +kernel
theorem dX6_knows_31 : decode cX6_knows 31 = .ok (.ifnonnull 7, 3) := by decide +kernel
theorem dX6_knows_34 : decode cX6_knows 34 = .ok (.iconst 0, 1) := by decide +kernel
theorem dX6_knows_35 : decode cX6_knows 35 = .ok (.goto 7, 3) := by decide +kernel
theorem dX6_knows_38 : decode cX6_knows 38 = .ok (.aload_n 3, 1) := by decide +kernel
theorem dX6_knows_39 : decode cX6_knows 39 = .ok (.getfield 189, 3) := by decide +kernel
theorem dX6_knows_42 : decode cX6_knows 42 = .ok (.ireturn, 1) := by decide +kernel
theorem dX6_way_0 : decode cX6_way 0 = .ok (.aload_n 0, 1) := by decide +kernel
theorem dX6_way_1 : decode cX6_way 1 = .ok (.iload_n 1, 1) := by decide +kernel
theorem dX6_way_2 : decode cX6_way 2 = .ok (.invokevirtual 62, 3) := by decide +kernel
theorem dX6_way_5 : decode cX6_way 5 = .ok (.ifCond .eq 11, 3) := by decide +kernel
theorem dX6_way_8 : decode cX6_way 8 = .ok (.aload_n 0, 1) := by decide +kernel
theorem dX6_way_9 : decode cX6_way 9 = .ok (.iload_n 2, 1) := by decide +kernel
theorem dX6_way_10 : decode cX6_way 10 = .ok (.invokevirtual 62, 3) := by decide +kernel
theorem dX6_way_13 : decode cX6_way 13 = .ok (.ifCond .ne 5, 3) := by decide +kernel
theorem dX6_way_16 : decode cX6_way 16 = .ok (.iconst (-1), 1) := by decide +kernel
theorem dX6_way_17 : decode cX6_way 17 = .ok (.ireturn, 1) := by decide +kernel
theorem dX6_way_18 : decode cX6_way 18 = .ok (.iload_n 3, 1) := by decide +kernel
theorem dX6_way_19 : decode cX6_way 19 = .ok (.ifCond .ne 32, 3) := by decide +kernel
theorem dX6_way_22 : decode cX6_way 22 = .ok (.aload_n 0, 1) := by decide +kernel
theorem dX6_way_23 : decode cX6_way 23 = .ok (.getfield 50, 3) := by decide +kernel
theorem dX6_way_26 : decode cX6_way 26 = .ok (.iload_n 1, 1) := by decide +kernel
theorem dX6_way_27 : decode cX6_way 27 = .ok (.aaload, 1) := by decide +kernel
theorem dX6_way_28 : decode cX6_way 28 = .ok (.getfield 194, 3) := by decide +kernel
theorem dX6_way_31 : decode cX6_way 31 = .ok (.iload_n 1, 1) := by decide +kernel
theorem dX6_way_32 : decode cX6_way 32 = .ok (.aaload, 1) := by decide +kernel
theorem dX6_way_33 : decode cX6_way 33 = .ok (.iload_n 2, 1) := by decide +kernel
theorem dX6_way_34 : decode cX6_way 34 = .ok (.iaload, 1) := by decide +kernel
theorem dX6_way_35 : decode cX6_way 35 = .ok (.istore 4, 2) := by decide +kernel
theorem dX6_way_37 : decode cX6_way 37 = .ok (.iload 4, 2) := by decide +kernel
theorem dX6_way_39 : decode cX6_way 39 = .ok (.ldc 198, 2) := by decide +kernel
theorem dX6_way_41 : decode cX6_way 41 = .ok (.if_icmp .ge 8, 3) := by decide +kernel
theorem dX6_way_44 : decode cX6_way 44 = .ok (.iload 4, 2) := by decide +kernel
theorem dX6_way_46 : decode cX6_way 46 = .ok (.goto 4, 3) := by decide +kernel
theorem dX6_way_49 : decode cX6_way 49 = .ok (.iconst (-1), 1) := by decide +kernel
theorem dX6_way_50 : decode cX6_way 50 = .ok (.ireturn, 1) := by decide +kernel
theorem dX6_way_51 : decode cX6_way 51 = .ok (.iload_n 3, 1) := by decide +kernel
theorem dX6_way_52 : decode cX6_way 52 = .ok (.iconst 1, 1) := by decide +kernel
theorem dX6_way_53 : decode cX6_way 53 = .ok (.if_icmp .ne 17, 3) := by decide +kernel
theorem dX6_way_56 : decode cX6_way 56 = .ok (.aload_n 0, 1) := by decide +kernel
theorem dX6_way_57 : decode cX6_way 57 = .ok (.aload_n 0, 1) := by decide +kernel
theorem dX6_way_58 : decode cX6_way 58 = .ok (.getfield 50, 3) := by decide +kernel
theorem dX6_way_61 : decode cX6_way 61 = .ok (.iload_n 1, 1) := by decide +kernel
theorem dX6_way_62 : decode cX6_way 62 = .ok (.aaload, 1) := by decide +kernel
theorem dX6_way_63 : decode cX6_way 63 = .ok (.iload_n 2, 1) := by decide +kernel
theorem dX6_way_64 : decode cX6_way 64 = .ok (.invokevirtual 199, 3) := by decide +kernel
theorem dX6_way_67 : decode cX6_way 67 = .ok (.goto 4, 3) := by decide +kernel
theorem dX6_way_70 : decode cX6_way 70 = .ok (.iconst (-1), 1) := by decide +kernel
theorem dX6_way_71 : decode cX6_way 71 = .ok (.ireturn, 1) := by decide +kernel
theorem dX6_label_0 : decode cX6_label 0 = .ok (.aload_n 0, 1) := by decide +kernel
theorem dX6_label_1 : decode cX6_label 1 = .ok (.iload_n 1, 1) := by decide +kernel
theorem dX6_label_2 : decode cX6_label 2 = .ok (.invokevirtual 62, 3) := by decide +kernel
theorem dX6_label_5 : decode cX6_label 5 = .ok (.ifCond .eq 10, 3) := by decide +kernel
theorem dX6_label_8 : decode cX6_label 8 = .ok (.iload_n 2, 1) := by decide +kernel
theorem dX6_label_9 : decode cX6_label 9 = .ok (.invokestatic 103, 3) := by decide +kernel
theorem dX6_label_12 : decode cX6_label 12 = .ok (.ifCond .ne 5, 3) := by decide +kernel
theorem dX6_label_15 : decode cX6_label 15 = .ok (.iconst (-1), 1) := by decide +kernel
theorem dX6_label_16 : decode cX6_label 16 = .ok (.ireturn, 1) := by decide +kernel
theorem dX6_label_17 : decode cX6_label 17 = .ok (.aload_n 0, 1) := by decide +kernel
theorem dX6_label_18 : decode cX6_label 18 = .ok (.getfield 50, 3) := by decide +kernel
theorem dX6_label_21 : decode cX6_label 21 = .ok (.iload_n 1, 1) := by decide +kernel
theorem dX6_label_22 : decode cX6_label 22 = .ok (.aaload, 1) := by decide +kernel
theorem dX6_label_23 : decode cX6_label 23 = .ok (.astore 5, 2) := by decide +kernel
theorem dX6_label_25 : decode cX6_label 25 = .ok (.iload 4, 2) := by decide +kernel
theorem dX6_label_27 : decode cX6_label 27 = .ok (.tableswitch 84 0 4 #[33, 40, 48, 56, 70], 33) := by decide +kernel
theorem dX6_label_60 : decode cX6_label 60 = .ok (.aload 5, 2) := by decide +kernel
theorem dX6_label_62 : decode cX6_label 62 = .ok (.iload_n 2, 1) := by decide +kernel
theorem dX6_label_63 : decode cX6_label 63 = .ok (.invokevirtual 203, 3) := by decide +kernel
theorem dX6_label_66 : decode cX6_label 66 = .ok (.ireturn, 1) := by decide +kernel
theorem dX6_label_67 : decode cX6_label 67 = .ok (.aload 5, 2) := by decide +kernel
theorem dX6_label_69 : decode cX6_label 69 = .ok (.getfield 207, 3) := by decide +kernel
theorem dX6_label_72 : decode cX6_label 72 = .ok (.iload_n 2, 1) := by decide +kernel
theorem dX6_label_73 : decode cX6_label 73 = .ok (.iaload, 1) := by decide +kernel
theorem dX6_label_74 : decode cX6_label 74 = .ok (.ireturn, 1) := by decide +kernel
theorem dX6_label_75 : decode cX6_label 75 = .ok (.aload 5, 2) := by decide +kernel
theorem dX6_label_77 : decode cX6_label 77 = .ok (.getfield 210, 3) := by decide +kernel
theorem dX6_label_80 : decode cX6_label 80 = .ok (.iload_n 2, 1) := by decide +kernel
theorem dX6_label_81 : decode cX6_label 81 = .ok (.iaload, 1) := by decide +kernel
theorem dX6_label_82 : decode cX6_label 82 = .ok (.ireturn, 1) := by decide +kernel
theorem dX6_label_83 : decode cX6_label 83 = .ok (.aload_n 0, 1) := by decide +kernel
theorem dX6_label_84 : decode cX6_label 84 = .ok (.aload 5, 2) := by decide +kernel
theorem dX6_label_86 : decode cX6_label 86 = .ok (.iload_n 2, 1) := by decide +kernel
theorem dX6_label_87 : decode cX6_label 87 = .ok (.iload_n 3, 1) := by decide +kernel
theorem dX6_label_88 : decode cX6_label 88 = .ok (.aload 5, 2) := by decide +kernel
theorem dX6_label_90 : decode cX6_label 90 = .ok (.getfield 213, 3) := by decide +kernel
theorem dX6_label_93 : decode cX6_label 93 = .ok (.invokevirtual 216, 3) := by decide +kernel
theorem dX6_label_96 : decode cX6_label 96 = .ok (.ireturn, 1) := by decide +kernel
theorem dX6_label_97 : decode cX6_label 97 = .ok (.aload_n 0, 1) := by decide +kernel
theorem dX6_label_98 : decode cX6_label 98 = .ok (.aload 5, 2) := by decide +kernel
theorem dX6_label_100 : decode cX6_label 100 = .ok (.iload_n 2, 1) := by decide +kernel
theorem dX6_label_101 : decode cX6_label 101 = .ok (.iload_n 3, 1) := by decide +kernel
theorem dX6_label_102 : decode cX6_label 102 = .ok (.aload 5, 2) := by decide +kernel
theorem dX6_label_104 : decode cX6_label 104 = .ok (.getfield 220, 3) := by decide +kernel
theorem dX6_label_107 : decode cX6_label 107 = .ok (.invokevirtual 216, 3) := by decide +kernel
theorem dX6_label_110 : decode cX6_label 110 = .ok (.ireturn, 1) := by decide +kernel
theorem dX6_label_111 : decode cX6_label 111 = .ok (.iconst (-1), 1) := by decide +kernel
theorem dX6_label_112 : decode cX6_label 112 = .ok (.ireturn, 1) := by decide +kernel
theorem dX6_count_0 : decode cX6_count 0 = .ok (.iload_n 2, 1) := by decide +kernel
theorem dX6_count_1 : decode cX6_count 1 = .ok (.tableswitch 68 0 3 #[31, 53, 58, 63], 31) := by decide +kernel
theorem dX6_count_32 : decode cX6_count 32 = .ok (.aload_n 0, 1) := by decide +kernel
theorem dX6_count_33 : decode cX6_count 33 = .ok (.iload_n 1, 1) := by decide +kernel
theorem dX6_count_34 : decode cX6_count 34 = .ok (.invokevirtual 62, 3) := by decide +kernel
theorem dX6_count_37 : decode cX6_count 37 = .ok (.ifCond .eq 15, 3) := by decide +kernel
theorem dX6_count_40 : decode cX6_count 40 = .ok (.aload_n 0, 1) := by decide +kernel
theorem dX6_count_41 : decode cX6_count 41 = .ok (.getfield 50, 3) := by decide +kernel
theorem dX6_count_44 : decode cX6_count 44 = .ok (.iload_n 1, 1) := by decide +kernel
theorem dX6_count_45 : decode cX6_count 45 = .ok (.aaload, 1) := by decide +kernel
theorem dX6_count_46 : decode cX6_count 46 = .ok (.invokevirtual 223, 3) := by decide +kernel
theorem dX6_count_49 : decode cX6_count 49 = .ok (.goto 4, 3) := by decide +kernel
theorem dX6_count_52 : decode cX6_count 52 = .ok (.iconst (-1), 1) := by decide +kernel
theorem dX6_count_53 : decode cX6_count 53 = .ok (.ireturn, 1) := by decide +kernel
theorem dX6_count_54 : decode cX6_count 54 = .ok (.aload_n 0, 1) := by decide +kernel
theorem dX6_count_55 : decode cX6_count 55 = .ok (.getfield 29, 3) := by decide +kernel
theorem dX6_count_58 : decode cX6_count 58 = .ok (.ireturn, 1) := by decide +kernel
theorem dX6_count_59 : decode cX6_count 59 = .ok (.aload_n 0, 1) := by decide +kernel
theorem dX6_count_60 : decode cX6_count 60 = .ok (.invokevirtual 226, 3) := by decide +kernel
theorem dX6_count_63 : decode cX6_count 63 = .ok (.ireturn, 1) := by decide +kernel
theorem dX6_count_64 : decode cX6_count 64 = .ok (.aload_n 0, 1) := by decide +kernel
theorem dX6_count_65 : decode cX6_count 65 = .ok (.invokevirtual 229, 3) := by decide +kernel
theorem dX6_count_68 : decode cX6_count 68 = .ok (.ireturn, 1) := by decide +kernel
theorem dX6_count_69 : decode cX6_count 69 = .ok (.iconst (-1), 1) := by decide +kernel
theorem dX6_count_70 : decode cX6_count 70 = .ok (.ireturn, 1) := by decide +kernel
theorem dX6_isLink_0 : decode cX6_isLink 0 = .ok (.iload_n 0, 1) := by decide +kernel
theorem dX6_isLink_1 : decode cX6_isLink 1 = .ok (.ifCond .lt 13, 3) := by decide +kernel
theorem dX6_isLink_4 : decode cX6_isLink 4 = .ok (.iload_n 0, 1) := by decide +kernel
theorem dX6_isLink_5 : decode cX6_isLink 5 = .ok (.bipush 12, 2) := by decide +kernel
theorem dX6_isLink_7 : decode cX6_isLink 7 = .ok (.if_icmp .ge 7, 3) := by decide +kernel
theorem dX6_isLink_10 : decode cX6_isLink 10 = .ok (.iconst 1, 1) := by decide +kernel
theorem dX6_isLink_11 : decode cX6_isLink 11 = .ok (.goto 4, 3) := by decide +kernel
theorem dX6_isLink_14 : decode cX6_isLink 14 = .ok (.iconst 0, 1) := by decide +kernel
theorem dX6_isLink_15 : decode cX6_isLink 15 = .ok (.ireturn, 1) := by decide +kernel
theorem dX6_isEnd_0 : decode cX6_isEnd 0 = .ok (.iload_n 0, 1) := by decide +kernel
theorem dX6_isEnd_1 : decode cX6_isEnd 1 = .ok (.ifCond .lt 12, 3) := by decide +kernel
theorem dX6_isEnd_4 : decode cX6_isEnd 4 = .ok (.iload_n 0, 1) := by decide +kernel
theorem dX6_isEnd_5 : decode cX6_isEnd 5 = .ok (.iconst 2, 1) := by decide +kernel
theorem dX6_isEnd_6 : decode cX6_isEnd 6 = .ok (.if_icmp .ge 7, 3) := by decide +kernel
theorem dX6_isEnd_9 : decode cX6_isEnd 9 = .ok (.iconst 1, 1) := by decide +kernel
theorem dX6_isEnd_10 : decode cX6_isEnd 10 = .ok (.goto 4, 3) := by decide +kernel
theorem dX6_isEnd_13 : decode cX6_isEnd 13 = .ok (.iconst 0, 1) := by decide +kernel
theorem dX6_isEnd_14 : decode cX6_isEnd 14 = .ok (.ireturn, 1) := by decide +kernel
theorem dX6_isPrefix_0 : decode cX6_isPrefix 0 = .ok (.iload_n 0, 1) := by decide +kernel
theorem dX6_isPrefix_1 : decode cX6_isPrefix 1 = .ok (.ifCond .lt 13, 3) := by decide +kernel
theorem dX6_isPrefix_4 : decode cX6_isPrefix 4 = .ok (.iload_n 0, 1) := by decide +kernel
theorem dX6_isPrefix_5 : decode cX6_isPrefix 5 = .ok (.bipush 8, 2) := by decide +kernel
theorem dX6_isPrefix_7 : decode cX6_isPrefix 7 = .ok (.if_icmp .ge 7, 3) := by decide +kernel
theorem dX6_isPrefix_10 : decode cX6_isPrefix 10 = .ok (.iconst 1, 1) := by decide +kernel
theorem dX6_isPrefix_11 : decode cX6_isPrefix 11 = .ok (.goto 4, 3) := by decide +kernel
theorem dX6_isPrefix_14 : decode cX6_isPrefix 14 = .ok (.iconst 0, 1) := by decide +kernel
theorem dX6_isPrefix_15 : decode cX6_isPrefix 15 = .ok (.ireturn, 1) := by decide +kernel
theorem dX6_isRouter_0 : decode cX6_isRouter 0 = .ok (.iload_n 1, 1) := by decide +kernel
theorem dX6_isRouter_1 : decode cX6_isRouter 1 = .ok (.ifCond .lt 16, 3) := by decide +kernel
theorem dX6_isRouter_4 : decode cX6_isRouter 4 = .ok (.iload_n 1, 1) := by decide +kernel
theorem dX6_isRouter_5 : decode cX6_isRouter 5 = .ok (.aload_n 0, 1) := by decide +kernel
theorem dX6_isRouter_6 : decode cX6_isRouter 6 = .ok (.getfield 50, 3) := by decide +kernel
theorem dX6_isRouter_9 : decode cX6_isRouter 9 = .ok (.arraylength, 1) := by decide +kernel
theorem dX6_isRouter_10 : decode cX6_isRouter 10 = .ok (.if_icmp .ge 7, 3) := by decide +kernel
theorem dX6_isRouter_13 : decode cX6_isRouter 13 = .ok (.iconst 1, 1) := by decide +kernel
theorem dX6_isRouter_14 : decode cX6_isRouter 14 = .ok (.goto 4, 3) := by decide +kernel
theorem dX6_isRouter_17 : decode cX6_isRouter 17 = .ok (.iconst 0, 1) := by decide +kernel
theorem dX6_isRouter_18 : decode cX6_isRouter 18 = .ok (.ireturn, 1) := by decide +kernel
theorem dX6_packetsUnderWay_0 : decode cX6_packetsUnderWay 0 = .ok (.iconst 0, 1) := by decide +kernel
theorem dX6_packetsUnderWay_1 : decode cX6_packetsUnderWay 1 = .ok (.istore_n 1, 1) := by decide +kernel
theorem dX6_packetsUnderWay_2 : decode cX6_packetsUnderWay 2 = .ok (.iconst 0, 1) := by decide +kernel
theorem dX6_packetsUnderWay_3 : decode cX6_packetsUnderWay 3 = .ok (.istore_n 2, 1) := by decide +kernel
theorem dX6_packetsUnderWay_4 : decode cX6_packetsUnderWay 4 = .ok (.iload_n 2, 1) := by decide +kernel
theorem dX6_packetsUnderWay_5 : decode cX6_packetsUnderWay 5 = .ok (.aload_n 0, 1) := by decide +kernel
theorem dX6_packetsUnderWay_6 : decode cX6_packetsUnderWay 6 = .ok (.getfield 25, 3) := by decide +kernel
theorem dX6_packetsUnderWay_9 : decode cX6_packetsUnderWay 9 = .ok (.if_icmp .ge 24, 3) := by decide +kernel
theorem dX6_packetsUnderWay_12 : decode cX6_packetsUnderWay 12 = .ok (.aload_n 0, 1) := by decide +kernel
theorem dX6_packetsUnderWay_13 : decode cX6_packetsUnderWay 13 = .ok (.getfield 21, 3) := by decide +kernel
theorem dX6_packetsUnderWay_16 : decode cX6_packetsUnderWay 16 = .ok (.iload_n 2, 1) := by decide +kernel
theorem dX6_packetsUnderWay_17 : decode cX6_packetsUnderWay 17 = .ok (.aaload, 1) := by decide +kernel
theorem dX6_packetsUnderWay_18 : decode cX6_packetsUnderWay 18 = .ok (.getfield 155, 3) := by decide +kernel
theorem dX6_packetsUnderWay_21 : decode cX6_packetsUnderWay 21 = .ok (.ifCond .ne 6, 3) := by decide +kernel
theorem dX6_packetsUnderWay_24 : decode cX6_packetsUnderWay 24 = .ok (.iinc 1 1, 3) := by decide +kernel
theorem dX6_packetsUnderWay_27 : decode cX6_packetsUnderWay 27 = .ok (.iinc 2 1, 3) := by decide +kernel
theorem dX6_packetsUnderWay_30 : decode cX6_packetsUnderWay 30 = .ok (.goto (-26), 3) := by decide +kernel
theorem dX6_packetsUnderWay_33 : decode cX6_packetsUnderWay 33 = .ok (.iload_n 1, 1) := by decide +kernel
theorem dX6_packetsUnderWay_34 : decode cX6_packetsUnderWay 34 = .ok (.ireturn, 1) := by decide +kernel
theorem dX6_linksUp_0 : decode cX6_linksUp 0 = .ok (.iconst 0, 1) := by decide +kernel
theorem dX6_linksUp_1 : decode cX6_linksUp 1 = .ok (.istore_n 1, 1) := by decide +kernel
theorem dX6_linksUp_2 : decode cX6_linksUp 2 = .ok (.iconst 0, 1) := by decide +kernel
theorem dX6_linksUp_3 : decode cX6_linksUp 3 = .ok (.istore_n 2, 1) := by decide +kernel
theorem dX6_linksUp_4 : decode cX6_linksUp 4 = .ok (.iload_n 2, 1) := by decide +kernel
theorem dX6_linksUp_5 : decode cX6_linksUp 5 = .ok (.bipush 12, 2) := by decide +kernel
theorem dX6_linksUp_7 : decode cX6_linksUp 7 = .ok (.if_icmp .ge 24, 3) := by decide +kernel
theorem dX6_linksUp_10 : decode cX6_linksUp 10 = .ok (.aload_n 0, 1) := by decide +kernel
theorem dX6_linksUp_11 : decode cX6_linksUp 11 = .ok (.getfield 11, 3) := by decide +kernel
theorem dX6_linksUp_14 : decode cX6_linksUp 14 = .ok (.iload_n 2, 1) := by decide +kernel
theorem dX6_linksUp_15 : decode cX6_linksUp 15 = .ok (.aaload, 1) := by decide +kernel
theorem dX6_linksUp_16 : decode cX6_linksUp 16 = .ok (.getfield 92, 3) := by decide +kernel
theorem dX6_linksUp_19 : decode cX6_linksUp 19 = .ok (.ifCond .eq 6, 3) := by decide +kernel
theorem dX6_linksUp_22 : decode cX6_linksUp 22 = .ok (.iinc 1 1, 3) := by decide +kernel
theorem dX6_linksUp_25 : decode cX6_linksUp 25 = .ok (.iinc 2 1, 3) := by decide +kernel
theorem dX6_linksUp_28 : decode cX6_linksUp 28 = .ok (.goto (-24), 3) := by decide +kernel
theorem dX6_linksUp_31 : decode cX6_linksUp 31 = .ok (.iload_n 1, 1) := by decide +kernel
theorem dX6_linksUp_32 : decode cX6_linksUp 32 = .ok (.ireturn, 1) := by decide +kernel
theorem dX6_comesUp_0 : decode cX6_comesUp 0 = .ok (.aload_n 0, 1) := by decide +kernel
theorem dX6_comesUp_1 : decode cX6_comesUp 1 = .ok (.getfield 11, 3) := by decide +kernel
theorem dX6_comesUp_4 : decode cX6_comesUp 4 = .ok (.iload_n 1, 1) := by decide +kernel
theorem dX6_comesUp_5 : decode cX6_comesUp 5 = .ok (.aaload, 1) := by decide +kernel
theorem dX6_comesUp_6 : decode cX6_comesUp 6 = .ok (.astore_n 2, 1) := by decide +kernel
theorem dX6_comesUp_7 : decode cX6_comesUp 7 = .ok (.aload_n 0, 1) := by decide +kernel
theorem dX6_comesUp_8 : decode cX6_comesUp 8 = .ok (.getfield 50, 3) := by decide +kernel
theorem dX6_comesUp_11 : decode cX6_comesUp 11 = .ok (.aload_n 2, 1) := by decide +kernel
theorem dX6_comesUp_12 : decode cX6_comesUp 12 = .ok (.getfield 81, 3) := by decide +kernel
theorem dX6_comesUp_15 : decode cX6_comesUp 15 = .ok (.aaload, 1) := by decide +kernel
theorem dX6_comesUp_16 : decode cX6_comesUp 16 = .ok (.astore_n 3, 1) := by decide +kernel
theorem dX6_comesUp_17 : decode cX6_comesUp 17 = .ok (.aload_n 0, 1) := by decide +kernel
theorem dX6_comesUp_18 : decode cX6_comesUp 18 = .ok (.getfield 50, 3) := by decide +kernel
theorem dX6_comesUp_21 : decode cX6_comesUp 21 = .ok (.aload_n 2, 1) := by decide +kernel
theorem dX6_comesUp_22 : decode cX6_comesUp 22 = .ok (.getfield 84, 3) := by decide +kernel
theorem dX6_comesUp_25 : decode cX6_comesUp 25 = .ok (.aaload, 1) := by decide +kernel
theorem dX6_comesUp_26 : decode cX6_comesUp 26 = .ok (.astore 4, 2) := by decide +kernel
theorem dX6_comesUp_28 : decode cX6_comesUp 28 = .ok (.aload_n 2, 1) := by decide +kernel
theorem dX6_comesUp_29 : decode cX6_comesUp 29 = .ok (.iconst 1, 1) := by decide +kernel
theorem dX6_comesUp_30 : decode cX6_comesUp 30 = .ok (.putfield 92, 3) := by decide +kernel
theorem dX6_comesUp_33 : decode cX6_comesUp 33 = .ok (.aload_n 0, 1) := by decide +kernel
theorem dX6_comesUp_34 : decode cX6_comesUp 34 = .ok (.aload_n 3, 1) := by decide +kernel
theorem dX6_comesUp_35 : decode cX6_comesUp 35 = .ok (.invokevirtual 110, 3) := by decide +kernel
theorem dX6_comesUp_38 : decode cX6_comesUp 38 = .ok (.aload_n 0, 1) := by decide +kernel
theorem dX6_comesUp_39 : decode cX6_comesUp 39 = .ok (.aload 4, 2) := by decide +kernel
theorem dX6_comesUp_41 : decode cX6_comesUp 41 = .ok (.invokevirtual 110, 3) := by decide +kernel
theorem dX6_comesUp_44 : decode cX6_comesUp 44 = .ok (.aload_n 0, 1) := by decide +kernel
theorem dX6_comesUp_45 : decode cX6_comesUp 45 = .ok (.aload_n 3, 1) := by decide +kernel
theorem dX6_comesUp_46 : decode cX6_comesUp 46 = .ok (.iload_n 1, 1) := by decide +kernel
theorem dX6_comesUp_47 : decode cX6_comesUp 47 = .ok (.invokevirtual 232, 3) := by decide +kernel
theorem dX6_comesUp_50 : decode cX6_comesUp 50 = .ok (.aload_n 0, 1) := by decide +kernel
theorem dX6_comesUp_51 : decode cX6_comesUp 51 = .ok (.aload 4, 2) := by decide +kernel
theorem dX6_comesUp_53 : decode cX6_comesUp 53 = .ok (.iload_n 1, 1) := by decide +kernel
theorem dX6_comesUp_54 : decode cX6_comesUp 54 = .ok (.invokevirtual 232, 3) := by decide +kernel
theorem dX6_comesUp_57 : decode cX6_comesUp 57 = .ok (.aload_n 0, 1) := by decide +kernel
theorem dX6_comesUp_58 : decode cX6_comesUp 58 = .ok (.aload_n 3, 1) := by decide +kernel
theorem dX6_comesUp_59 : decode cX6_comesUp 59 = .ok (.iload_n 1, 1) := by decide +kernel
theorem dX6_comesUp_60 : decode cX6_comesUp 60 = .ok (.invokevirtual 236, 3) := by decide +kernel
theorem dX6_comesUp_63 : decode cX6_comesUp 63 = .ok (.aload_n 0, 1) := by decide +kernel
theorem dX6_comesUp_64 : decode cX6_comesUp 64 = .ok (.aload 4, 2) := by decide +kernel
theorem dX6_comesUp_66 : decode cX6_comesUp 66 = .ok (.iload_n 1, 1) := by decide +kernel
theorem dX6_comesUp_67 : decode cX6_comesUp 67 = .ok (.invokevirtual 236, 3) := by decide +kernel
theorem dX6_comesUp_70 : decode cX6_comesUp 70 = .ok (.aload_n 0, 1) := by decide +kernel
theorem dX6_comesUp_71 : decode cX6_comesUp 71 = .ok (.aload_n 3, 1) := by decide +kernel
theorem dX6_comesUp_72 : decode cX6_comesUp 72 = .ok (.invokevirtual 114, 3) := by decide +kernel
theorem dX6_comesUp_75 : decode cX6_comesUp 75 = .ok (.aload_n 0, 1) := by decide +kernel
theorem dX6_comesUp_76 : decode cX6_comesUp 76 = .ok (.aload 4, 2) := by decide +kernel
theorem dX6_comesUp_78 : decode cX6_comesUp 78 = .ok (.invokevirtual 114, 3) := by decide +kernel
theorem dX6_comesUp_81 : decode cX6_comesUp 81 = .ok (.return_, 1) := by decide +kernel
theorem dX6_goesDown_0 : decode cX6_goesDown 0 = .ok (.aload_n 0, 1) := by decide +kernel
theorem dX6_goesDown_1 : decode cX6_goesDown 1 = .ok (.getfield 11, 3) := by decide +kernel
theorem dX6_goesDown_4 : decode cX6_goesDown 4 = .ok (.iload_n 1, 1) := by decide +kernel
theorem dX6_goesDown_5 : decode cX6_goesDown 5 = .ok (.aaload, 1) := by decide +kernel
theorem dX6_goesDown_6 : decode cX6_goesDown 6 = .ok (.astore_n 2, 1) := by decide +kernel
theorem dX6_goesDown_7 : decode cX6_goesDown 7 = .ok (.aload_n 0, 1) := by decide +kernel
theorem dX6_goesDown_8 : decode cX6_goesDown 8 = .ok (.getfield 50, 3) := by decide +kernel
theorem dX6_goesDown_11 : decode cX6_goesDown 11 = .ok (.aload_n 2, 1) := by decide +kernel
theorem dX6_goesDown_12 : decode cX6_goesDown 12 = .ok (.getfield 81, 3) := by decide +kernel
theorem dX6_goesDown_15 : decode cX6_goesDown 15 = .ok (.aaload, 1) := by decide +kernel
theorem dX6_goesDown_16 : decode cX6_goesDown 16 = .ok (.astore_n 3, 1) := by decide +kernel
theorem dX6_goesDown_17 : decode cX6_goesDown 17 = .ok (.aload_n 0, 1) := by decide +kernel
theorem dX6_goesDown_18 : decode cX6_goesDown 18 = .ok (.getfield 50, 3) := by decide +kernel
theorem dX6_goesDown_21 : decode cX6_goesDown 21 = .ok (.aload_n 2, 1) := by decide +kernel
theorem dX6_goesDown_22 : decode cX6_goesDown 22 = .ok (.getfield 84, 3) := by decide +kernel
theorem dX6_goesDown_25 : decode cX6_goesDown 25 = .ok (.aaload, 1) := by decide +kernel
theorem dX6_goesDown_26 : decode cX6_goesDown 26 = .ok (.astore 4, 2) := by decide +kernel
theorem dX6_goesDown_28 : decode cX6_goesDown 28 = .ok (.aload_n 2, 1) := by decide +kernel
theorem dX6_goesDown_29 : decode cX6_goesDown 29 = .ok (.iconst 0, 1) := by decide +kernel
theorem dX6_goesDown_30 : decode cX6_goesDown 30 = .ok (.putfield 92, 3) := by decide +kernel
theorem dX6_goesDown_33 : decode cX6_goesDown 33 = .ok (.aload_n 0, 1) := by decide +kernel
theorem dX6_goesDown_34 : decode cX6_goesDown 34 = .ok (.aload_n 2, 1) := by decide +kernel
theorem dX6_goesDown_35 : decode cX6_goesDown 35 = .ok (.getfield 131, 3) := by decide +kernel
theorem dX6_goesDown_38 : decode cX6_goesDown 38 = .ok (.iconst 0, 1) := by decide +kernel
theorem dX6_goesDown_39 : decode cX6_goesDown 39 = .ok (.aaload, 1) := by decide +kernel
theorem dX6_goesDown_40 : decode cX6_goesDown 40 = .ok (.invokevirtual 239, 3) := by decide +kernel
theorem dX6_goesDown_43 : decode cX6_goesDown 43 = .ok (.aload_n 0, 1) := by decide +kernel
theorem dX6_goesDown_44 : decode cX6_goesDown 44 = .ok (.aload_n 2, 1) := by decide +kernel
theorem dX6_goesDown_45 : decode cX6_goesDown 45 = .ok (.getfield 131, 3) := by decide +kernel
theorem dX6_goesDown_48 : decode cX6_goesDown 48 = .ok (.iconst 1, 1) := by decide +kernel
theorem dX6_goesDown_49 : decode cX6_goesDown 49 = .ok (.aaload, 1) := by decide +kernel
theorem dX6_goesDown_50 : decode cX6_goesDown 50 = .ok (.invokevirtual 239, 3) := by decide +kernel
theorem dX6_goesDown_53 : decode cX6_goesDown 53 = .ok (.aload_n 0, 1) := by decide +kernel
theorem dX6_goesDown_54 : decode cX6_goesDown 54 = .ok (.aload_n 3, 1) := by decide +kernel
theorem dX6_goesDown_55 : decode cX6_goesDown 55 = .ok (.invokevirtual 110, 3) := by decide +kernel
theorem dX6_goesDown_58 : decode cX6_goesDown 58 = .ok (.aload_n 0, 1) := by decide +kernel
theorem dX6_goesDown_59 : decode cX6_goesDown 59 = .ok (.aload 4, 2) := by decide +kernel
theorem dX6_goesDown_61 : decode cX6_goesDown 61 = .ok (.invokevirtual 110, 3) := by decide +kernel
theorem dX6_goesDown_64 : decode cX6_goesDown 64 = .ok (.aload_n 3, 1) := by decide +kernel
theorem dX6_goesDown_65 : decode cX6_goesDown 65 = .ok (.iload_n 1, 1) := by decide +kernel
theorem dX6_goesDown_66 : decode cX6_goesDown 66 = .ok (.invokevirtual 243, 3) := by decide +kernel
theorem dX6_goesDown_69 : decode cX6_goesDown 69 = .ok (.aload 4, 2) := by decide +kernel
theorem dX6_goesDown_71 : decode cX6_goesDown 71 = .ok (.iload_n 1, 1) := by decide +kernel
theorem dX6_goesDown_72 : decode cX6_goesDown 72 = .ok (.invokevirtual 243, 3) := by decide +kernel
theorem dX6_goesDown_75 : decode cX6_goesDown 75 = .ok (.aload_n 0, 1) := by decide +kernel
theorem dX6_goesDown_76 : decode cX6_goesDown 76 = .ok (.aload_n 3, 1) := by decide +kernel
theorem dX6_goesDown_77 : decode cX6_goesDown 77 = .ok (.invokevirtual 114, 3) := by decide +kernel
theorem dX6_goesDown_80 : decode cX6_goesDown 80 = .ok (.aload_n 0, 1) := by decide +kernel
theorem dX6_goesDown_81 : decode cX6_goesDown 81 = .ok (.aload 4, 2) := by decide +kernel
theorem dX6_goesDown_83 : decode cX6_goesDown 83 = .ok (.invokevirtual 114, 3) := by decide +kernel
theorem dX6_goesDown_86 : decode cX6_goesDown 86 = .ok (.return_, 1) := by decide +kernel
theorem dX6_cut_0 : decode cX6_cut 0 = .ok (.iconst 0, 1) := by decide +kernel
theorem dX6_cut_1 : decode cX6_cut 1 = .ok (.istore_n 2, 1) := by decide +kernel
theorem dX6_cut_2 : decode cX6_cut 2 = .ok (.iload_n 2, 1) := by decide +kernel
theorem dX6_cut_3 : decode cX6_cut 3 = .ok (.aload_n 1, 1) := by decide +kernel
theorem dX6_cut_4 : decode cX6_cut 4 = .ok (.getfield 170, 3) := by decide +kernel
theorem dX6_cut_7 : decode cX6_cut 7 = .ok (.if_icmp .ge 41, 3) := by decide +kernel
theorem dX6_cut_10 : decode cX6_cut 10 = .ok (.aload_n 1, 1) := by decide +kernel
theorem dX6_cut_11 : decode cX6_cut 11 = .ok (.iload_n 2, 1) := by decide +kernel
theorem dX6_cut_12 : decode cX6_cut 12 = .ok (.invokevirtual 135, 3) := by decide +kernel
theorem dX6_cut_15 : decode cX6_cut 15 = .ok (.astore_n 3, 1) := by decide +kernel
theorem dX6_cut_16 : decode cX6_cut 16 = .ok (.aload_n 3, 1) := by decide +kernel
theorem dX6_cut_17 : decode cX6_cut 17 = .ok (.ifnull 25, 3) := by decide +kernel
theorem dX6_cut_20 : decode cX6_cut 20 = .ok (.aload_n 3, 1) := by decide +kernel
theorem dX6_cut_21 : decode cX6_cut 21 = .ok (.getfield 246, 3) := by decide +kernel
theorem dX6_cut_24 : decode cX6_cut 24 = .ok (.iconst 4, 1) := by decide +kernel
theorem dX6_cut_25 : decode cX6_cut 25 = .ok (.if_icmp .ne 17, 3) := by decide +kernel
theorem dX6_cut_28 : decode cX6_cut 28 = .ok (.aload_n 0, 1) := by decide +kernel
theorem dX6_cut_29 : decode cX6_cut 29 = .ok (.getfield 21, 3) := by decide +kernel
theorem dX6_cut_32 : decode cX6_cut 32 = .ok (.aload_n 3, 1) := by decide +kernel
theorem dX6_cut_33 : decode cX6_cut 33 = .ok (.getfield 176, 3) := by decide +kernel
theorem dX6_cut_36 : decode cX6_cut 36 = .ok (.aaload, 1) := by decide +kernel
theorem dX6_cut_37 : decode cX6_cut 37 = .ok (.bipush 6, 2) := by decide +kernel
theorem dX6_cut_39 : decode cX6_cut 39 = .ok (.putfield 155, 3) := by decide +kernel
theorem dX6_cut_42 : decode cX6_cut 42 = .ok (.iinc 2 1, 3) := by decide +kernel
theorem dX6_cut_45 : decode cX6_cut 45 = .ok (.goto (-43), 3) := by decide +kernel
theorem dX6_cut_48 : decode cX6_cut 48 = .ok (.aload_n 1, 1) := by decide +kernel
theorem dX6_cut_49 : decode cX6_cut 49 = .ok (.iconst 0, 1) := by decide +kernel
theorem dX6_cut_50 : decode cX6_cut 50 = .ok (.putfield 170, 3) := by decide +kernel
theorem dX6_cut_53 : decode cX6_cut 53 = .ok (.return_, 1) := by decide +kernel
theorem dX6_tell_0 : decode cX6_tell 0 = .ok (.aload_n 1, 1) := by decide +kernel
theorem dX6_tell_1 : decode cX6_tell 1 = .ok (.getfield 185, 3) := by decide +kernel
theorem dX6_tell_4 : decode cX6_tell 4 = .ok (.aload_n 1, 1) := by decide +kernel
theorem dX6_tell_5 : decode cX6_tell 5 = .ok (.getfield 249, 3) := by decide +kernel
theorem dX6_tell_8 : decode cX6_tell 8 = .ok (.aaload, 1) := by decide +kernel
theorem dX6_tell_9 : decode cX6_tell 9 = .ok (.astore_n 2, 1) := by decide +kernel
theorem dX6_tell_10 : decode cX6_tell 10 = .ok (.aload_n 2, 1) := by decide +kernel
theorem dX6_tell_11 : decode cX6_tell 11 = .ok (.ifnonnull 7, 3) := by decide +kernel
theorem dX6_tell_14 : decode cX6_tell 14 = .ok (.iconst 1, 1) := by decide +kernel
theorem dX6_tell_15 : decode cX6_tell 15 = .ok (.goto 9, 3) := by decide +kernel
theorem dX6_tell_18 : decode cX6_tell 18 = .ok (.aload_n 2, 1) := by decide +kernel
theorem dX6_tell_19 : decode cX6_tell 19 = .ok (.getfield 189, 3) := by decide +kernel
theorem dX6_tell_22 : decode cX6_tell 22 = .ok (.iconst 1, 1) := by decide +kernel
theorem dX6_tell_23 : decode cX6_tell 23 = .ok (.iadd, 1) := by decide +kernel
theorem dX6_tell_24 : decode cX6_tell 24 = .ok (.istore_n 3, 1) := by decide +kernel
theorem dX6_tell_25 : decode cX6_tell 25 = .ok (.new 190, 3) := by decide +kernel
theorem dX6_tell_28 : decode cX6_tell 28 = .ok (.dup, 1) := by decide +kernel
theorem dX6_tell_29 : decode cX6_tell 29 = .ok (.aload_n 1, 1) := by decide +kernel
theorem dX6_tell_30 : decode cX6_tell 30 = .ok (.getfield 249, 3) := by decide +kernel
theorem dX6_tell_33 : decode cX6_tell 33 = .ok (.iload_n 3, 1) := by decide +kernel
theorem dX6_tell_34 : decode cX6_tell 34 = .ok (.aload_n 0, 1) := by decide +kernel
theorem dX6_tell_35 : decode cX6_tell 35 = .ok (.aload_n 1, 1) := by decide +kernel
theorem dX6_tell_36 : decode cX6_tell 36 = .ok (.getfield 249, 3) := by decide +kernel
theorem dX6_tell_39 : decode cX6_tell 39 = .ok (.invokevirtual 252, 3) := by decide +kernel
theorem dX6_tell_42 : decode cX6_tell 42 = .ok (.aload_n 0, 1) := by decide +kernel
theorem dX6_tell_43 : decode cX6_tell 43 = .ok (.aload_n 1, 1) := by decide +kernel
theorem dX6_tell_44 : decode cX6_tell 44 = .ok (.getfield 249, 3) := by decide +kernel
theorem dX6_tell_47 : decode cX6_tell 47 = .ok (.invokevirtual 255, 3) := by decide +kernel
theorem dX6_tell_50 : decode cX6_tell 50 = .ok (.invokespecial 258, 3) := by decide +kernel
theorem dX6_tell_53 : decode cX6_tell 53 = .ok (.astore 4, 2) := by decide +kernel
theorem dX6_tell_55 : decode cX6_tell 55 = .ok (.aload_n 0, 1) := by decide +kernel
theorem dX6_tell_56 : decode cX6_tell 56 = .ok (.aload_n 1, 1) := by decide +kernel
theorem dX6_tell_57 : decode cX6_tell 57 = .ok (.aload 4, 2) := by decide +kernel
theorem dX6_tell_59 : decode cX6_tell 59 = .ok (.invokevirtual 261, 3) := by decide +kernel
theorem dX6_tell_62 : decode cX6_tell 62 = .ok (.aload_n 0, 1) := by decide +kernel
theorem dX6_tell_63 : decode cX6_tell 63 = .ok (.aload_n 1, 1) := by decide +kernel
theorem dX6_tell_64 : decode cX6_tell 64 = .ok (.aload_n 0, 1) := by decide +kernel
theorem dX6_tell_65 : decode cX6_tell 65 = .ok (.getfield 35, 3) := by decide +kernel
theorem dX6_tell_68 : decode cX6_tell 68 = .ok (.aload 4, 2) := by decide +kernel
theorem dX6_tell_70 : decode cX6_tell 70 = .ok (.invokevirtual 265, 3) := by decide +kernel
theorem dX6_tell_73 : decode cX6_tell 73 = .ok (.iconst (-1), 1) := by decide +kernel
theorem dX6_tell_74 : decode cX6_tell 74 = .ok (.invokevirtual 269, 3) := by decide +kernel
theorem dX6_tell_77 : decode cX6_tell 77 = .ok (.return_, 1) := by decide +kernel
theorem dX6_linksUpAt_0 : decode cX6_linksUpAt 0 = .ok (.iconst 0, 1) := by decide +kernel
theorem dX6_linksUpAt_1 : decode cX6_linksUpAt 1 = .ok (.istore_n 2, 1) := by decide +kernel
theorem dX6_linksUpAt_2 : decode cX6_linksUpAt 2 = .ok (.iconst 0, 1) := by decide +kernel
theorem dX6_linksUpAt_3 : decode cX6_linksUpAt 3 = .ok (.istore_n 3, 1) := by decide +kernel
theorem dX6_linksUpAt_4 : decode cX6_linksUpAt 4 = .ok (.iload_n 3, 1) := by decide +kernel
theorem dX6_linksUpAt_5 : decode cX6_linksUpAt 5 = .ok (.bipush 12, 2) := by decide +kernel
theorem dX6_linksUpAt_7 : decode cX6_linksUpAt 7 = .ok (.if_icmp .ge 28, 3) := by decide +kernel
theorem dX6_linksUpAt_10 : decode cX6_linksUpAt 10 = .ok (.aload_n 0, 1) := by decide +kernel
theorem dX6_linksUpAt_11 : decode cX6_linksUpAt 11 = .ok (.getfield 11, 3) := by decide +kernel
theorem dX6_linksUpAt_14 : decode cX6_linksUpAt 14 = .ok (.iload_n 3, 1) := by decide +kernel
theorem dX6_linksUpAt_15 : decode cX6_linksUpAt 15 = .ok (.aaload, 1) := by decide +kernel
theorem dX6_linksUpAt_16 : decode cX6_linksUpAt 16 = .ok (.iload_n 1, 1) := by decide +kernel
theorem dX6_linksUpAt_17 : decode cX6_linksUpAt 17 = .ok (.invokevirtual 273, 3) := by decide +kernel
theorem dX6_linksUpAt_20 : decode cX6_linksUpAt 20 = .ok (.ifCond .eq 9, 3) := by decide +kernel
theorem dX6_linksUpAt_23 : decode cX6_linksUpAt 23 = .ok (.iload_n 2, 1) := by decide +kernel
theorem dX6_linksUpAt_24 : decode cX6_linksUpAt 24 = .ok (.iconst 1, 1) := by decide +kernel
theorem dX6_linksUpAt_25 : decode cX6_linksUpAt 25 = .ok (.iload_n 3, 1) := by decide +kernel
theorem dX6_linksUpAt_26 : decode cX6_linksUpAt 26 = .ok (.ishl, 1) := by decide +kernel
theorem dX6_linksUpAt_27 : decode cX6_linksUpAt 27 = .ok (.ior, 1) := by decide +kernel
theorem dX6_linksUpAt_28 : decode cX6_linksUpAt 28 = .ok (.istore_n 2, 1) := by decide +kernel
theorem dX6_linksUpAt_29 : decode cX6_linksUpAt 29 = .ok (.iinc 3 1, 3) := by decide +kernel
theorem dX6_linksUpAt_32 : decode cX6_linksUpAt 32 = .ok (.goto (-28), 3) := by decide +kernel
theorem dX6_linksUpAt_35 : decode cX6_linksUpAt 35 = .ok (.iload_n 2, 1) := by decide +kernel
theorem dX6_linksUpAt_36 : decode cX6_linksUpAt 36 = .ok (.ireturn, 1) := by decide +kernel
theorem dX6_prefixesAt_0 : decode cX6_prefixesAt 0 = .ok (.iconst 0, 1) := by decide +kernel
theorem dX6_prefixesAt_1 : decode cX6_prefixesAt 1 = .ok (.istore_n 2, 1) := by decide +kernel
theorem dX6_prefixesAt_2 : decode cX6_prefixesAt 2 = .ok (.iconst 0, 1) := by decide +kernel
theorem dX6_prefixesAt_3 : decode cX6_prefixesAt 3 = .ok (.istore_n 3, 1) := by decide +kernel
theorem dX6_prefixesAt_4 : decode cX6_prefixesAt 4 = .ok (.iload_n 3, 1) := by decide +kernel
theorem dX6_prefixesAt_5 : decode cX6_prefixesAt 5 = .ok (.bipush 8, 2) := by decide +kernel
theorem dX6_prefixesAt_7 : decode cX6_prefixesAt 7 = .ok (.if_icmp .ge 25, 3) := by decide +kernel
theorem dX6_prefixesAt_10 : decode cX6_prefixesAt 10 = .ok (.aload_n 0, 1) := by decide +kernel
theorem dX6_prefixesAt_11 : decode cX6_prefixesAt 11 = .ok (.getfield 15, 3) := by decide +kernel
theorem dX6_prefixesAt_14 : decode cX6_prefixesAt 14 = .ok (.iload_n 3, 1) := by decide +kernel
theorem dX6_prefixesAt_15 : decode cX6_prefixesAt 15 = .ok (.iaload, 1) := by decide +kernel
theorem dX6_prefixesAt_16 : decode cX6_prefixesAt 16 = .ok (.iload_n 1, 1) := by decide +kernel
theorem dX6_prefixesAt_17 : decode cX6_prefixesAt 17 = .ok (.if_icmp .ne 9, 3) := by decide +kernel
theorem dX6_prefixesAt_20 : decode cX6_prefixesAt 20 = .ok (.iload_n 2, 1) := by decide +kernel
theorem dX6_prefixesAt_21 : decode cX6_prefixesAt 21 = .ok (.iconst 1, 1) := by decide +kernel
theorem dX6_prefixesAt_22 : decode cX6_prefixesAt 22 = .ok (.iload_n 3, 1) := by decide +kernel
theorem dX6_prefixesAt_23 : decode cX6_prefixesAt 23 = .ok (.ishl, 1) := by decide +kernel
theorem dX6_prefixesAt_24 : decode cX6_prefixesAt 24 = .ok (.ior, 1) := by decide +kernel
theorem dX6_prefixesAt_25 : decode cX6_prefixesAt 25 = .ok (.istore_n 2, 1) := by decide +kernel
theorem dX6_prefixesAt_26 : decode cX6_prefixesAt 26 = .ok (.iinc 3 1, 3) := by decide +kernel
theorem dX6_prefixesAt_29 : decode cX6_prefixesAt 29 = .ok (.goto (-25), 3) := by decide +kernel
theorem dX6_prefixesAt_32 : decode cX6_prefixesAt 32 = .ok (.iload_n 2, 1) := by decide +kernel
theorem dX6_prefixesAt_33 : decode cX6_prefixesAt 33 = .ok (.ireturn, 1) := by decide +kernel
theorem dX6_putKnownNotes_0 : decode cX6_putKnownNotes 0 = .ok (.iconst 0, 1) := by decide +kernel
theorem dX6_putKnownNotes_1 : decode cX6_putKnownNotes 1 = .ok (.istore_n 3, 1) := by decide +kernel
theorem dX6_putKnownNotes_2 : decode cX6_putKnownNotes 2 = .ok (.iload_n 3, 1) := by decide +kernel
theorem dX6_putKnownNotes_3 : decode cX6_putKnownNotes 3 = .ok (.aload_n 0, 1) := by decide +kernel
theorem dX6_putKnownNotes_4 : decode cX6_putKnownNotes 4 = .ok (.getfield 50, 3) := by decide +kernel
theorem dX6_putKnownNotes_7 : decode cX6_putKnownNotes 7 = .ok (.arraylength, 1) := by decide +kernel
theorem dX6_putKnownNotes_8 : decode cX6_putKnownNotes 8 = .ok (.if_icmp .ge 46, 3) := by decide +kernel
theorem dX6_putKnownNotes_11 : decode cX6_putKnownNotes 11 = .ok (.aload_n 1, 1) := by decide +kernel
theorem dX6_putKnownNotes_12 : decode cX6_putKnownNotes 12 = .ok (.getfield 185, 3) := by decide +kernel
theorem dX6_putKnownNotes_15 : decode cX6_putKnownNotes 15 = .ok (.iload_n 3, 1) := by decide +kernel
theorem dX6_putKnownNotes_16 : decode cX6_putKnownNotes 16 = .ok (.aaload, 1) := by decide +kernel
theorem dX6_putKnownNotes_17 : decode cX6_putKnownNotes 17 = .ok (.astore 4, 2) := by decide +kernel
theorem dX6_putKnownNotes_19 : decode cX6_putKnownNotes 19 = .ok (.iload_n 3, 1) := by decide +kernel
theorem dX6_putKnownNotes_20 : decode cX6_putKnownNotes 20 = .ok (.aload_n 1, 1) := by decide +kernel
theorem dX6_putKnownNotes_21 : decode cX6_putKnownNotes 21 = .ok (.getfield 249, 3) := by decide +kernel
theorem dX6_putKnownNotes_24 : decode cX6_putKnownNotes 24 = .ok (.if_icmp .eq 24, 3) := by decide +kernel
theorem dX6_putKnownNotes_27 : decode cX6_putKnownNotes 27 = .ok (.aload 4, 2) := by decide +kernel
theorem dX6_putKnownNotes_29 : decode cX6_putKnownNotes 29 = .ok (.ifnull 19, 3) := by decide +kernel
theorem dX6_putKnownNotes_32 : decode cX6_putKnownNotes 32 = .ok (.aload_n 0, 1) := by decide +kernel
theorem dX6_putKnownNotes_33 : decode cX6_putKnownNotes 33 = .ok (.aload_n 1, 1) := by decide +kernel
theorem dX6_putKnownNotes_34 : decode cX6_putKnownNotes 34 = .ok (.iload_n 2, 1) := by decide +kernel
theorem dX6_putKnownNotes_35 : decode cX6_putKnownNotes 35 = .ok (.aload_n 0, 1) := by decide +kernel
theorem dX6_putKnownNotes_36 : decode cX6_putKnownNotes 36 = .ok (.getfield 35, 3) := by decide +kernel
theorem dX6_putKnownNotes_39 : decode cX6_putKnownNotes 39 = .ok (.aload 4, 2) := by decide +kernel
theorem dX6_putKnownNotes_41 : decode cX6_putKnownNotes 41 = .ok (.invokevirtual 265, 3) := by decide +kernel
theorem dX6_putKnownNotes_44 : decode cX6_putKnownNotes 44 = .ok (.invokevirtual 276, 3) := by decide +kernel
theorem dX6_putKnownNotes_47 : decode cX6_putKnownNotes 47 = .ok (.pop, 1) := by decide +kernel
theorem dX6_putKnownNotes_48 : decode cX6_putKnownNotes 48 = .ok (.iinc 3 1, 3) := by decide +kernel
theorem dX6_putKnownNotes_51 : decode cX6_putKnownNotes 51 = .ok (.goto (-49), 3) := by decide +kernel
theorem dX6_putKnownNotes_54 : decode cX6_putKnownNotes 54 = .ok (.return_, 1) := by decide +kernel
theorem dX6_putMappings_0 : decode cX6_putMappings 0 = .ok (.iconst 0, 1) := by decide +kernel
theorem dX6_putMappings_1 : decode cX6_putMappings 1 = .ok (.istore_n 3, 1) := by decide +kernel
theorem dX6_putMappings_2 : decode cX6_putMappings 2 = .ok (.iload_n 3, 1) := by decide +kernel
theorem dX6_putMappings_3 : decode cX6_putMappings 3 = .ok (.bipush 8, 2) := by decide +kernel
theorem dX6_putMappings_5 : decode cX6_putMappings 5 = .ok (.if_icmp .ge 47, 3) := by decide +kernel
theorem dX6_putMappings_8 : decode cX6_putMappings 8 = .ok (.aload_n 1, 1) := by decide +kernel
theorem dX6_putMappings_9 : decode cX6_putMappings 9 = .ok (.getfield 207, 3) := by decide +kernel
theorem dX6_putMappings_12 : decode cX6_putMappings 12 = .ok (.iload_n 3, 1) := by decide +kernel
theorem dX6_putMappings_13 : decode cX6_putMappings 13 = .ok (.iaload, 1) := by decide +kernel
theorem dX6_putMappings_14 : decode cX6_putMappings 14 = .ok (.iconst (-1), 1) := by decide +kernel
theorem dX6_putMappings_15 : decode cX6_putMappings 15 = .ok (.if_icmp .eq 31, 3) := by decide +kernel
theorem dX6_putMappings_18 : decode cX6_putMappings 18 = .ok (.aload_n 0, 1) := by decide +kernel
theorem dX6_putMappings_19 : decode cX6_putMappings 19 = .ok (.aload_n 1, 1) := by decide +kernel
theorem dX6_putMappings_20 : decode cX6_putMappings 20 = .ok (.iload_n 2, 1) := by decide +kernel
theorem dX6_putMappings_21 : decode cX6_putMappings 21 = .ok (.aload_n 0, 1) := by decide +kernel
theorem dX6_putMappings_22 : decode cX6_putMappings 22 = .ok (.getfield 35, 3) := by decide +kernel
theorem dX6_putMappings_25 : decode cX6_putMappings 25 = .ok (.iconst 1, 1) := by decide +kernel
theorem dX6_putMappings_26 : decode cX6_putMappings 26 = .ok (.iload_n 3, 1) := by decide +kernel
theorem dX6_putMappings_27 : decode cX6_putMappings 27 = .ok (.aload_n 1, 1) := by decide +kernel
theorem dX6_putMappings_28 : decode cX6_putMappings 28 = .ok (.getfield 207, 3) := by decide +kernel
theorem dX6_putMappings_31 : decode cX6_putMappings 31 = .ok (.iload_n 3, 1) := by decide +kernel
theorem dX6_putMappings_32 : decode cX6_putMappings 32 = .ok (.iaload, 1) := by decide +kernel
theorem dX6_putMappings_33 : decode cX6_putMappings 33 = .ok (.aload_n 1, 1) := by decide +kernel
theorem dX6_putMappings_34 : decode cX6_putMappings 34 = .ok (.getfield 210, 3) := by decide +kernel
theorem dX6_putMappings_37 : decode cX6_putMappings 37 = .ok (.iload_n 3, 1) := by decide +kernel
theorem dX6_putMappings_38 : decode cX6_putMappings 38 = .ok (.iaload, 1) := by decide +kernel
theorem dX6_putMappings_39 : decode cX6_putMappings 39 = .ok (.invokevirtual 280, 3) := by decide +kernel
theorem dX6_putMappings_42 : decode cX6_putMappings 42 = .ok (.invokevirtual 276, 3) := by decide +kernel
theorem dX6_putMappings_45 : decode cX6_putMappings 45 = .ok (.pop, 1) := by decide +kernel
theorem dX6_putMappings_46 : decode cX6_putMappings 46 = .ok (.iinc 3 1, 3) := by decide +kernel
theorem dX6_putMappings_49 : decode cX6_putMappings 49 = .ok (.goto (-47), 3) := by decide +kernel
theorem dX6_putMappings_52 : decode cX6_putMappings 52 = .ok (.return_, 1) := by decide +kernel
theorem dX6_learn_0 : decode cX6_learn 0 = .ok (.aload_n 1, 1) := by decide +kernel
theorem dX6_learn_1 : decode cX6_learn 1 = .ok (.getfield 185, 3) := by decide +kernel
theorem dX6_learn_4 : decode cX6_learn 4 = .ok (.aload_n 2, 1) := by decide +kernel
theorem dX6_learn_5 : decode cX6_learn 5 = .ok (.getfield 284, 3) := by decide +kernel
theorem dX6_learn_8 : decode cX6_learn 8 = .ok (.aload_n 2, 1) := by decide +kernel
theorem dX6_learn_9 : decode cX6_learn 9 = .ok (.aastore, 1) := by decide +kernel
theorem dX6_learn_10 : decode cX6_learn 10 = .ok (.aload_n 1, 1) := by decide +kernel
theorem dX6_learn_11 : decode cX6_learn 11 = .ok (.invokevirtual 285, 3) := by decide +kernel
theorem dX6_learn_14 : decode cX6_learn 14 = .ok (.iconst 0, 1) := by decide +kernel
theorem dX6_learn_15 : decode cX6_learn 15 = .ok (.istore_n 3, 1) := by decide +kernel
theorem dX6_learn_16 : decode cX6_learn 16 = .ok (.iload_n 3, 1) := by decide +kernel
theorem dX6_learn_17 : decode cX6_learn 17 = .ok (.bipush 12, 2) := by decide +kernel
theorem dX6_learn_19 : decode cX6_learn 19 = .ok (.if_icmp .ge 70, 3) := by decide +kernel
theorem dX6_learn_22 : decode cX6_learn 22 = .ok (.aload_n 0, 1) := by decide +kernel
theorem dX6_learn_23 : decode cX6_learn 23 = .ok (.getfield 11, 3) := by decide +kernel
theorem dX6_learn_26 : decode cX6_learn 26 = .ok (.iload_n 3, 1) := by decide +kernel
theorem dX6_learn_27 : decode cX6_learn 27 = .ok (.aaload, 1) := by decide +kernel
theorem dX6_learn_28 : decode cX6_learn 28 = .ok (.astore 4, 2) := by decide +kernel
theorem dX6_learn_30 : decode cX6_learn 30 = .ok (.aload 4, 2) := by decide +kernel
theorem dX6_learn_32 : decode cX6_learn 32 = .ok (.getfield 72, 3) := by decide +kernel
theorem dX6_learn_35 : decode cX6_learn 35 = .ok (.ifCond .eq 48, 3) := by decide +kernel
theorem dX6_learn_38 : decode cX6_learn 38 = .ok (.aload_n 1, 1) := by decide +kernel
theorem dX6_learn_39 : decode cX6_learn 39 = .ok (.aload 4, 2) := by decide +kernel
theorem dX6_learn_41 : decode cX6_learn 41 = .ok (.getfield 81, 3) := by decide +kernel
theorem dX6_learn_44 : decode cX6_learn 44 = .ok (.iload_n 3, 1) := by decide +kernel
theorem dX6_learn_45 : decode cX6_learn 45 = .ok (.invokevirtual 288, 3) := by decide +kernel
theorem dX6_learn_48 : decode cX6_learn 48 = .ok (.ifCond .eq 35, 3) := by decide +kernel
theorem dX6_learn_51 : decode cX6_learn 51 = .ok (.aload_n 1, 1) := by decide +kernel
theorem dX6_learn_52 : decode cX6_learn 52 = .ok (.aload 4, 2) := by decide +kernel
theorem dX6_learn_54 : decode cX6_learn 54 = .ok (.getfield 84, 3) := by decide +kernel
theorem dX6_learn_57 : decode cX6_learn 57 = .ok (.iload_n 3, 1) := by decide +kernel
theorem dX6_learn_58 : decode cX6_learn 58 = .ok (.invokevirtual 288, 3) := by decide +kernel
theorem dX6_learn_61 : decode cX6_learn 61 = .ok (.ifCond .eq 22, 3) := by decide +kernel
theorem dX6_learn_64 : decode cX6_learn 64 = .ok (.aload_n 1, 1) := by decide +kernel
theorem dX6_learn_65 : decode cX6_learn 65 = .ok (.aload 4, 2) := by decide +kernel
theorem dX6_learn_67 : decode cX6_learn 67 = .ok (.getfield 81, 3) := by decide +kernel
theorem dX6_learn_70 : decode cX6_learn 70 = .ok (.aload 4, 2) := by decide +kernel
theorem dX6_learn_72 : decode cX6_learn 72 = .ok (.getfield 84, 3) := by decide +kernel
theorem dX6_learn_75 : decode cX6_learn 75 = .ok (.aload 4, 2) := by decide +kernel
theorem dX6_learn_77 : decode cX6_learn 77 = .ok (.getfield 87, 3) := by decide +kernel
theorem dX6_learn_80 : decode cX6_learn 80 = .ok (.invokevirtual 292, 3) := by decide +kernel
theorem dX6_learn_83 : decode cX6_learn 83 = .ok (.iinc 3 1, 3) := by decide +kernel
theorem dX6_learn_86 : decode cX6_learn 86 = .ok (.goto (-70), 3) := by decide +kernel
theorem dX6_learn_89 : decode cX6_learn 89 = .ok (.aload_n 1, 1) := by decide +kernel
theorem dX6_learn_90 : decode cX6_learn 90 = .ok (.invokevirtual 296, 3) := by decide +kernel
theorem dX6_learn_93 : decode cX6_learn 93 = .ok (.return_, 1) := by decide +kernel
theorem dX6_hop_0 : decode cX6_hop 0 = .ok (.aload_n 1, 1) := by decide +kernel
theorem dX6_hop_1 : decode cX6_hop 1 = .ok (.getfield 194, 3) := by decide +kernel
theorem dX6_hop_4 : decode cX6_hop 4 = .ok (.aload_n 1, 1) := by decide +kernel
theorem dX6_hop_5 : decode cX6_hop 5 = .ok (.getfield 249, 3) := by decide +kernel
theorem dX6_hop_8 : decode cX6_hop 8 = .ok (.aaload, 1) := by decide +kernel
theorem dX6_hop_9 : decode cX6_hop 9 = .ok (.iload_n 2, 1) := by decide +kernel
theorem dX6_hop_10 : decode cX6_hop 10 = .ok (.iaload, 1) := by decide +kernel
theorem dX6_hop_11 : decode cX6_hop 11 = .ok (.istore_n 3, 1) := by decide +kernel
theorem dX6_hop_12 : decode cX6_hop 12 = .ok (.iload_n 2, 1) := by decide +kernel
theorem dX6_hop_13 : decode cX6_hop 13 = .ok (.aload_n 1, 1) := by decide +kernel
theorem dX6_hop_14 : decode cX6_hop 14 = .ok (.getfield 249, 3) := by decide +kernel
theorem dX6_hop_17 : decode cX6_hop 17 = .ok (.if_icmp .eq 9, 3) := by decide +kernel
theorem dX6_hop_20 : decode cX6_hop 20 = .ok (.iload_n 3, 1) := by decide +kernel
theorem dX6_hop_21 : decode cX6_hop 21 = .ok (.ldc 198, 2) := by decide +kernel
theorem dX6_hop_23 : decode cX6_hop 23 = .ok (.if_icmp .lt 5, 3) := by decide +kernel
theorem dX6_hop_26 : decode cX6_hop 26 = .ok (.iconst (-1), 1) := by decide +kernel
theorem dX6_hop_27 : decode cX6_hop 27 = .ok (.ireturn, 1) := by decide +kernel
theorem dX6_hop_28 : decode cX6_hop 28 = .ok (.iconst 0, 1) := by decide +kernel
theorem dX6_hop_29 : decode cX6_hop 29 = .ok (.istore 4, 2) := by decide +kernel
theorem dX6_hop_31 : decode cX6_hop 31 = .ok (.iload 4, 2) := by decide +kernel
theorem dX6_hop_33 : decode cX6_hop 33 = .ok (.bipush 12, 2) := by decide +kernel
theorem dX6_hop_35 : decode cX6_hop 35 = .ok (.if_icmp .ge 72, 3) := by decide +kernel
theorem dX6_hop_38 : decode cX6_hop 38 = .ok (.aload_n 0, 1) := by decide +kernel
theorem dX6_hop_39 : decode cX6_hop 39 = .ok (.getfield 11, 3) := by decide +kernel
theorem dX6_hop_42 : decode cX6_hop 42 = .ok (.iload 4, 2) := by decide +kernel
theorem dX6_hop_44 : decode cX6_hop 44 = .ok (.aaload, 1) := by decide +kernel
theorem dX6_hop_45 : decode cX6_hop 45 = .ok (.astore 5, 2) := by decide +kernel
theorem dX6_hop_47 : decode cX6_hop 47 = .ok (.aload 5, 2) := by decide +kernel
theorem dX6_hop_49 : decode cX6_hop 49 = .ok (.aload_n 1, 1) := by decide +kernel
theorem dX6_hop_50 : decode cX6_hop 50 = .ok (.getfield 249, 3) := by decide +kernel
theorem dX6_hop_53 : decode cX6_hop 53 = .ok (.invokevirtual 273, 3) := by decide +kernel
theorem dX6_hop_56 : decode cX6_hop 56 = .ok (.ifCond .eq 45, 3) := by decide +kernel
theorem dX6_hop_59 : decode cX6_hop 59 = .ok (.aload_n 1, 1) := by decide +kernel
theorem dX6_hop_60 : decode cX6_hop 60 = .ok (.aload_n 1, 1) := by decide +kernel
theorem dX6_hop_61 : decode cX6_hop 61 = .ok (.getfield 249, 3) := by decide +kernel
theorem dX6_hop_64 : decode cX6_hop 64 = .ok (.iload 4, 2) := by decide +kernel
theorem dX6_hop_66 : decode cX6_hop 66 = .ok (.invokevirtual 288, 3) := by decide +kernel
theorem dX6_hop_69 : decode cX6_hop 69 = .ok (.ifCond .eq 32, 3) := by decide +kernel
theorem dX6_hop_72 : decode cX6_hop 72 = .ok (.aload 5, 2) := by decide +kernel
theorem dX6_hop_74 : decode cX6_hop 74 = .ok (.getfield 87, 3) := by decide +kernel
theorem dX6_hop_77 : decode cX6_hop 77 = .ok (.aload_n 1, 1) := by decide +kernel
theorem dX6_hop_78 : decode cX6_hop 78 = .ok (.getfield 194, 3) := by decide +kernel
theorem dX6_hop_81 : decode cX6_hop 81 = .ok (.aload 5, 2) := by decide +kernel
theorem dX6_hop_83 : decode cX6_hop 83 = .ok (.aload_n 1, 1) := by decide +kernel
theorem dX6_hop_84 : decode cX6_hop 84 = .ok (.getfield 249, 3) := by decide +kernel
theorem dX6_hop_87 : decode cX6_hop 87 = .ok (.invokevirtual 299, 3) := by decide +kernel
theorem dX6_hop_90 : decode cX6_hop 90 = .ok (.aaload, 1) := by decide +kernel
theorem dX6_hop_91 : decode cX6_hop 91 = .ok (.iload_n 2, 1) := by decide +kernel
theorem dX6_hop_92 : decode cX6_hop 92 = .ok (.iaload, 1) := by decide +kernel
theorem dX6_hop_93 : decode cX6_hop 93 = .ok (.iadd, 1) := by decide +kernel
theorem dX6_hop_94 : decode cX6_hop 94 = .ok (.iload_n 3, 1) := by decide +kernel
theorem dX6_hop_95 : decode cX6_hop 95 = .ok (.if_icmp .ne 6, 3) := by decide +kernel
theorem dX6_hop_98 : decode cX6_hop 98 = .ok (.iload 4, 2) := by decide +kernel
theorem dX6_hop_100 : decode cX6_hop 100 = .ok (.ireturn, 1) := by decide +kernel
theorem dX6_hop_101 : decode cX6_hop 101 = .ok (.iinc 4 1, 3) := by decide +kernel
theorem dX6_hop_104 : decode cX6_hop 104 = .ok (.goto (-73), 3) := by decide +kernel
theorem dX6_hop_107 : decode cX6_hop 107 = .ok (.iconst (-1), 1) := by decide +kernel
theorem dX6_hop_108 : decode cX6_hop 108 = .ok (.ireturn, 1) := by decide +kernel
theorem dX6_hopToEgress_0 : decode cX6_hopToEgress 0 = .ok (.aload_n 1, 1) := by decide +kernel
theorem dX6_hopToEgress_1 : decode cX6_hopToEgress 1 = .ok (.iload_n 2, 1) := by decide +kernel
theorem dX6_hopToEgress_2 : decode cX6_hopToEgress 2 = .ok (.invokevirtual 203, 3) := by decide +kernel
theorem dX6_hopToEgress_5 : decode cX6_hopToEgress 5 = .ok (.istore_n 3, 1) := by decide +kernel
theorem dX6_hopToEgress_6 : decode cX6_hopToEgress 6 = .ok (.iload_n 3, 1) := by decide +kernel
theorem dX6_hopToEgress_7 : decode cX6_hopToEgress 7 = .ok (.iconst (-1), 1) := by decide +kernel
theorem dX6_hopToEgress_8 : decode cX6_hopToEgress 8 = .ok (.if_icmp .ne 7, 3) := by decide +kernel
theorem dX6_hopToEgress_11 : decode cX6_hopToEgress 11 = .ok (.iconst (-1), 1) := by decide +kernel
theorem dX6_hopToEgress_12 : decode cX6_hopToEgress 12 = .ok (.goto 9, 3) := by decide +kernel
theorem dX6_hopToEgress_15 : decode cX6_hopToEgress 15 = .ok (.aload_n 0, 1) := by decide +kernel
theorem dX6_hopToEgress_16 : decode cX6_hopToEgress 16 = .ok (.aload_n 1, 1) := by decide +kernel
theorem dX6_hopToEgress_17 : decode cX6_hopToEgress 17 = .ok (.iload_n 3, 1) := by decide +kernel
theorem dX6_hopToEgress_18 : decode cX6_hopToEgress 18 = .ok (.invokevirtual 199, 3) := by decide +kernel
theorem dX6_hopToEgress_21 : decode cX6_hopToEgress 21 = .ok (.ireturn, 1) := by decide +kernel
theorem dX6_sendOnAll_0 : decode cX6_sendOnAll 0 = .ok (.iconst 0, 1) := by decide +kernel
theorem dX6_sendOnAll_1 : decode cX6_sendOnAll 1 = .ok (.istore 4, 2) := by decide +kernel
theorem dX6_sendOnAll_3 : decode cX6_sendOnAll 3 = .ok (.iload 4, 2) := by decide +kernel
theorem dX6_sendOnAll_5 : decode cX6_sendOnAll 5 = .ok (.bipush 12, 2) := by decide +kernel
theorem dX6_sendOnAll_7 : decode cX6_sendOnAll 7 = .ok (.if_icmp .ge 41, 3) := by decide +kernel
theorem dX6_sendOnAll_10 : decode cX6_sendOnAll 10 = .ok (.iload 4, 2) := by decide +kernel
theorem dX6_sendOnAll_12 : decode cX6_sendOnAll 12 = .ok (.iload_n 3, 1) := by decide +kernel
theorem dX6_sendOnAll_13 : decode cX6_sendOnAll 13 = .ok (.if_icmp .eq 29, 3) := by decide +kernel
theorem dX6_sendOnAll_16 : decode cX6_sendOnAll 16 = .ok (.aload_n 0, 1) := by decide +kernel
theorem dX6_sendOnAll_17 : decode cX6_sendOnAll 17 = .ok (.getfield 11, 3) := by decide +kernel
theorem dX6_sendOnAll_20 : decode cX6_sendOnAll 20 = .ok (.iload 4, 2) := by decide +kernel
theorem dX6_sendOnAll_22 : decode cX6_sendOnAll 22 = .ok (.aaload, 1) := by decide +kernel
theorem dX6_sendOnAll_23 : decode cX6_sendOnAll 23 = .ok (.aload_n 1, 1) := by decide +kernel
theorem dX6_sendOnAll_24 : decode cX6_sendOnAll 24 = .ok (.getfield 249, 3) := by decide +kernel
theorem dX6_sendOnAll_27 : decode cX6_sendOnAll 27 = .ok (.invokevirtual 273, 3) := by decide +kernel
theorem dX6_sendOnAll_30 : decode cX6_sendOnAll 30 = .ok (.ifCond .eq 12, 3) := by decide +kernel
theorem dX6_sendOnAll_33 : decode cX6_sendOnAll 33 = .ok (.aload_n 0, 1) := by decide +kernel
theorem dX6_sendOnAll_34 : decode cX6_sendOnAll 34 = .ok (.aload_n 1, 1) := by decide +kernel
theorem dX6_sendOnAll_35 : decode cX6_sendOnAll 35 = .ok (.iload 4, 2) := by decide +kernel
theorem dX6_sendOnAll_37 : decode cX6_sendOnAll 37 = .ok (.aload_n 2, 1) := by decide +kernel
theorem dX6_sendOnAll_38 : decode cX6_sendOnAll 38 = .ok (.invokevirtual 276, 3) := by decide +kernel
theorem dX6_sendOnAll_41 : decode cX6_sendOnAll 41 = .ok (.pop, 1) := by decide +kernel
theorem dX6_sendOnAll_42 : decode cX6_sendOnAll 42 = .ok (.iinc 4 1, 3) := by decide +kernel
theorem dX6_sendOnAll_45 : decode cX6_sendOnAll 45 = .ok (.goto (-42), 3) := by decide +kernel
theorem dX6_sendOnAll_48 : decode cX6_sendOnAll 48 = .ok (.return_, 1) := by decide +kernel
theorem dX6_put_0 : decode cX6_put 0 = .ok (.aload_n 3, 1) := by decide +kernel
theorem dX6_put_1 : decode cX6_put 1 = .ok (.getfield 246, 3) := by decide +kernel
theorem dX6_put_4 : decode cX6_put 4 = .ok (.iconst 1, 1) := by decide +kernel
theorem dX6_put_5 : decode cX6_put 5 = .ok (.if_icmp .ne 28, 3) := by decide +kernel
theorem dX6_put_8 : decode cX6_put 8 = .ok (.aload_n 3, 1) := by decide +kernel
theorem dX6_put_9 : decode cX6_put 9 = .ok (.getfield 179, 3) := by decide +kernel
theorem dX6_put_12 : decode cX6_put 12 = .ok (.invokestatic 302, 3) := by decide +kernel
theorem dX6_put_15 : decode cX6_put 15 = .ok (.ifCond .eq 18, 3) := by decide +kernel
theorem dX6_put_18 : decode cX6_put 18 = .ok (.aload_n 1, 1) := by decide +kernel
theorem dX6_put_19 : decode cX6_put 19 = .ok (.getfield 305, 3) := by decide +kernel
theorem dX6_put_22 : decode cX6_put 22 = .ok (.aload_n 3, 1) := by decide +kernel
theorem dX6_put_23 : decode cX6_put 23 = .ok (.getfield 179, 3) := by decide +kernel
theorem dX6_put_26 : decode cX6_put 26 = .ok (.dup2, 1) := by decide +kernel
theorem dX6_put_27 : decode cX6_put 27 = .ok (.iaload, 1) := by decide +kernel
theorem dX6_put_28 : decode cX6_put 28 = .ok (.iconst 1, 1) := by decide +kernel
theorem dX6_put_29 : decode cX6_put 29 = .ok (.iload_n 2, 1) := by decide +kernel
theorem dX6_put_30 : decode cX6_put 30 = .ok (.ishl, 1) := by decide +kernel
theorem dX6_put_31 : decode cX6_put 31 = .ok (.ior, 1) := by decide +kernel
theorem dX6_put_32 : decode cX6_put 32 = .ok (.iastore, 1) := by decide +kernel
theorem dX6_put_33 : decode cX6_put 33 = .ok (.aload_n 0, 1) := by decide +kernel
theorem dX6_put_34 : decode cX6_put 34 = .ok (.getfield 11, 3) := by decide +kernel
theorem dX6_put_37 : decode cX6_put 37 = .ok (.iload_n 2, 1) := by decide +kernel
theorem dX6_put_38 : decode cX6_put 38 = .ok (.aaload, 1) := by decide +kernel
theorem dX6_put_39 : decode cX6_put 39 = .ok (.aload_n 1, 1) := by decide +kernel
theorem dX6_put_40 : decode cX6_put 40 = .ok (.getfield 249, 3) := by decide +kernel
theorem dX6_put_43 : decode cX6_put 43 = .ok (.invokevirtual 308, 3) := by decide +kernel
theorem dX6_put_46 : decode cX6_put 46 = .ok (.invokevirtual 312, 3) := by decide +kernel
theorem dX6_put_49 : decode cX6_put 49 = .ok (.astore 4, 2) := by decide +kernel
theorem dX6_put_51 : decode cX6_put 51 = .ok (.aload 4, 2) := by decide +kernel
theorem dX6_put_53 : decode cX6_put 53 = .ok (.ifnonnull 23, 3) := by decide +kernel
theorem dX6_put_56 : decode cX6_put 56 = .ok (.aload_n 3, 1) := by decide +kernel
theorem dX6_put_57 : decode cX6_put 57 = .ok (.getfield 246, 3) := by decide +kernel
theorem dX6_put_60 : decode cX6_put 60 = .ok (.iconst 4, 1) := by decide +kernel
theorem dX6_put_61 : decode cX6_put 61 = .ok (.if_icmp .eq 13, 3) := by decide +kernel
theorem dX6_put_64 : decode cX6_put 64 = .ok (.aload_n 0, 1) := by decide +kernel
theorem dX6_put_65 : decode cX6_put 65 = .ok (.dup, 1) := by decide +kernel
theorem dX6_put_66 : decode cX6_put 66 = .ok (.getfield 29, 3) := by decide +kernel
theorem dX6_put_69 : decode cX6_put 69 = .ok (.iconst 1, 1) := by decide +kernel
theorem dX6_put_70 : decode cX6_put 70 = .ok (.iadd, 1) := by decide +kernel
theorem dX6_put_71 : decode cX6_put 71 = .ok (.putfield 29, 3) := by decide +kernel
theorem dX6_put_74 : decode cX6_put 74 = .ok (.iconst 0, 1) := by decide +kernel
theorem dX6_put_75 : decode cX6_put 75 = .ok (.ireturn, 1) := by decide +kernel
theorem dX6_put_76 : decode cX6_put 76 = .ok (.aload 4, 2) := by decide +kernel
theorem dX6_put_78 : decode cX6_put 78 = .ok (.aload_n 3, 1) := by decide +kernel
theorem dX6_put_79 : decode cX6_put 79 = .ok (.invokevirtual 316, 3) := by decide +kernel
theorem dX6_put_82 : decode cX6_put 82 = .ok (.iconst 1, 1) := by decide +kernel
theorem dX6_put_83 : decode cX6_put 83 = .ok (.ireturn, 1) := by decide +kernel
theorem dX6_firstThatWaits_0 : decode cX6_firstThatWaits 0 = .ok (.iconst 0, 1) := by decide +kernel
theorem dX6_firstThatWaits_1 : decode cX6_firstThatWaits 1 = .ok (.istore_n 1, 1) := by decide +kernel
theorem dX6_firstThatWaits_2 : decode cX6_firstThatWaits 2 = .ok (.iload_n 1, 1) := by decide +kernel
theorem dX6_firstThatWaits_3 : decode cX6_firstThatWaits 3 = .ok (.bipush 12, 2) := by decide +kernel
theorem dX6_firstThatWaits_5 : decode cX6_firstThatWaits 5 = .ok (.if_icmp .ge 45, 3) := by decide +kernel
theorem dX6_firstThatWaits_8 : decode cX6_firstThatWaits 8 = .ok (.iconst 0, 1) := by decide +kernel
theorem dX6_firstThatWaits_9 : decode cX6_firstThatWaits 9 = .ok (.istore_n 2, 1) := by decide +kernel
theorem dX6_firstThatWaits_10 : decode cX6_firstThatWaits 10 = .ok (.iload_n 2, 1) := by decide +kernel
theorem dX6_firstThatWaits_11 : decode cX6_firstThatWaits 11 = .ok (.iconst 2, 1) := by decide +kernel
theorem dX6_firstThatWaits_12 : decode cX6_firstThatWaits 12 = .ok (.if_icmp .ge 32, 3) := by decide +kernel
theorem dX6_firstThatWaits_15 : decode cX6_firstThatWaits 15 = .ok (.aload_n 0, 1) := by decide +kernel
theorem dX6_firstThatWaits_16 : decode cX6_firstThatWaits 16 = .ok (.getfield 11, 3) := by decide +kernel
theorem dX6_firstThatWaits_19 : decode cX6_firstThatWaits 19 = .ok (.iload_n 1, 1) := by decide +kernel
theorem dX6_firstThatWaits_20 : decode cX6_firstThatWaits 20 = .ok (.aaload, 1) := by decide +kernel
theorem dX6_firstThatWaits_21 : decode cX6_firstThatWaits 21 = .ok (.getfield 131, 3) := by decide +kernel
theorem dX6_firstThatWaits_24 : decode cX6_firstThatWaits 24 = .ok (.iload_n 2, 1) := by decide +kernel
theorem dX6_firstThatWaits_25 : decode cX6_firstThatWaits 25 = .ok (.aaload, 1) := by decide +kernel
theorem dX6_firstThatWaits_26 : decode cX6_firstThatWaits 26 = .ok (.getfield 170, 3) := by decide +kernel
theorem dX6_firstThatWaits_29 : decode cX6_firstThatWaits 29 = .ok (.ifCond .le 9, 3) := by decide +kernel
theorem dX6_firstThatWaits_32 : decode cX6_firstThatWaits 32 = .ok (.iload_n 1, 1) := by decide +kernel
theorem dX6_firstThatWaits_33 : decode cX6_firstThatWaits 33 = .ok (.iconst 2, 1) := by decide +kernel
theorem dX6_firstThatWaits_34 : decode cX6_firstThatWaits 34 = .ok (.imul, 1) := by decide +kernel
theorem dX6_firstThatWaits_35 : decode cX6_firstThatWaits 35 = .ok (.iload_n 2, 1) := by decide +kernel
theorem dX6_firstThatWaits_36 : decode cX6_firstThatWaits 36 = .ok (.iadd, 1) := by decide +kernel
theorem dX6_firstThatWaits_37 : decode cX6_firstThatWaits 37 = .ok (.ireturn, 1) := by decide +kernel
theorem dX6_firstThatWaits_38 : decode cX6_firstThatWaits 38 = .ok (.iinc 2 1, 3) := by decide +kernel
theorem dX6_firstThatWaits_41 : decode cX6_firstThatWaits 41 = .ok (.goto (-31), 3) := by decide +kernel
theorem dX6_firstThatWaits_44 : decode cX6_firstThatWaits 44 = .ok (.iinc 1 1, 3) := by decide +kernel
theorem dX6_firstThatWaits_47 : decode cX6_firstThatWaits 47 = .ok (.goto (-45), 3) := by decide +kernel
theorem dX6_firstThatWaits_50 : decode cX6_firstThatWaits 50 = .ok (.iconst (-1), 1) := by decide +kernel
theorem dX6_firstThatWaits_51 : decode cX6_firstThatWaits 51 = .ok (.ireturn, 1) := by decide +kernel
theorem dX6_handOver_0 : decode cX6_handOver 0 = .ok (.aload_n 0, 1) := by decide +kernel
theorem dX6_handOver_1 : decode cX6_handOver 1 = .ok (.getfield 11, 3) := by decide +kernel
theorem dX6_handOver_4 : decode cX6_handOver 4 = .ok (.iload_n 1, 1) := by decide +kernel
theorem dX6_handOver_5 : decode cX6_handOver 5 = .ok (.aaload, 1) := by decide +kernel
theorem dX6_handOver_6 : decode cX6_handOver 6 = .ok (.getfield 131, 3) := by decide +kernel
theorem dX6_handOver_9 : decode cX6_handOver 9 = .ok (.iload_n 2, 1) := by decide +kernel
theorem dX6_handOver_10 : decode cX6_handOver 10 = .ok (.aaload, 1) := by decide +kernel
theorem dX6_handOver_11 : decode cX6_handOver 11 = .ok (.astore_n 3, 1) := by decide +kernel
theorem dX6_handOver_12 : decode cX6_handOver 12 = .ok (.aload_n 3, 1) := by decide +kernel
theorem dX6_handOver_13 : decode cX6_handOver 13 = .ok (.iconst 0, 1) := by decide +kernel
theorem dX6_handOver_14 : decode cX6_handOver 14 = .ok (.invokevirtual 135, 3) := by decide +kernel
theorem dX6_handOver_17 : decode cX6_handOver 17 = .ok (.astore 4, 2) := by decide +kernel
theorem dX6_handOver_19 : decode cX6_handOver 19 = .ok (.aload 4, 2) := by decide +kernel
theorem dX6_handOver_21 : decode cX6_handOver 21 = .ok (.ifnonnull 5, 3) := by decide +kernel
theorem dX6_handOver_24 : decode cX6_handOver 24 = .ok (.iconst (-1), 1) := by decide +kernel
theorem dX6_handOver_25 : decode cX6_handOver 25 = .ok (.ireturn, 1) := by decide +kernel
theorem dX6_handOver_26 : decode cX6_handOver 26 = .ok (.aload_n 3, 1) := by decide +kernel
theorem dX6_handOver_27 : decode cX6_handOver 27 = .ok (.invokevirtual 320, 3) := by decide +kernel
theorem dX6_handOver_30 : decode cX6_handOver 30 = .ok (.aload 4, 2) := by decide +kernel
theorem dX6_handOver_32 : decode cX6_handOver 32 = .ok (.getfield 141, 3) := by decide +kernel
theorem dX6_handOver_35 : decode cX6_handOver 35 = .ok (.ifCond .eq 33, 3) := by decide +kernel
theorem dX6_handOver_38 : decode cX6_handOver 38 = .ok (.aload 4, 2) := by decide +kernel
theorem dX6_handOver_40 : decode cX6_handOver 40 = .ok (.getfield 246, 3) := by decide +kernel
theorem dX6_handOver_43 : decode cX6_handOver 43 = .ok (.iconst 4, 1) := by decide +kernel
theorem dX6_handOver_44 : decode cX6_handOver 44 = .ok (.if_icmp .ne 18, 3) := by decide +kernel
theorem dX6_handOver_47 : decode cX6_handOver 47 = .ok (.aload_n 0, 1) := by decide +kernel
theorem dX6_handOver_48 : decode cX6_handOver 48 = .ok (.getfield 21, 3) := by decide +kernel
theorem dX6_handOver_51 : decode cX6_handOver 51 = .ok (.aload 4, 2) := by decide +kernel
theorem dX6_handOver_53 : decode cX6_handOver 53 = .ok (.getfield 176, 3) := by decide +kernel
theorem dX6_handOver_56 : decode cX6_handOver 56 = .ok (.aaload, 1) := by decide +kernel
theorem dX6_handOver_57 : decode cX6_handOver 57 = .ok (.bipush 7, 2) := by decide +kernel
theorem dX6_handOver_59 : decode cX6_handOver 59 = .ok (.putfield 155, 3) := by decide +kernel
theorem dX6_handOver_62 : decode cX6_handOver 62 = .ok (.aload 4, 2) := by decide +kernel
theorem dX6_handOver_64 : decode cX6_handOver 64 = .ok (.invokevirtual 173, 3) := by decide +kernel
theorem dX6_handOver_67 : decode cX6_handOver 67 = .ok (.ireturn, 1) := by decide +kernel
theorem dX6_handOver_68 : decode cX6_handOver 68 = .ok (.aload_n 0, 1) := by decide +kernel
theorem dX6_handOver_69 : decode cX6_handOver 69 = .ok (.getfield 50, 3) := by decide +kernel
theorem dX6_handOver_72 : decode cX6_handOver 72 = .ok (.iload_n 2, 1) := by decide +kernel
theorem dX6_handOver_73 : decode cX6_handOver 73 = .ok (.ifCond .ne 15, 3) := by decide +kernel
theorem dX6_handOver_76 : decode cX6_handOver 76 = .ok (.aload_n 0, 1) := by decide +kernel
theorem dX6_handOver_77 : decode cX6_handOver 77 = .ok (.getfield 11, 3) := by decide +kernel
theorem dX6_handOver_80 : decode cX6_handOver 80 = .ok (.iload_n 1, 1) := by decide +kernel
theorem dX6_handOver_81 : decode cX6_handOver 81 = .ok (.aaload, 1) := by decide +kernel
theorem dX6_handOver_82 : decode cX6_handOver 82 = .ok (.getfield 84, 3) := by decide +kernel
theorem dX6_handOver_85 : decode cX6_handOver 85 = .ok (.goto 12, 3) := by decide +kernel
theorem dX6_handOver_88 : decode cX6_handOver 88 = .ok (.aload_n 0, 1) := by decide +kernel
theorem dX6_handOver_89 : decode cX6_handOver 89 = .ok (.getfield 11, 3) := by decide +kernel
theorem dX6_handOver_92 : decode cX6_handOver 92 = .ok (.iload_n 1, 1) := by decide +kernel
theorem dX6_handOver_93 : decode cX6_handOver 93 = .ok (.aaload, 1) := by decide +kernel
theorem dX6_handOver_94 : decode cX6_handOver 94 = .ok (.getfield 81, 3) := by decide +kernel
theorem dX6_handOver_97 : decode cX6_handOver 97 = .ok (.aaload, 1) := by decide +kernel
theorem dX6_handOver_98 : decode cX6_handOver 98 = .ok (.astore 5, 2) := by decide +kernel
theorem dX6_handOver_100 : decode cX6_handOver 100 = .ok (.iconst 1, 1) := by decide +kernel
theorem dX6_handOver_101 : decode cX6_handOver 101 = .ok (.istore 6, 2) := by decide +kernel
theorem dX6_handOver_103 : decode cX6_handOver 103 = .ok (.aload 4, 2) := by decide +kernel
theorem dX6_handOver_105 : decode cX6_handOver 105 = .ok (.getfield 246, 3) := by decide +kernel
theorem dX6_handOver_108 : decode cX6_handOver 108 = .ok (.tableswitch 94 0 3 #[32, 49, 61, 73], 32) := by decide +kernel
theorem dX6_handOver_140 : decode cX6_handOver 140 = .ok (.aload_n 0, 1) := by decide +kernel
theorem dX6_handOver_141 : decode cX6_handOver 141 = .ok (.aload 5, 2) := by decide +kernel
theorem dX6_handOver_143 : decode cX6_handOver 143 = .ok (.iload_n 1, 1) := by decide +kernel
theorem dX6_handOver_144 : decode cX6_handOver 144 = .ok (.aload 4, 2) := by decide +kernel
theorem dX6_handOver_146 : decode cX6_handOver 146 = .ok (.getfield 323, 3) := by decide +kernel
theorem dX6_handOver_149 : decode cX6_handOver 149 = .ok (.invokevirtual 327, 3) := by decide +kernel
theorem dX6_handOver_152 : decode cX6_handOver 152 = .ok (.istore 6, 2) := by decide +kernel
theorem dX6_handOver_154 : decode cX6_handOver 154 = .ok (.goto 67, 3) := by decide +kernel
theorem dX6_handOver_157 : decode cX6_handOver 157 = .ok (.aload_n 0, 1) := by decide +kernel
theorem dX6_handOver_158 : decode cX6_handOver 158 = .ok (.aload 5, 2) := by decide +kernel
theorem dX6_handOver_160 : decode cX6_handOver 160 = .ok (.iload_n 1, 1) := by decide +kernel
theorem dX6_handOver_161 : decode cX6_handOver 161 = .ok (.aload 4, 2) := by decide +kernel
theorem dX6_handOver_163 : decode cX6_handOver 163 = .ok (.invokevirtual 331, 3) := by decide +kernel
theorem dX6_handOver_166 : decode cX6_handOver 166 = .ok (.goto 55, 3) := by decide +kernel
theorem dX6_handOver_169 : decode cX6_handOver 169 = .ok (.aload_n 0, 1) := by decide +kernel
theorem dX6_handOver_170 : decode cX6_handOver 170 = .ok (.aload 5, 2) := by decide +kernel
theorem dX6_handOver_172 : decode cX6_handOver 172 = .ok (.iload_n 1, 1) := by decide +kernel
theorem dX6_handOver_173 : decode cX6_handOver 173 = .ok (.aload 4, 2) := by decide +kernel
theorem dX6_handOver_175 : decode cX6_handOver 175 = .ok (.invokevirtual 335, 3) := by decide +kernel
theorem dX6_handOver_178 : decode cX6_handOver 178 = .ok (.goto 43, 3) := by decide +kernel
theorem dX6_handOver_181 : decode cX6_handOver 181 = .ok (.aload 5, 2) := by decide +kernel
theorem dX6_handOver_183 : decode cX6_handOver 183 = .ok (.aload 4, 2) := by decide +kernel
theorem dX6_handOver_185 : decode cX6_handOver 185 = .ok (.getfield 176, 3) := by decide +kernel
theorem dX6_handOver_188 : decode cX6_handOver 188 = .ok (.aload 4, 2) := by decide +kernel
theorem dX6_handOver_190 : decode cX6_handOver 190 = .ok (.getfield 179, 3) := by decide +kernel
theorem dX6_handOver_193 : decode cX6_handOver 193 = .ok (.iload_n 1, 1) := by decide +kernel
theorem dX6_handOver_194 : decode cX6_handOver 194 = .ok (.invokevirtual 338, 3) := by decide +kernel
theorem dX6_handOver_197 : decode cX6_handOver 197 = .ok (.istore 6, 2) := by decide +kernel
theorem dX6_handOver_199 : decode cX6_handOver 199 = .ok (.goto 22, 3) := by decide +kernel
theorem dX6_handOver_202 : decode cX6_handOver 202 = .ok (.iconst 0, 1) := by decide +kernel
theorem dX6_handOver_203 : decode cX6_handOver 203 = .ok (.istore 6, 2) := by decide +kernel
theorem dX6_handOver_205 : decode cX6_handOver 205 = .ok (.aload_n 0, 1) := by decide +kernel
theorem dX6_handOver_206 : decode cX6_handOver 206 = .ok (.aload 5, 2) := by decide +kernel
theorem dX6_handOver_208 : decode cX6_handOver 208 = .ok (.aload 4, 2) := by decide +kernel
theorem dX6_handOver_210 : decode cX6_handOver 210 = .ok (.getfield 176, 3) := by decide +kernel
theorem dX6_handOver_213 : decode cX6_handOver 213 = .ok (.aload 4, 2) := by decide +kernel
theorem dX6_handOver_215 : decode cX6_handOver 215 = .ok (.getfield 179, 3) := by decide +kernel
theorem dX6_handOver_218 : decode cX6_handOver 218 = .ok (.invokevirtual 151, 3) := by decide +kernel
theorem dX6_handOver_221 : decode cX6_handOver 221 = .ok (.iload 6, 2) := by decide +kernel
theorem dX6_handOver_223 : decode cX6_handOver 223 = .ok (.ifCond .eq 9, 3) := by decide +kernel
theorem dX6_handOver_226 : decode cX6_handOver 226 = .ok (.aload_n 0, 1) := by decide +kernel
theorem dX6_handOver_227 : decode cX6_handOver 227 = .ok (.aload 5, 2) := by decide +kernel
theorem dX6_handOver_229 : decode cX6_handOver 229 = .ok (.invokevirtual 114, 3) := by decide +kernel
theorem dX6_handOver_232 : decode cX6_handOver 232 = .ok (.aload 4, 2) := by decide +kernel
theorem dX6_handOver_234 : decode cX6_handOver 234 = .ok (.getfield 246, 3) := by decide +kernel
theorem dX6_handOver_237 : decode cX6_handOver 237 = .ok (.ireturn, 1) := by decide +kernel
theorem dX6_noteComes_0 : decode cX6_noteComes 0 = .ok (.aload_n 3, 1) := by decide +kernel
theorem dX6_noteComes_1 : decode cX6_noteComes 1 = .ok (.ifnull 14, 3) := by decide +kernel
theorem dX6_noteComes_4 : decode cX6_noteComes 4 = .ok (.aload_n 3, 1) := by decide +kernel
theorem dX6_noteComes_5 : decode cX6_noteComes 5 = .ok (.getfield 284, 3) := by decide +kernel
theorem dX6_noteComes_8 : decode cX6_noteComes 8 = .ok (.aload_n 1, 1) := by decide +kernel
theorem dX6_noteComes_9 : decode cX6_noteComes 9 = .ok (.getfield 249, 3) := by decide +kernel
theorem dX6_noteComes_12 : decode cX6_noteComes 12 = .ok (.if_icmp .ne 5, 3) := by decide +kernel
theorem dX6_noteComes_15 : decode cX6_noteComes 15 = .ok (.iconst 0, 1) := by decide +kernel
theorem dX6_noteComes_16 : decode cX6_noteComes 16 = .ok (.ireturn, 1) := by decide +kernel
theorem dX6_noteComes_17 : decode cX6_noteComes 17 = .ok (.aload_n 1, 1) := by decide +kernel
theorem dX6_noteComes_18 : decode cX6_noteComes 18 = .ok (.getfield 185, 3) := by decide +kernel
theorem dX6_noteComes_21 : decode cX6_noteComes 21 = .ok (.aload_n 3, 1) := by decide +kernel
theorem dX6_noteComes_22 : decode cX6_noteComes 22 = .ok (.getfield 284, 3) := by decide +kernel
theorem dX6_noteComes_25 : decode cX6_noteComes 25 = .ok (.aaload, 1) := by decide +kernel
theorem dX6_noteComes_26 : decode cX6_noteComes 26 = .ok (.astore 4, 2) := by decide +kernel
theorem dX6_noteComes_28 : decode cX6_noteComes 28 = .ok (.aload 4, 2) := by decide +kernel
theorem dX6_noteComes_30 : decode cX6_noteComes 30 = .ok (.ifnull 15, 3) := by decide +kernel
theorem dX6_noteComes_33 : decode cX6_noteComes 33 = .ok (.aload_n 3, 1) := by decide +kernel
theorem dX6_noteComes_34 : decode cX6_noteComes 34 = .ok (.getfield 189, 3) := by decide +kernel
theorem dX6_noteComes_37 : decode cX6_noteComes 37 = .ok (.aload 4, 2) := by decide +kernel
theorem dX6_noteComes_39 : decode cX6_noteComes 39 = .ok (.getfield 189, 3) := by decide +kernel
theorem dX6_noteComes_42 : decode cX6_noteComes 42 = .ok (.if_icmp .le 25, 3) := by decide +kernel
theorem dX6_noteComes_45 : decode cX6_noteComes 45 = .ok (.aload_n 0, 1) := by decide +kernel
theorem dX6_noteComes_46 : decode cX6_noteComes 46 = .ok (.aload_n 1, 1) := by decide +kernel
theorem dX6_noteComes_47 : decode cX6_noteComes 47 = .ok (.aload_n 3, 1) := by decide +kernel
theorem dX6_noteComes_48 : decode cX6_noteComes 48 = .ok (.invokevirtual 261, 3) := by decide +kernel
theorem dX6_noteComes_51 : decode cX6_noteComes 51 = .ok (.aload_n 0, 1) := by decide +kernel
theorem dX6_noteComes_52 : decode cX6_noteComes 52 = .ok (.aload_n 1, 1) := by decide +kernel
theorem dX6_noteComes_53 : decode cX6_noteComes 53 = .ok (.aload_n 0, 1) := by decide +kernel
theorem dX6_noteComes_54 : decode cX6_noteComes 54 = .ok (.getfield 35, 3) := by decide +kernel
theorem dX6_noteComes_57 : decode cX6_noteComes 57 = .ok (.aload_n 3, 1) := by decide +kernel
theorem dX6_noteComes_58 : decode cX6_noteComes 58 = .ok (.invokevirtual 265, 3) := by decide +kernel
theorem dX6_noteComes_61 : decode cX6_noteComes 61 = .ok (.iload_n 2, 1) := by decide +kernel
theorem dX6_noteComes_62 : decode cX6_noteComes 62 = .ok (.invokevirtual 269, 3) := by decide +kernel
theorem dX6_noteComes_65 : decode cX6_noteComes 65 = .ok (.iconst 1, 1) := by decide +kernel
theorem dX6_noteComes_66 : decode cX6_noteComes 66 = .ok (.ireturn, 1) := by decide +kernel
theorem dX6_noteComes_67 : decode cX6_noteComes 67 = .ok (.aload_n 3, 1) := by decide +kernel
theorem dX6_noteComes_68 : decode cX6_noteComes 68 = .ok (.getfield 189, 3) := by decide +kernel
theorem dX6_noteComes_71 : decode cX6_noteComes 71 = .ok (.aload 4, 2) := by decide +kernel
theorem dX6_noteComes_73 : decode cX6_noteComes 73 = .ok (.getfield 189, 3) := by decide +kernel
theorem dX6_noteComes_76 : decode cX6_noteComes 76 = .ok (.if_icmp .ge 19, 3) := by decide +kernel
theorem dX6_noteComes_79 : decode cX6_noteComes 79 = .ok (.aload_n 0, 1) := by decide +kernel
theorem dX6_noteComes_80 : decode cX6_noteComes 80 = .ok (.aload_n 1, 1) := by decide +kernel
theorem dX6_noteComes_81 : decode cX6_noteComes 81 = .ok (.iload_n 2, 1) := by decide +kernel
theorem dX6_noteComes_82 : decode cX6_noteComes 82 = .ok (.aload_n 0, 1) := by decide +kernel
theorem dX6_noteComes_83 : decode cX6_noteComes 83 = .ok (.getfield 35, 3) := by decide +kernel
theorem dX6_noteComes_86 : decode cX6_noteComes 86 = .ok (.aload 4, 2) := by decide +kernel
theorem dX6_noteComes_88 : decode cX6_noteComes 88 = .ok (.invokevirtual 265, 3) := by decide +kernel
theorem dX6_noteComes_91 : decode cX6_noteComes 91 = .ok (.invokevirtual 276, 3) := by decide +kernel
theorem dX6_noteComes_94 : decode cX6_noteComes 94 = .ok (.pop, 1) := by decide +kernel
theorem dX6_noteComes_95 : decode cX6_noteComes 95 = .ok (.iconst 0, 1) := by decide +kernel
theorem dX6_noteComes_96 : decode cX6_noteComes 96 = .ok (.ireturn, 1) := by decide +kernel
theorem dX6_mappingComes_0 : decode cX6_mappingComes 0 = .ok (.aload_n 3, 1) := by decide +kernel
theorem dX6_mappingComes_1 : decode cX6_mappingComes 1 = .ok (.getfield 176, 3) := by decide +kernel
theorem dX6_mappingComes_4 : decode cX6_mappingComes 4 = .ok (.istore 4, 2) := by decide +kernel
theorem dX6_mappingComes_6 : decode cX6_mappingComes 6 = .ok (.aload_n 3, 1) := by decide +kernel
theorem dX6_mappingComes_7 : decode cX6_mappingComes 7 = .ok (.getfield 182, 3) := by decide +kernel
theorem dX6_mappingComes_10 : decode cX6_mappingComes 10 = .ok (.iconst 1, 1) := by decide +kernel
theorem dX6_mappingComes_11 : decode cX6_mappingComes 11 = .ok (.aload_n 1, 1) := by decide +kernel
theorem dX6_mappingComes_12 : decode cX6_mappingComes 12 = .ok (.getfield 249, 3) := by decide +kernel
theorem dX6_mappingComes_15 : decode cX6_mappingComes 15 = .ok (.ishl, 1) := by decide +kernel
theorem dX6_mappingComes_16 : decode cX6_mappingComes 16 = .ok (.iand, 1) := by decide +kernel
theorem dX6_mappingComes_17 : decode cX6_mappingComes 17 = .ok (.ifCond .eq 35, 3) := by decide +kernel
theorem dX6_mappingComes_20 : decode cX6_mappingComes 20 = .ok (.aload_n 0, 1) := by decide +kernel
theorem dX6_mappingComes_21 : decode cX6_mappingComes 21 = .ok (.aload_n 1, 1) := by decide +kernel
theorem dX6_mappingComes_22 : decode cX6_mappingComes 22 = .ok (.iload_n 2, 1) := by decide +kernel
theorem dX6_mappingComes_23 : decode cX6_mappingComes 23 = .ok (.aload_n 0, 1) := by decide +kernel
theorem dX6_mappingComes_24 : decode cX6_mappingComes 24 = .ok (.getfield 35, 3) := by decide +kernel
theorem dX6_mappingComes_27 : decode cX6_mappingComes 27 = .ok (.iconst 3, 1) := by decide +kernel
theorem dX6_mappingComes_28 : decode cX6_mappingComes 28 = .ok (.iload 4, 2) := by decide +kernel
theorem dX6_mappingComes_30 : decode cX6_mappingComes 30 = .ok (.aload_n 3, 1) := by decide +kernel
theorem dX6_mappingComes_31 : decode cX6_mappingComes 31 = .ok (.getfield 179, 3) := by decide +kernel
theorem dX6_mappingComes_34 : decode cX6_mappingComes 34 = .ok (.iconst 0, 1) := by decide +kernel
theorem dX6_mappingComes_35 : decode cX6_mappingComes 35 = .ok (.invokevirtual 280, 3) := by decide +kernel
theorem dX6_mappingComes_38 : decode cX6_mappingComes 38 = .ok (.invokevirtual 276, 3) := by decide +kernel
theorem dX6_mappingComes_41 : decode cX6_mappingComes 41 = .ok (.pop, 1) := by decide +kernel
theorem dX6_mappingComes_42 : decode cX6_mappingComes 42 = .ok (.aload_n 1, 1) := by decide +kernel
theorem dX6_mappingComes_43 : decode cX6_mappingComes 43 = .ok (.iload 4, 2) := by decide +kernel
theorem dX6_mappingComes_45 : decode cX6_mappingComes 45 = .ok (.iload_n 2, 1) := by decide +kernel
theorem dX6_mappingComes_46 : decode cX6_mappingComes 46 = .ok (.invokevirtual 342, 3) := by decide +kernel
theorem dX6_mappingComes_49 : decode cX6_mappingComes 49 = .ok (.goto 29, 3) := by decide +kernel
theorem dX6_mappingComes_52 : decode cX6_mappingComes 52 = .ok (.aload_n 1, 1) := by decide +kernel
theorem dX6_mappingComes_53 : decode cX6_mappingComes 53 = .ok (.getfield 213, 3) := by decide +kernel
theorem dX6_mappingComes_56 : decode cX6_mappingComes 56 = .ok (.iload 4, 2) := by decide +kernel
theorem dX6_mappingComes_58 : decode cX6_mappingComes 58 = .ok (.aaload, 1) := by decide +kernel
theorem dX6_mappingComes_59 : decode cX6_mappingComes 59 = .ok (.iload_n 2, 1) := by decide +kernel
theorem dX6_mappingComes_60 : decode cX6_mappingComes 60 = .ok (.aload_n 3, 1) := by decide +kernel
theorem dX6_mappingComes_61 : decode cX6_mappingComes 61 = .ok (.getfield 179, 3) := by decide +kernel
theorem dX6_mappingComes_64 : decode cX6_mappingComes 64 = .ok (.iastore, 1) := by decide +kernel
theorem dX6_mappingComes_65 : decode cX6_mappingComes 65 = .ok (.aload_n 1, 1) := by decide +kernel
theorem dX6_mappingComes_66 : decode cX6_mappingComes 66 = .ok (.getfield 220, 3) := by decide +kernel
theorem dX6_mappingComes_69 : decode cX6_mappingComes 69 = .ok (.iload 4, 2) := by decide +kernel
theorem dX6_mappingComes_71 : decode cX6_mappingComes 71 = .ok (.aaload, 1) := by decide +kernel
theorem dX6_mappingComes_72 : decode cX6_mappingComes 72 = .ok (.iload_n 2, 1) := by decide +kernel
theorem dX6_mappingComes_73 : decode cX6_mappingComes 73 = .ok (.aload_n 3, 1) := by decide +kernel
theorem dX6_mappingComes_74 : decode cX6_mappingComes 74 = .ok (.getfield 182, 3) := by decide +kernel
theorem dX6_mappingComes_77 : decode cX6_mappingComes 77 = .ok (.iastore, 1) := by decide +kernel
theorem dX6_mappingComes_78 : decode cX6_mappingComes 78 = .ok (.return_, 1) := by decide +kernel
theorem dX6_withdrawComes_0 : decode cX6_withdrawComes 0 = .ok (.aload_n 3, 1) := by decide +kernel
theorem dX6_withdrawComes_1 : decode cX6_withdrawComes 1 = .ok (.getfield 176, 3) := by decide +kernel
theorem dX6_withdrawComes_4 : decode cX6_withdrawComes 4 = .ok (.istore 4, 2) := by decide +kernel
theorem dX6_withdrawComes_6 : decode cX6_withdrawComes 6 = .ok (.aload_n 1, 1) := by decide +kernel
theorem dX6_withdrawComes_7 : decode cX6_withdrawComes 7 = .ok (.getfield 213, 3) := by decide +kernel
theorem dX6_withdrawComes_10 : decode cX6_withdrawComes 10 = .ok (.iload 4, 2) := by decide +kernel
theorem dX6_withdrawComes_12 : decode cX6_withdrawComes 12 = .ok (.aaload, 1) := by decide +kernel
theorem dX6_withdrawComes_13 : decode cX6_withdrawComes 13 = .ok (.iload_n 2, 1) := by decide +kernel
theorem dX6_withdrawComes_14 : decode cX6_withdrawComes 14 = .ok (.iaload, 1) := by decide +kernel
theorem dX6_withdrawComes_15 : decode cX6_withdrawComes 15 = .ok (.aload_n 3, 1) := by decide +kernel
theorem dX6_withdrawComes_16 : decode cX6_withdrawComes 16 = .ok (.getfield 179, 3) := by decide +kernel
theorem dX6_withdrawComes_19 : decode cX6_withdrawComes 19 = .ok (.if_icmp .ne 10, 3) := by decide +kernel
theorem dX6_withdrawComes_22 : decode cX6_withdrawComes 22 = .ok (.aload_n 1, 1) := by decide +kernel
theorem dX6_withdrawComes_23 : decode cX6_withdrawComes 23 = .ok (.iload 4, 2) := by decide +kernel
theorem dX6_withdrawComes_25 : decode cX6_withdrawComes 25 = .ok (.iload_n 2, 1) := by decide +kernel
theorem dX6_withdrawComes_26 : decode cX6_withdrawComes 26 = .ok (.invokevirtual 342, 3) := by decide +kernel
theorem dX6_withdrawComes_29 : decode cX6_withdrawComes 29 = .ok (.aload_n 0, 1) := by decide +kernel
theorem dX6_withdrawComes_30 : decode cX6_withdrawComes 30 = .ok (.aload_n 1, 1) := by decide +kernel
theorem dX6_withdrawComes_31 : decode cX6_withdrawComes 31 = .ok (.iload_n 2, 1) := by decide +kernel
theorem dX6_withdrawComes_32 : decode cX6_withdrawComes 32 = .ok (.aload_n 0, 1) := by decide +kernel
theorem dX6_withdrawComes_33 : decode cX6_withdrawComes 33 = .ok (.getfield 35, 3) := by decide +kernel
theorem dX6_withdrawComes_36 : decode cX6_withdrawComes 36 = .ok (.iconst 3, 1) := by decide +kernel
theorem dX6_withdrawComes_37 : decode cX6_withdrawComes 37 = .ok (.iload 4, 2) := by decide +kernel
theorem dX6_withdrawComes_39 : decode cX6_withdrawComes 39 = .ok (.aload_n 3, 1) := by decide +kernel
theorem dX6_withdrawComes_40 : decode cX6_withdrawComes 40 = .ok (.getfield 179, 3) := by decide +kernel
theorem dX6_withdrawComes_43 : decode cX6_withdrawComes 43 = .ok (.iconst 0, 1) := by decide +kernel
theorem dX6_withdrawComes_44 : decode cX6_withdrawComes 44 = .ok (.invokevirtual 280, 3) := by decide +kernel
theorem dX6_withdrawComes_47 : decode cX6_withdrawComes 47 = .ok (.invokevirtual 276, 3) := by decide +kernel
theorem dX6_withdrawComes_50 : decode cX6_withdrawComes 50 = .ok (.pop, 1) := by decide +kernel
theorem dX6_withdrawComes_51 : decode cX6_withdrawComes 51 = .ok (.return_, 1) := by decide +kernel
theorem dX6_check_0 : decode cX6_check 0 = .ok (.iconst 0, 1) := by decide +kernel
theorem dX6_check_1 : decode cX6_check 1 = .ok (.istore_n 2, 1) := by decide +kernel
theorem dX6_check_2 : decode cX6_check 2 = .ok (.iload_n 2, 1) := by decide +kernel
theorem dX6_check_3 : decode cX6_check 3 = .ok (.bipush 8, 2) := by decide +kernel
theorem dX6_check_5 : decode cX6_check 5 = .ok (.if_icmp .ge 15, 3) := by decide +kernel
theorem dX6_check_8 : decode cX6_check 8 = .ok (.aload_n 0, 1) := by decide +kernel
theorem dX6_check_9 : decode cX6_check 9 = .ok (.aload_n 1, 1) := by decide +kernel
theorem dX6_check_10 : decode cX6_check 10 = .ok (.iload_n 2, 1) := by decide +kernel
theorem dX6_check_11 : decode cX6_check 11 = .ok (.invokevirtual 345, 3) := by decide +kernel
theorem dX6_check_14 : decode cX6_check 14 = .ok (.iinc 2 1, 3) := by decide +kernel
theorem dX6_check_17 : decode cX6_check 17 = .ok (.goto (-15), 3) := by decide +kernel
theorem dX6_check_20 : decode cX6_check 20 = .ok (.return_, 1) := by decide +kernel
theorem dX6_checkPrefix_0 : decode cX6_checkPrefix 0 = .ok (.aload_n 1, 1) := by decide +kernel
theorem dX6_checkPrefix_1 : decode cX6_checkPrefix 1 = .ok (.getfield 207, 3) := by decide +kernel
theorem dX6_checkPrefix_4 : decode cX6_checkPrefix 4 = .ok (.iload_n 2, 1) := by decide +kernel
theorem dX6_checkPrefix_5 : decode cX6_checkPrefix 5 = .ok (.iaload, 1) := by decide +kernel
theorem dX6_checkPrefix_6 : decode cX6_checkPrefix 6 = .ok (.istore_n 3, 1) := by decide +kernel
theorem dX6_checkPrefix_7 : decode cX6_checkPrefix 7 = .ok (.aload_n 1, 1) := by decide +kernel
theorem dX6_checkPrefix_8 : decode cX6_checkPrefix 8 = .ok (.getfield 210, 3) := by decide +kernel
theorem dX6_checkPrefix_11 : decode cX6_checkPrefix 11 = .ok (.iload_n 2, 1) := by decide +kernel
theorem dX6_checkPrefix_12 : decode cX6_checkPrefix 12 = .ok (.iaload, 1) := by decide +kernel
theorem dX6_checkPrefix_13 : decode cX6_checkPrefix 13 = .ok (.istore 4, 2) := by decide +kernel
theorem dX6_checkPrefix_15 : decode cX6_checkPrefix 15 = .ok (.aload_n 0, 1) := by decide +kernel
theorem dX6_checkPrefix_16 : decode cX6_checkPrefix 16 = .ok (.aload_n 1, 1) := by decide +kernel
theorem dX6_checkPrefix_17 : decode cX6_checkPrefix 17 = .ok (.iload_n 2, 1) := by decide +kernel
theorem dX6_checkPrefix_18 : decode cX6_checkPrefix 18 = .ok (.invokevirtual 348, 3) := by decide +kernel
theorem dX6_checkPrefix_21 : decode cX6_checkPrefix 21 = .ok (.istore 5, 2) := by decide +kernel
theorem dX6_checkPrefix_23 : decode cX6_checkPrefix 23 = .ok (.aload_n 1, 1) := by decide +kernel
theorem dX6_checkPrefix_24 : decode cX6_checkPrefix 24 = .ok (.iload_n 3, 1) := by decide +kernel
theorem dX6_checkPrefix_25 : decode cX6_checkPrefix 25 = .ok (.iload 5, 2) := by decide +kernel
theorem dX6_checkPrefix_27 : decode cX6_checkPrefix 27 = .ok (.invokevirtual 351, 3) := by decide +kernel
theorem dX6_checkPrefix_30 : decode cX6_checkPrefix 30 = .ok (.istore 6, 2) := by decide +kernel
theorem dX6_checkPrefix_32 : decode cX6_checkPrefix 32 = .ok (.iload 6, 2) := by decide +kernel
theorem dX6_checkPrefix_34 : decode cX6_checkPrefix 34 = .ok (.iconst (-1), 1) := by decide +kernel
theorem dX6_checkPrefix_35 : decode cX6_checkPrefix 35 = .ok (.if_icmp .ne 6, 3) := by decide +kernel
theorem dX6_checkPrefix_38 : decode cX6_checkPrefix 38 = .ok (.iconst (-1), 1) := by decide +kernel
theorem dX6_checkPrefix_39 : decode cX6_checkPrefix 39 = .ok (.istore 5, 2) := by decide +kernel
theorem dX6_checkPrefix_41 : decode cX6_checkPrefix 41 = .ok (.iload 6, 2) := by decide +kernel
theorem dX6_checkPrefix_43 : decode cX6_checkPrefix 43 = .ok (.iload_n 3, 1) := by decide +kernel
theorem dX6_checkPrefix_44 : decode cX6_checkPrefix 44 = .ok (.if_icmp .ne 11, 3) := by decide +kernel
theorem dX6_checkPrefix_47 : decode cX6_checkPrefix 47 = .ok (.iload 5, 2) := by decide +kernel
theorem dX6_checkPrefix_49 : decode cX6_checkPrefix 49 = .ok (.iload 4, 2) := by decide +kernel
theorem dX6_checkPrefix_51 : decode cX6_checkPrefix 51 = .ok (.if_icmp .ne 4, 3) := by decide +kernel
theorem dX6_checkPrefix_54 : decode cX6_checkPrefix 54 = .ok (.return_, 1) := by decide +kernel
theorem dX6_checkPrefix_55 : decode cX6_checkPrefix 55 = .ok (.aload_n 1, 1) := by decide +kernel
theorem dX6_checkPrefix_56 : decode cX6_checkPrefix 56 = .ok (.iload_n 2, 1) := by decide +kernel
theorem dX6_checkPrefix_57 : decode cX6_checkPrefix 57 = .ok (.iload 6, 2) := by decide +kernel
theorem dX6_checkPrefix_59 : decode cX6_checkPrefix 59 = .ok (.iload 5, 2) := by decide +kernel
theorem dX6_checkPrefix_61 : decode cX6_checkPrefix 61 = .ok (.invokevirtual 354, 3) := by decide +kernel
theorem dX6_checkPrefix_64 : decode cX6_checkPrefix 64 = .ok (.iload_n 3, 1) := by decide +kernel
theorem dX6_checkPrefix_65 : decode cX6_checkPrefix 65 = .ok (.iconst (-1), 1) := by decide +kernel
theorem dX6_checkPrefix_66 : decode cX6_checkPrefix 66 = .ok (.if_icmp .eq 31, 3) := by decide +kernel
theorem dX6_checkPrefix_69 : decode cX6_checkPrefix 69 = .ok (.iload_n 3, 1) := by decide +kernel
theorem dX6_checkPrefix_70 : decode cX6_checkPrefix 70 = .ok (.iload 6, 2) := by decide +kernel
theorem dX6_checkPrefix_72 : decode cX6_checkPrefix 72 = .ok (.if_icmp .eq 25, 3) := by decide +kernel
theorem dX6_checkPrefix_75 : decode cX6_checkPrefix 75 = .ok (.aload_n 0, 1) := by decide +kernel
theorem dX6_checkPrefix_76 : decode cX6_checkPrefix 76 = .ok (.aload_n 1, 1) := by decide +kernel
theorem dX6_checkPrefix_77 : decode cX6_checkPrefix 77 = .ok (.aload_n 0, 1) := by decide +kernel
theorem dX6_checkPrefix_78 : decode cX6_checkPrefix 78 = .ok (.getfield 35, 3) := by decide +kernel
theorem dX6_checkPrefix_81 : decode cX6_checkPrefix 81 = .ok (.iconst 2, 1) := by decide +kernel
theorem dX6_checkPrefix_82 : decode cX6_checkPrefix 82 = .ok (.iload_n 2, 1) := by decide +kernel
theorem dX6_checkPrefix_83 : decode cX6_checkPrefix 83 = .ok (.iload_n 3, 1) := by decide +kernel
theorem dX6_checkPrefix_84 : decode cX6_checkPrefix 84 = .ok (.iconst 0, 1) := by decide +kernel
theorem dX6_checkPrefix_85 : decode cX6_checkPrefix 85 = .ok (.invokevirtual 280, 3) := by decide +kernel
theorem dX6_checkPrefix_88 : decode cX6_checkPrefix 88 = .ok (.iconst (-1), 1) := by decide +kernel
theorem dX6_checkPrefix_89 : decode cX6_checkPrefix 89 = .ok (.invokevirtual 269, 3) := by decide +kernel
theorem dX6_checkPrefix_92 : decode cX6_checkPrefix 92 = .ok (.aload_n 1, 1) := by decide +kernel
theorem dX6_checkPrefix_93 : decode cX6_checkPrefix 93 = .ok (.iload_n 3, 1) := by decide +kernel
theorem dX6_checkPrefix_94 : decode cX6_checkPrefix 94 = .ok (.invokevirtual 357, 3) := by decide +kernel
theorem dX6_checkPrefix_97 : decode cX6_checkPrefix 97 = .ok (.iload 6, 2) := by decide +kernel
theorem dX6_checkPrefix_99 : decode cX6_checkPrefix 99 = .ok (.iconst (-1), 1) := by decide +kernel
theorem dX6_checkPrefix_100 : decode cX6_checkPrefix 100 = .ok (.if_icmp .eq 22, 3) := by decide +kernel
theorem dX6_checkPrefix_103 : decode cX6_checkPrefix 103 = .ok (.aload_n 0, 1) := by decide +kernel
theorem dX6_checkPrefix_104 : decode cX6_checkPrefix 104 = .ok (.aload_n 1, 1) := by decide +kernel
theorem dX6_checkPrefix_105 : decode cX6_checkPrefix 105 = .ok (.aload_n 0, 1) := by decide +kernel
theorem dX6_checkPrefix_106 : decode cX6_checkPrefix 106 = .ok (.getfield 35, 3) := by decide +kernel
theorem dX6_checkPrefix_109 : decode cX6_checkPrefix 109 = .ok (.iconst 1, 1) := by decide +kernel
theorem dX6_checkPrefix_110 : decode cX6_checkPrefix 110 = .ok (.iload_n 2, 1) := by decide +kernel
theorem dX6_checkPrefix_111 : decode cX6_checkPrefix 111 = .ok (.iload 6, 2) := by decide +kernel
theorem dX6_checkPrefix_113 : decode cX6_checkPrefix 113 = .ok (.iload 5, 2) := by decide +kernel
theorem dX6_checkPrefix_115 : decode cX6_checkPrefix 115 = .ok (.invokevirtual 280, 3) := by decide +kernel
theorem dX6_checkPrefix_118 : decode cX6_checkPrefix 118 = .ok (.iconst (-1), 1) := by decide +kernel
theorem dX6_checkPrefix_119 : decode cX6_checkPrefix 119 = .ok (.invokevirtual 269, 3) := by decide +kernel
theorem dX6_checkPrefix_122 : decode cX6_checkPrefix 122 = .ok (.return_, 1) := by decide +kernel
theorem dX6_pathNow_0 : decode cX6_pathNow 0 = .ok (.aload_n 1, 1) := by decide +kernel
theorem dX6_pathNow_1 : decode cX6_pathNow 1 = .ok (.iload_n 2, 1) := by decide +kernel
theorem dX6_pathNow_2 : decode cX6_pathNow 2 = .ok (.invokevirtual 203, 3) := by decide +kernel
theorem dX6_pathNow_5 : decode cX6_pathNow 5 = .ok (.istore_n 3, 1) := by decide +kernel
theorem dX6_pathNow_6 : decode cX6_pathNow 6 = .ok (.iload_n 3, 1) := by decide +kernel
theorem dX6_pathNow_7 : decode cX6_pathNow 7 = .ok (.iconst (-1), 1) := by decide +kernel
theorem dX6_pathNow_8 : decode cX6_pathNow 8 = .ok (.if_icmp .ne 5, 3) := by decide +kernel
theorem dX6_pathNow_11 : decode cX6_pathNow 11 = .ok (.iconst (-1), 1) := by decide +kernel
theorem dX6_pathNow_12 : decode cX6_pathNow 12 = .ok (.ireturn, 1) := by decide +kernel
theorem dX6_pathNow_13 : decode cX6_pathNow 13 = .ok (.iload_n 3, 1) := by decide +kernel
theorem dX6_pathNow_14 : decode cX6_pathNow 14 = .ok (.aload_n 1, 1) := by decide +kernel
theorem dX6_pathNow_15 : decode cX6_pathNow 15 = .ok (.getfield 249, 3) := by decide +kernel
theorem dX6_pathNow_18 : decode cX6_pathNow 18 = .ok (.if_icmp .ne 10, 3) := by decide +kernel
theorem dX6_pathNow_21 : decode cX6_pathNow 21 = .ok (.iconst 1, 1) := by decide +kernel
theorem dX6_pathNow_22 : decode cX6_pathNow 22 = .ok (.aload_n 1, 1) := by decide +kernel
theorem dX6_pathNow_23 : decode cX6_pathNow 23 = .ok (.getfield 249, 3) := by decide +kernel
theorem dX6_pathNow_26 : decode cX6_pathNow 26 = .ok (.ishl, 1) := by decide +kernel
theorem dX6_pathNow_27 : decode cX6_pathNow 27 = .ok (.ireturn, 1) := by decide +kernel
theorem dX6_pathNow_28 : decode cX6_pathNow 28 = .ok (.aload_n 0, 1) := by decide +kernel
theorem dX6_pathNow_29 : decode cX6_pathNow 29 = .ok (.aload_n 1, 1) := by decide +kernel
theorem dX6_pathNow_30 : decode cX6_pathNow 30 = .ok (.iload_n 3, 1) := by decide +kernel
theorem dX6_pathNow_31 : decode cX6_pathNow 31 = .ok (.invokevirtual 199, 3) := by decide +kernel
theorem dX6_pathNow_34 : decode cX6_pathNow 34 = .ok (.istore 4, 2) := by decide +kernel
theorem dX6_pathNow_36 : decode cX6_pathNow 36 = .ok (.iload 4, 2) := by decide +kernel
theorem dX6_pathNow_38 : decode cX6_pathNow 38 = .ok (.iconst (-1), 1) := by decide +kernel
theorem dX6_pathNow_39 : decode cX6_pathNow 39 = .ok (.if_icmp .eq 16, 3) := by decide +kernel
theorem dX6_pathNow_42 : decode cX6_pathNow 42 = .ok (.aload_n 1, 1) := by decide +kernel
theorem dX6_pathNow_43 : decode cX6_pathNow 43 = .ok (.getfield 213, 3) := by decide +kernel
theorem dX6_pathNow_46 : decode cX6_pathNow 46 = .ok (.iload_n 2, 1) := by decide +kernel
theorem dX6_pathNow_47 : decode cX6_pathNow 47 = .ok (.aaload, 1) := by decide +kernel
theorem dX6_pathNow_48 : decode cX6_pathNow 48 = .ok (.iload 4, 2) := by decide +kernel
theorem dX6_pathNow_50 : decode cX6_pathNow 50 = .ok (.iaload, 1) := by decide +kernel
theorem dX6_pathNow_51 : decode cX6_pathNow 51 = .ok (.iconst (-1), 1) := by decide +kernel
theorem dX6_pathNow_52 : decode cX6_pathNow 52 = .ok (.if_icmp .ne 5, 3) := by decide +kernel
theorem dX6_pathNow_55 : decode cX6_pathNow 55 = .ok (.iconst (-1), 1) := by decide +kernel
theorem dX6_pathNow_56 : decode cX6_pathNow 56 = .ok (.ireturn, 1) := by decide +kernel
theorem dX6_pathNow_57 : decode cX6_pathNow 57 = .ok (.aload_n 1, 1) := by decide +kernel
theorem dX6_pathNow_58 : decode cX6_pathNow 58 = .ok (.getfield 220, 3) := by decide +kernel
theorem dX6_pathNow_61 : decode cX6_pathNow 61 = .ok (.iload_n 2, 1) := by decide +kernel
theorem dX6_pathNow_62 : decode cX6_pathNow 62 = .ok (.aaload, 1) := by decide +kernel
theorem dX6_pathNow_63 : decode cX6_pathNow 63 = .ok (.iload 4, 2) := by decide +kernel
theorem dX6_pathNow_65 : decode cX6_pathNow 65 = .ok (.iaload, 1) := by decide +kernel
theorem dX6_pathNow_66 : decode cX6_pathNow 66 = .ok (.iconst 1, 1) := by decide +kernel
theorem dX6_pathNow_67 : decode cX6_pathNow 67 = .ok (.aload_n 1, 1) := by decide +kernel
theorem dX6_pathNow_68 : decode cX6_pathNow 68 = .ok (.getfield 249, 3) := by decide +kernel
theorem dX6_pathNow_71 : decode cX6_pathNow 71 = .ok (.ishl, 1) := by decide +kernel
theorem dX6_pathNow_72 : decode cX6_pathNow 72 = .ok (.ior, 1) := by decide +kernel
theorem dX6_pathNow_73 : decode cX6_pathNow 73 = .ok (.ireturn, 1) := by decide +kernel
theorem dX6_ofMapping_0 : decode cX6_ofMapping 0 = .ok (.iload_n 3, 1) := by decide +kernel
theorem dX6_ofMapping_1 : decode cX6_ofMapping 1 = .ok (.iconst (-1), 1) := by decide +kernel
theorem dX6_ofMapping_2 : decode cX6_ofMapping 2 = .ok (.if_icmp .ne 12, 3) := by decide +kernel
theorem dX6_ofMapping_5 : decode cX6_ofMapping 5 = .ok (.aload_n 0, 1) := by decide +kernel
theorem dX6_ofMapping_6 : decode cX6_ofMapping 6 = .ok (.aload_n 1, 1) := by decide +kernel
theorem dX6_ofMapping_7 : decode cX6_ofMapping 7 = .ok (.iload_n 2, 1) := by decide +kernel
theorem dX6_ofMapping_8 : decode cX6_ofMapping 8 = .ok (.invokevirtual 360, 3) := by decide +kernel
theorem dX6_ofMapping_11 : decode cX6_ofMapping 11 = .ok (.goto 4, 3) := by decide +kernel
theorem dX6_ofMapping_14 : decode cX6_ofMapping 14 = .ok (.iload_n 3, 1) := by decide +kernel
theorem dX6_ofMapping_15 : decode cX6_ofMapping 15 = .ok (.istore 5, 2) := by decide +kernel
theorem dX6_ofMapping_17 : decode cX6_ofMapping 17 = .ok (.iload 5, 2) := by decide +kernel
theorem dX6_ofMapping_19 : decode cX6_ofMapping 19 = .ok (.invokestatic 58, 3) := by decide +kernel
theorem dX6_ofMapping_22 : decode cX6_ofMapping 22 = .ok (.ifCond .eq 13, 3) := by decide +kernel
theorem dX6_ofMapping_25 : decode cX6_ofMapping 25 = .ok (.aload 4, 2) := by decide +kernel
theorem dX6_ofMapping_27 : decode cX6_ofMapping 27 = .ok (.iload_n 2, 1) := by decide +kernel
theorem dX6_ofMapping_28 : decode cX6_ofMapping 28 = .ok (.aaload, 1) := by decide +kernel
theorem dX6_ofMapping_29 : decode cX6_ofMapping 29 = .ok (.iload 5, 2) := by decide +kernel
theorem dX6_ofMapping_31 : decode cX6_ofMapping 31 = .ok (.iaload, 1) := by decide +kernel
theorem dX6_ofMapping_32 : decode cX6_ofMapping 32 = .ok (.goto 4, 3) := by decide +kernel
theorem dX6_ofMapping_35 : decode cX6_ofMapping 35 = .ok (.iconst (-1), 1) := by decide +kernel
theorem dX6_ofMapping_36 : decode cX6_ofMapping 36 = .ok (.ireturn, 1) := by decide +kernel
theorem dX6_packetComes_0 : decode cX6_packetComes 0 = .ok (.aload_n 0, 1) := by decide +kernel
theorem dX6_packetComes_1 : decode cX6_packetComes 1 = .ok (.getfield 21, 3) := by decide +kernel
theorem dX6_packetComes_4 : decode cX6_packetComes 4 = .ok (.iload_n 2, 1) := by decide +kernel
theorem dX6_packetComes_5 : decode cX6_packetComes 5 = .ok (.aaload, 1) := by decide +kernel
theorem dX6_packetComes_6 : decode cX6_packetComes 6 = .ok (.astore 4, 2) := by decide +kernel
theorem dX6_packetComes_8 : decode cX6_packetComes 8 = .ok (.aload 4, 2) := by decide +kernel
theorem dX6_packetComes_10 : decode cX6_packetComes 10 = .ok (.aload_n 1, 1) := by decide +kernel
theorem dX6_packetComes_11 : decode cX6_packetComes 11 = .ok (.getfield 249, 3) := by decide +kernel
theorem dX6_packetComes_14 : decode cX6_packetComes 14 = .ok (.putfield 158, 3) := by decide +kernel
theorem dX6_packetComes_17 : decode cX6_packetComes 17 = .ok (.iload_n 3, 1) := by decide +kernel
theorem dX6_packetComes_18 : decode cX6_packetComes 18 = .ok (.iconst (-1), 1) := by decide +kernel
theorem dX6_packetComes_19 : decode cX6_packetComes 19 = .ok (.if_icmp .eq 36, 3) := by decide +kernel
theorem dX6_packetComes_22 : decode cX6_packetComes 22 = .ok (.aload_n 1, 1) := by decide +kernel
theorem dX6_packetComes_23 : decode cX6_packetComes 23 = .ok (.iload_n 3, 1) := by decide +kernel
theorem dX6_packetComes_24 : decode cX6_packetComes 24 = .ok (.invokevirtual 363, 3) := by decide +kernel
theorem dX6_packetComes_27 : decode cX6_packetComes 27 = .ok (.istore 5, 2) := by decide +kernel
theorem dX6_packetComes_29 : decode cX6_packetComes 29 = .ok (.iload 5, 2) := by decide +kernel
theorem dX6_packetComes_31 : decode cX6_packetComes 31 = .ok (.iconst (-1), 1) := by decide +kernel
theorem dX6_packetComes_32 : decode cX6_packetComes 32 = .ok (.if_icmp .ne 12, 3) := by decide +kernel
theorem dX6_packetComes_35 : decode cX6_packetComes 35 = .ok (.aload 4, 2) := by decide +kernel
theorem dX6_packetComes_37 : decode cX6_packetComes 37 = .ok (.iconst 3, 1) := by decide +kernel
theorem dX6_packetComes_38 : decode cX6_packetComes 38 = .ok (.putfield 155, 3) := by decide +kernel
theorem dX6_packetComes_41 : decode cX6_packetComes 41 = .ok (.goto 11, 3) := by decide +kernel
theorem dX6_packetComes_44 : decode cX6_packetComes 44 = .ok (.aload_n 0, 1) := by decide +kernel
theorem dX6_packetComes_45 : decode cX6_packetComes 45 = .ok (.aload_n 1, 1) := by decide +kernel
theorem dX6_packetComes_46 : decode cX6_packetComes 46 = .ok (.iload_n 2, 1) := by decide +kernel
theorem dX6_packetComes_47 : decode cX6_packetComes 47 = .ok (.iload 5, 2) := by decide +kernel
theorem dX6_packetComes_49 : decode cX6_packetComes 49 = .ok (.invokevirtual 366, 3) := by decide +kernel
theorem dX6_packetComes_52 : decode cX6_packetComes 52 = .ok (.goto 40, 3) := by decide +kernel
theorem dX6_packetComes_55 : decode cX6_packetComes 55 = .ok (.aload_n 0, 1) := by decide +kernel
theorem dX6_packetComes_56 : decode cX6_packetComes 56 = .ok (.getfield 15, 3) := by decide +kernel
theorem dX6_packetComes_59 : decode cX6_packetComes 59 = .ok (.aload 4, 2) := by decide +kernel
theorem dX6_packetComes_61 : decode cX6_packetComes 61 = .ok (.getfield 167, 3) := by decide +kernel
theorem dX6_packetComes_64 : decode cX6_packetComes 64 = .ok (.iaload, 1) := by decide +kernel
theorem dX6_packetComes_65 : decode cX6_packetComes 65 = .ok (.aload_n 1, 1) := by decide +kernel
theorem dX6_packetComes_66 : decode cX6_packetComes 66 = .ok (.getfield 249, 3) := by decide +kernel
theorem dX6_packetComes_69 : decode cX6_packetComes 69 = .ok (.if_icmp .ne 12, 3) := by decide +kernel
theorem dX6_packetComes_72 : decode cX6_packetComes 72 = .ok (.aload 4, 2) := by decide +kernel
theorem dX6_packetComes_74 : decode cX6_packetComes 74 = .ok (.iconst 1, 1) := by decide +kernel
theorem dX6_packetComes_75 : decode cX6_packetComes 75 = .ok (.putfield 155, 3) := by decide +kernel
theorem dX6_packetComes_78 : decode cX6_packetComes 78 = .ok (.goto 14, 3) := by decide +kernel
theorem dX6_packetComes_81 : decode cX6_packetComes 81 = .ok (.aload_n 0, 1) := by decide +kernel
theorem dX6_packetComes_82 : decode cX6_packetComes 82 = .ok (.aload_n 1, 1) := by decide +kernel
theorem dX6_packetComes_83 : decode cX6_packetComes 83 = .ok (.iload_n 2, 1) := by decide +kernel
theorem dX6_packetComes_84 : decode cX6_packetComes 84 = .ok (.aload 4, 2) := by decide +kernel
theorem dX6_packetComes_86 : decode cX6_packetComes 86 = .ok (.getfield 167, 3) := by decide +kernel
theorem dX6_packetComes_89 : decode cX6_packetComes 89 = .ok (.invokevirtual 366, 3) := by decide +kernel
theorem dX6_packetComes_92 : decode cX6_packetComes 92 = .ok (.return_, 1) := by decide +kernel
theorem dX6_go_0 : decode cX6_go 0 = .ok (.aload_n 0, 1) := by decide +kernel
theorem dX6_go_1 : decode cX6_go 1 = .ok (.getfield 21, 3) := by decide +kernel
theorem dX6_go_4 : decode cX6_go 4 = .ok (.iload_n 2, 1) := by decide +kernel
theorem dX6_go_5 : decode cX6_go 5 = .ok (.aaload, 1) := by decide +kernel
theorem dX6_go_6 : decode cX6_go 6 = .ok (.astore 4, 2) := by decide +kernel
theorem dX6_go_8 : decode cX6_go 8 = .ok (.aload_n 0, 1) := by decide +kernel
theorem dX6_go_9 : decode cX6_go 9 = .ok (.aload_n 1, 1) := by decide +kernel
theorem dX6_go_10 : decode cX6_go 10 = .ok (.iload_n 3, 1) := by decide +kernel
theorem dX6_go_11 : decode cX6_go 11 = .ok (.invokevirtual 360, 3) := by decide +kernel
theorem dX6_go_14 : decode cX6_go 14 = .ok (.istore 5, 2) := by decide +kernel
theorem dX6_go_16 : decode cX6_go 16 = .ok (.iload 5, 2) := by decide +kernel
theorem dX6_go_18 : decode cX6_go 18 = .ok (.iconst (-1), 1) := by decide +kernel
theorem dX6_go_19 : decode cX6_go 19 = .ok (.if_icmp .ne 10, 3) := by decide +kernel
theorem dX6_go_22 : decode cX6_go 22 = .ok (.aload 4, 2) := by decide +kernel
theorem dX6_go_24 : decode cX6_go 24 = .ok (.iconst 2, 1) := by decide +kernel
theorem dX6_go_25 : decode cX6_go 25 = .ok (.putfield 155, 3) := by decide +kernel
theorem dX6_go_28 : decode cX6_go 28 = .ok (.return_, 1) := by decide +kernel
theorem dX6_go_29 : decode cX6_go 29 = .ok (.aload 4, 2) := by decide +kernel
theorem dX6_go_31 : decode cX6_go 31 = .ok (.getfield 161, 3) := by decide +kernel
theorem dX6_go_34 : decode cX6_go 34 = .ok (.ifCond .ne 10, 3) := by decide +kernel
theorem dX6_go_37 : decode cX6_go 37 = .ok (.aload 4, 2) := by decide +kernel
theorem dX6_go_39 : decode cX6_go 39 = .ok (.iconst 4, 1) := by decide +kernel
theorem dX6_go_40 : decode cX6_go 40 = .ok (.putfield 155, 3) := by decide +kernel
theorem dX6_go_43 : decode cX6_go 43 = .ok (.return_, 1) := by decide +kernel
theorem dX6_go_44 : decode cX6_go 44 = .ok (.aload 4, 2) := by decide +kernel
theorem dX6_go_46 : decode cX6_go 46 = .ok (.dup, 1) := by decide +kernel
theorem dX6_go_47 : decode cX6_go 47 = .ok (.getfield 161, 3) := by decide +kernel
theorem dX6_go_50 : decode cX6_go 50 = .ok (.iconst 1, 1) := by decide +kernel
theorem dX6_go_51 : decode cX6_go 51 = .ok (.isub, 1) := by decide +kernel
theorem dX6_go_52 : decode cX6_go 52 = .ok (.putfield 161, 3) := by decide +kernel
theorem dX6_go_55 : decode cX6_go 55 = .ok (.aload_n 1, 1) := by decide +kernel
theorem dX6_go_56 : decode cX6_go 56 = .ok (.getfield 213, 3) := by decide +kernel
theorem dX6_go_59 : decode cX6_go 59 = .ok (.iload_n 3, 1) := by decide +kernel
theorem dX6_go_60 : decode cX6_go 60 = .ok (.aaload, 1) := by decide +kernel
theorem dX6_go_61 : decode cX6_go 61 = .ok (.iload 5, 2) := by decide +kernel
theorem dX6_go_63 : decode cX6_go 63 = .ok (.iaload, 1) := by decide +kernel
theorem dX6_go_64 : decode cX6_go 64 = .ok (.istore 6, 2) := by decide +kernel
theorem dX6_go_66 : decode cX6_go 66 = .ok (.iload 6, 2) := by decide +kernel
theorem dX6_go_68 : decode cX6_go 68 = .ok (.iconst 3, 1) := by decide +kernel
theorem dX6_go_69 : decode cX6_go 69 = .ok (.if_icmp .ne 7, 3) := by decide +kernel
theorem dX6_go_72 : decode cX6_go 72 = .ok (.iconst (-1), 1) := by decide +kernel
theorem dX6_go_73 : decode cX6_go 73 = .ok (.goto 5, 3) := by decide +kernel
theorem dX6_go_76 : decode cX6_go 76 = .ok (.iload 6, 2) := by decide +kernel
theorem dX6_go_78 : decode cX6_go 78 = .ok (.istore 7, 2) := by decide +kernel
theorem dX6_go_80 : decode cX6_go 80 = .ok (.aload_n 0, 1) := by decide +kernel
theorem dX6_go_81 : decode cX6_go 81 = .ok (.aload_n 1, 1) := by decide +kernel
theorem dX6_go_82 : decode cX6_go 82 = .ok (.iload 5, 2) := by decide +kernel
theorem dX6_go_84 : decode cX6_go 84 = .ok (.aload_n 0, 1) := by decide +kernel
theorem dX6_go_85 : decode cX6_go 85 = .ok (.getfield 35, 3) := by decide +kernel
theorem dX6_go_88 : decode cX6_go 88 = .ok (.iconst 4, 1) := by decide +kernel
theorem dX6_go_89 : decode cX6_go 89 = .ok (.iload_n 2, 1) := by decide +kernel
theorem dX6_go_90 : decode cX6_go 90 = .ok (.iload 7, 2) := by decide +kernel
theorem dX6_go_92 : decode cX6_go 92 = .ok (.iconst 0, 1) := by decide +kernel
theorem dX6_go_93 : decode cX6_go 93 = .ok (.invokevirtual 280, 3) := by decide +kernel
theorem dX6_go_96 : decode cX6_go 96 = .ok (.invokevirtual 276, 3) := by decide +kernel
theorem dX6_go_99 : decode cX6_go 99 = .ok (.ifCond .eq 13, 3) := by decide +kernel
theorem dX6_go_102 : decode cX6_go 102 = .ok (.aload 4, 2) := by decide +kernel
theorem dX6_go_104 : decode cX6_go 104 = .ok (.iload 7, 2) := by decide +kernel
theorem dX6_go_106 : decode cX6_go 106 = .ok (.putfield 164, 3) := by decide +kernel
theorem dX6_go_109 : decode cX6_go 109 = .ok (.goto 9, 3) := by decide +kernel
theorem dX6_go_112 : decode cX6_go 112 = .ok (.aload 4, 2) := by decide +kernel
theorem dX6_go_114 : decode cX6_go 114 = .ok (.iconst 5, 1) := by decide +kernel
theorem dX6_go_115 : decode cX6_go 115 = .ok (.putfield 155, 3) := by decide +kernel
theorem dX6_go_118 : decode cX6_go 118 = .ok (.return_, 1) := by decide +kernel
