theorem dX_init_0 : decode bX_init 0 = .ok (.aload_n 0, 1) := by decide +kernel
theorem dX_init_1 : decode bX_init 1 = .ok (.invokespecial 1, 3) := by decide +kernel
theorem dX_init_4 : decode bX_init 4 = .ok (.aload_n 0, 1) := by decide +kernel
theorem dX_init_5 : decode bX_init 5 = .ok (.new 7, 3) := by decide +kernel
theorem dX_init_8 : decode bX_init 8 = .ok (.dup, 1) := by decide +kernel
theorem dX_init_9 : decode bX_init 9 = .ok (.invokespecial 9, 3) := by decide +kernel
theorem dX_init_12 : decode bX_init 12 = .ok (.putfield 10, 3) := by decide +kernel
theorem dX_init_15 : decode bX_init 15 = .ok (.aload_n 0, 1) := by decide +kernel
theorem dX_init_16 : decode bX_init 16 = .ok (.new 16, 3) := by decide +kernel
theorem dX_init_19 : decode bX_init 19 = .ok (.dup, 1) := by decide +kernel
theorem dX_init_20 : decode bX_init 20 = .ok (.invokespecial 18, 3) := by decide +kernel
theorem dX_init_23 : decode bX_init 23 = .ok (.putfield 19, 3) := by decide +kernel
theorem dX_init_26 : decode bX_init 26 = .ok (.aload_n 0, 1) := by decide +kernel
theorem dX_init_27 : decode bX_init 27 = .ok (.new 23, 3) := by decide +kernel
theorem dX_init_30 : decode bX_init 30 = .ok (.dup, 1) := by decide +kernel
theorem dX_init_31 : decode bX_init 31 = .ok (.invokespecial 25, 3) := by decide +kernel
theorem dX_init_34 : decode bX_init 34 = .ok (.putfield 26, 3) := by decide +kernel
theorem dX_init_37 : decode bX_init 37 = .ok (.aload_n 0, 1) := by decide +kernel
theorem dX_init_38 : decode bX_init 38 = .ok (.new 30, 3) := by decide +kernel
theorem dX_init_41 : decode bX_init 41 = .ok (.dup, 1) := by decide +kernel
theorem dX_init_42 : decode bX_init 42 = .ok (.aload_n 0, 1) := by decide +kernel
theorem dX_init_43 : decode bX_init 43 = .ok (.getfield 10, 3) := by decide +kernel
theorem dX_init_46 : decode bX_init 46 = .ok (.aload_n 0, 1) := by decide +kernel
theorem dX_init_47 : decode bX_init 47 = .ok (.getfield 19, 3) := by decide +kernel
theorem dX_init_50 : decode bX_init 50 = .ok (.invokespecial 32, 3) := by decide +kernel
theorem dX_init_53 : decode bX_init 53 = .ok (.putfield 35, 3) := by decide +kernel
theorem dX_init_56 : decode bX_init 56 = .ok (.aload_n 0, 1) := by decide +kernel
theorem dX_init_57 : decode bX_init 57 = .ok (.new 30, 3) := by decide +kernel
theorem dX_init_60 : decode bX_init 60 = .ok (.dup, 1) := by decide +kernel
theorem dX_init_61 : decode bX_init 61 = .ok (.aload_n 0, 1) := by decide +kernel
theorem dX_init_62 : decode bX_init 62 = .ok (.getfield 10, 3) := by decide +kernel
theorem dX_init_65 : decode bX_init 65 = .ok (.aload_n 0, 1) := by decide +kernel
theorem dX_init_66 : decode bX_init 66 = .ok (.getfield 19, 3) := by decide +kernel
theorem dX_init_69 : decode bX_init 69 = .ok (.invokespecial 32, 3) := by decide +kernel
theorem dX_init_72 : decode bX_init 72 = .ok (.putfield 39, 3) := by decide +kernel
theorem dX_init_75 : decode bX_init 75 = .ok (.aload_n 0, 1) := by decide +kernel
theorem dX_init_76 : decode bX_init 76 = .ok (.sipush 401, 3) := by decide +kernel
theorem dX_init_79 : decode bX_init 79 = .ok (.newarray .long, 2) := by decide +kernel
theorem dX_init_81 : decode bX_init 81 = .ok (.putfield 42, 3) := by decide +kernel
theorem dX_init_84 : decode bX_init 84 = .ok (.return_, 1) := by decide +kernel
theorem dS_init_0 : decode bS_init 0 = .ok (.aload_n 0, 1) := by decide +kernel
theorem dS_init_1 : decode bS_init 1 = .ok (.invokespecial 3, 3) := by decide +kernel
theorem dS_init_4 : decode bS_init 4 = .ok (.aload_n 0, 1) := by decide +kernel
theorem dS_init_5 : decode bS_init 5 = .ok (.bipush 30, 2) := by decide +kernel
theorem dS_init_7 : decode bS_init 7 = .ok (.newarray .int, 2) := by decide +kernel
theorem dS_init_9 : decode bS_init 9 = .ok (.putfield 9, 3) := by decide +kernel
theorem dS_init_12 : decode bS_init 12 = .ok (.aload_n 0, 1) := by decide +kernel
theorem dS_init_13 : decode bS_init 13 = .ok (.bipush 30, 2) := by decide +kernel
theorem dS_init_15 : decode bS_init 15 = .ok (.newarray .int, 2) := by decide +kernel
theorem dS_init_17 : decode bS_init 17 = .ok (.putfield 15, 3) := by decide +kernel
theorem dS_init_20 : decode bS_init 20 = .ok (.aload_n 0, 1) := by decide +kernel
theorem dS_init_21 : decode bS_init 21 = .ok (.bipush 30, 2) := by decide +kernel
theorem dS_init_23 : decode bS_init 23 = .ok (.newarray .int, 2) := by decide +kernel
theorem dS_init_25 : decode bS_init 25 = .ok (.putfield 18, 3) := by decide +kernel
theorem dS_init_28 : decode bS_init 28 = .ok (.aload_n 0, 1) := by decide +kernel
theorem dS_init_29 : decode bS_init 29 = .ok (.bipush 30, 2) := by decide +kernel
theorem dS_init_31 : decode bS_init 31 = .ok (.newarray .int, 2) := by decide +kernel
theorem dS_init_33 : decode bS_init 33 = .ok (.putfield 21, 3) := by decide +kernel
theorem dS_init_36 : decode bS_init 36 = .ok (.aload_n 0, 1) := by decide +kernel
theorem dS_init_37 : decode bS_init 37 = .ok (.bipush 30, 2) := by decide +kernel
theorem dS_init_39 : decode bS_init 39 = .ok (.newarray .int, 2) := by decide +kernel
theorem dS_init_41 : decode bS_init 41 = .ok (.putfield 24, 3) := by decide +kernel
theorem dS_init_44 : decode bS_init 44 = .ok (.aload_n 0, 1) := by decide +kernel
theorem dS_init_45 : decode bS_init 45 = .ok (.bipush 31, 2) := by decide +kernel
theorem dS_init_47 : decode bS_init 47 = .ok (.newarray .int, 2) := by decide +kernel
theorem dS_init_49 : decode bS_init 49 = .ok (.putfield 27, 3) := by decide +kernel
theorem dS_init_52 : decode bS_init 52 = .ok (.aload_n 0, 1) := by decide +kernel
theorem dS_init_53 : decode bS_init 53 = .ok (.iconst 1, 1) := by decide +kernel
theorem dS_init_54 : decode bS_init 54 = .ok (.putfield 30, 3) := by decide +kernel
theorem dS_init_57 : decode bS_init 57 = .ok (.return_, 1) := by decide +kernel
theorem dO_init_0 : decode bO_init 0 = .ok (.aload_n 0, 1) := by decide +kernel
theorem dO_init_1 : decode bO_init 1 = .ok (.invokespecial 3, 3) := by decide +kernel
theorem dO_init_4 : decode bO_init 4 = .ok (.aload_n 0, 1) := by decide +kernel
theorem dO_init_5 : decode bO_init 5 = .ok (.bipush 12, 2) := by decide +kernel
theorem dO_init_7 : decode bO_init 7 = .ok (.newarray .int, 2) := by decide +kernel
theorem dO_init_9 : decode bO_init 9 = .ok (.putfield 9, 3) := by decide +kernel
theorem dO_init_12 : decode bO_init 12 = .ok (.aload_n 0, 1) := by decide +kernel
theorem dO_init_13 : decode bO_init 13 = .ok (.bipush 12, 2) := by decide +kernel
theorem dO_init_15 : decode bO_init 15 = .ok (.newarray .int, 2) := by decide +kernel
theorem dO_init_17 : decode bO_init 17 = .ok (.putfield 15, 3) := by decide +kernel
theorem dO_init_20 : decode bO_init 20 = .ok (.return_, 1) := by decide +kernel
theorem dD_init_0 : decode bD_init 0 = .ok (.aload_n 0, 1) := by decide +kernel
theorem dD_init_1 : decode bD_init 1 = .ok (.invokespecial 3, 3) := by decide +kernel
theorem dD_init_4 : decode bD_init 4 = .ok (.aload_n 0, 1) := by decide +kernel
theorem dD_init_5 : decode bD_init 5 = .ok (.bipush 20, 2) := by decide +kernel
theorem dD_init_7 : decode bD_init 7 = .ok (.newarray .int, 2) := by decide +kernel
theorem dD_init_9 : decode bD_init 9 = .ok (.putfield 9, 3) := by decide +kernel
theorem dD_init_12 : decode bD_init 12 = .ok (.aload_n 0, 1) := by decide +kernel
theorem dD_init_13 : decode bD_init 13 = .ok (.bipush 20, 2) := by decide +kernel
theorem dD_init_15 : decode bD_init 15 = .ok (.newarray .long, 2) := by decide +kernel
theorem dD_init_17 : decode bD_init 17 = .ok (.putfield 15, 3) := by decide +kernel
theorem dD_init_20 : decode bD_init 20 = .ok (.return_, 1) := by decide +kernel
theorem dG_init_0 : decode bG_init 0 = .ok (.aload_n 0, 1) := by decide +kernel
theorem dG_init_1 : decode bG_init 1 = .ok (.invokespecial 3, 3) := by decide +kernel
theorem dG_init_4 : decode bG_init 4 = .ok (.aload_n 0, 1) := by decide +kernel
theorem dG_init_5 : decode bG_init 5 = .ok (.bipush 30, 2) := by decide +kernel
theorem dG_init_7 : decode bG_init 7 = .ok (.newarray .long, 2) := by decide +kernel
theorem dG_init_9 : decode bG_init 9 = .ok (.putfield 9, 3) := by decide +kernel
theorem dG_init_12 : decode bG_init 12 = .ok (.aload_n 0, 1) := by decide +kernel
theorem dG_init_13 : decode bG_init 13 = .ok (.bipush 30, 2) := by decide +kernel
theorem dG_init_15 : decode bG_init 15 = .ok (.newarray .long, 2) := by decide +kernel
theorem dG_init_17 : decode bG_init 17 = .ok (.putfield 15, 3) := by decide +kernel
theorem dG_init_20 : decode bG_init 20 = .ok (.aload_n 0, 1) := by decide +kernel
theorem dG_init_21 : decode bG_init 21 = .ok (.aload_n 1, 1) := by decide +kernel
theorem dG_init_22 : decode bG_init 22 = .ok (.putfield 18, 3) := by decide +kernel
theorem dG_init_25 : decode bG_init 25 = .ok (.aload_n 0, 1) := by decide +kernel
theorem dG_init_26 : decode bG_init 26 = .ok (.aload_n 2, 1) := by decide +kernel
theorem dG_init_27 : decode bG_init 27 = .ok (.putfield 22, 3) := by decide +kernel
theorem dG_init_30 : decode bG_init 30 = .ok (.return_, 1) := by decide +kernel
theorem dX_layer_0 : decode bX_layer 0 = .ok (.aload_n 0, 1) := by decide +kernel
theorem dX_layer_1 : decode bX_layer 1 = .ok (.getfield 35, 3) := by decide +kernel
theorem dX_layer_4 : decode bX_layer 4 = .ok (.getfield 46, 3) := by decide +kernel
theorem dX_layer_7 : decode bX_layer 7 = .ok (.ifCond .gt 13, 3) := by decide +kernel
theorem dX_layer_10 : decode bX_layer 10 = .ok (.aload_n 0, 1) := by decide +kernel
theorem dX_layer_11 : decode bX_layer 11 = .ok (.getfield 19, 3) := by decide +kernel
theorem dX_layer_14 : decode bX_layer 14 = .ok (.getfield 50, 3) := by decide +kernel
theorem dX_layer_17 : decode bX_layer 17 = .ok (.ifCond .le 5, 3) := by decide +kernel
theorem dX_layer_20 : decode bX_layer 20 = .ok (.iconst (-1), 1) := by decide +kernel
theorem dX_layer_21 : decode bX_layer 21 = .ok (.ireturn, 1) := by decide +kernel
theorem dX_layer_22 : decode bX_layer 22 = .ok (.iload_n 1, 1) := by decide +kernel
theorem dX_layer_23 : decode bX_layer 23 = .ok (.iconst 1, 1) := by decide +kernel
theorem dX_layer_24 : decode bX_layer 24 = .ok (.bipush 10, 2) := by decide +kernel
theorem dX_layer_26 : decode bX_layer 26 = .ok (.invokestatic 53, 3) := by decide +kernel
theorem dX_layer_29 : decode bX_layer 29 = .ok (.ifCond .eq 17, 3) := by decide +kernel
theorem dX_layer_32 : decode bX_layer 32 = .ok (.iload_n 1, 1) := by decide +kernel
theorem dX_layer_33 : decode bX_layer 33 = .ok (.bipush 30, 2) := by decide +kernel
theorem dX_layer_35 : decode bX_layer 35 = .ok (.aload_n 0, 1) := by decide +kernel
theorem dX_layer_36 : decode bX_layer 36 = .ok (.getfield 10, 3) := by decide +kernel
theorem dX_layer_39 : decode bX_layer 39 = .ok (.getfield 57, 3) := by decide +kernel
theorem dX_layer_42 : decode bX_layer 42 = .ok (.isub, 1) := by decide +kernel
theorem dX_layer_43 : decode bX_layer 43 = .ok (.if_icmp .le 5, 3) := by decide +kernel
theorem dX_layer_46 : decode bX_layer 46 = .ok (.iconst (-1), 1) := by decide +kernel
theorem dX_layer_47 : decode bX_layer 47 = .ok (.ireturn, 1) := by decide +kernel
theorem dX_layer_48 : decode bX_layer 48 = .ok (.iload_n 2, 1) := by decide +kernel
theorem dX_layer_49 : decode bX_layer 49 = .ok (.iconst 0, 1) := by decide +kernel
theorem dX_layer_50 : decode bX_layer 50 = .ok (.sipush 300, 3) := by decide +kernel
theorem dX_layer_53 : decode bX_layer 53 = .ok (.invokestatic 53, 3) := by decide +kernel
theorem dX_layer_56 : decode bX_layer 56 = .ok (.ifCond .eq 14, 3) := by decide +kernel
theorem dX_layer_59 : decode bX_layer 59 = .ok (.iload 5, 2) := by decide +kernel
theorem dX_layer_61 : decode bX_layer 61 = .ok (.iconst 0, 1) := by decide +kernel
theorem dX_layer_62 : decode bX_layer 62 = .ok (.ldc 60, 2) := by decide +kernel
theorem dX_layer_64 : decode bX_layer 64 = .ok (.invokestatic 53, 3) := by decide +kernel
theorem dX_layer_67 : decode bX_layer 67 = .ok (.ifCond .ne 5, 3) := by decide +kernel
theorem dX_layer_70 : decode bX_layer 70 = .ok (.iconst (-1), 1) := by decide +kernel
theorem dX_layer_71 : decode bX_layer 71 = .ok (.ireturn, 1) := by decide +kernel
theorem dX_layer_72 : decode bX_layer 72 = .ok (.iload_n 3, 1) := by decide +kernel
theorem dX_layer_73 : decode bX_layer 73 = .ok (.iconst 0, 1) := by decide +kernel
theorem dX_layer_74 : decode bX_layer 74 = .ok (.sipush 1000, 3) := by decide +kernel
theorem dX_layer_77 : decode bX_layer 77 = .ok (.invokestatic 53, 3) := by decide +kernel
theorem dX_layer_80 : decode bX_layer 80 = .ok (.ifCond .eq 15, 3) := by decide +kernel
theorem dX_layer_83 : decode bX_layer 83 = .ok (.iload 4, 2) := by decide +kernel
theorem dX_layer_85 : decode bX_layer 85 = .ok (.iload_n 3, 1) := by decide +kernel
theorem dX_layer_86 : decode bX_layer 86 = .ok (.sipush 1000, 3) := by decide +kernel
theorem dX_layer_89 : decode bX_layer 89 = .ok (.invokestatic 53, 3) := by decide +kernel
theorem dX_layer_92 : decode bX_layer 92 = .ok (.ifCond .ne 5, 3) := by decide +kernel
theorem dX_layer_95 : decode bX_layer 95 = .ok (.iconst (-1), 1) := by decide +kernel
theorem dX_layer_96 : decode bX_layer 96 = .ok (.ireturn, 1) := by decide +kernel
theorem dX_layer_97 : decode bX_layer 97 = .ok (.aload_n 0, 1) := by decide +kernel
theorem dX_layer_98 : decode bX_layer 98 = .ok (.getfield 35, 3) := by decide +kernel
theorem dX_layer_101 : decode bX_layer 101 = .ok (.aload_n 0, 1) := by decide +kernel
theorem dX_layer_102 : decode bX_layer 102 = .ok (.getfield 10, 3) := by decide +kernel
theorem dX_layer_105 : decode bX_layer 105 = .ok (.getfield 57, 3) := by decide +kernel
theorem dX_layer_108 : decode bX_layer 108 = .ok (.iload_n 1, 1) := by decide +kernel
theorem dX_layer_109 : decode bX_layer 109 = .ok (.iload 5, 2) := by decide +kernel
theorem dX_layer_111 : decode bX_layer 111 = .ok (.invokevirtual 61, 3) := by decide +kernel
theorem dX_layer_114 : decode bX_layer 114 = .ok (.aload_n 0, 1) := by decide +kernel
theorem dX_layer_115 : decode bX_layer 115 = .ok (.getfield 10, 3) := by decide +kernel
theorem dX_layer_118 : decode bX_layer 118 = .ok (.iload_n 1, 1) := by decide +kernel
theorem dX_layer_119 : decode bX_layer 119 = .ok (.iload_n 2, 1) := by decide +kernel
theorem dX_layer_120 : decode bX_layer 120 = .ok (.iload_n 3, 1) := by decide +kernel
theorem dX_layer_121 : decode bX_layer 121 = .ok (.iload 4, 2) := by decide +kernel
theorem dX_layer_123 : decode bX_layer 123 = .ok (.iload 5, 2) := by decide +kernel
theorem dX_layer_125 : decode bX_layer 125 = .ok (.invokevirtual 65, 3) := by decide +kernel
theorem dX_layer_128 : decode bX_layer 128 = .ok (.ireturn, 1) := by decide +kernel
theorem dX_within_0 : decode bX_within 0 = .ok (.iload_n 0, 1) := by decide +kernel
theorem dX_within_1 : decode bX_within 1 = .ok (.iload_n 1, 1) := by decide +kernel
theorem dX_within_2 : decode bX_within 2 = .ok (.if_icmp .lt 12, 3) := by decide +kernel
theorem dX_within_5 : decode bX_within 5 = .ok (.iload_n 0, 1) := by decide +kernel
theorem dX_within_6 : decode bX_within 6 = .ok (.iload_n 2, 1) := by decide +kernel
theorem dX_within_7 : decode bX_within 7 = .ok (.if_icmp .gt 7, 3) := by decide +kernel
theorem dX_within_10 : decode bX_within 10 = .ok (.iconst 1, 1) := by decide +kernel
theorem dX_within_11 : decode bX_within 11 = .ok (.goto 4, 3) := by decide +kernel
theorem dX_within_14 : decode bX_within 14 = .ok (.iconst 0, 1) := by decide +kernel
theorem dX_within_15 : decode bX_within 15 = .ok (.ireturn, 1) := by decide +kernel
theorem dG_begin_0 : decode bG_begin 0 = .ok (.iload_n 1, 1) := by decide +kernel
theorem dG_begin_1 : decode bG_begin 1 = .ok (.istore 4, 2) := by decide +kernel
theorem dG_begin_3 : decode bG_begin 3 = .ok (.iload 4, 2) := by decide +kernel
theorem dG_begin_5 : decode bG_begin 5 = .ok (.iload_n 1, 1) := by decide +kernel
theorem dG_begin_6 : decode bG_begin 6 = .ok (.iload_n 2, 1) := by decide +kernel
theorem dG_begin_7 : decode bG_begin 7 = .ok (.iadd, 1) := by decide +kernel
theorem dG_begin_8 : decode bG_begin 8 = .ok (.if_icmp .ge 25, 3) := by decide +kernel
theorem dG_begin_11 : decode bG_begin 11 = .ok (.iload 4, 2) := by decide +kernel
theorem dG_begin_13 : decode bG_begin 13 = .ok (.bipush 30, 2) := by decide +kernel
theorem dG_begin_15 : decode bG_begin 15 = .ok (.if_icmp .ge 18, 3) := by decide +kernel
theorem dG_begin_18 : decode bG_begin 18 = .ok (.aload_n 0, 1) := by decide +kernel
theorem dG_begin_19 : decode bG_begin 19 = .ok (.getfield 15, 3) := by decide +kernel
theorem dG_begin_22 : decode bG_begin 22 = .ok (.iload 4, 2) := by decide +kernel
theorem dG_begin_24 : decode bG_begin 24 = .ok (.iload_n 3, 1) := by decide +kernel
theorem dG_begin_25 : decode bG_begin 25 = .ok (.i2l, 1) := by decide +kernel
theorem dG_begin_26 : decode bG_begin 26 = .ok (.lastore, 1) := by decide +kernel
theorem dG_begin_27 : decode bG_begin 27 = .ok (.iinc 4 1, 3) := by decide +kernel
theorem dG_begin_30 : decode bG_begin 30 = .ok (.goto (-27), 3) := by decide +kernel
theorem dG_begin_33 : decode bG_begin 33 = .ok (.return_, 1) := by decide +kernel
theorem dS_addLayer_0 : decode bS_addLayer 0 = .ok (.iconst 0, 1) := by decide +kernel
theorem dS_addLayer_1 : decode bS_addLayer 1 = .ok (.istore 6, 2) := by decide +kernel
theorem dS_addLayer_3 : decode bS_addLayer 3 = .ok (.iload 6, 2) := by decide +kernel
theorem dS_addLayer_5 : decode bS_addLayer 5 = .ok (.iload_n 1, 1) := by decide +kernel
theorem dS_addLayer_6 : decode bS_addLayer 6 = .ok (.if_icmp .ge 103, 3) := by decide +kernel
theorem dS_addLayer_9 : decode bS_addLayer 9 = .ok (.aload_n 0, 1) := by decide +kernel
theorem dS_addLayer_10 : decode bS_addLayer 10 = .ok (.getfield 34, 3) := by decide +kernel
theorem dS_addLayer_13 : decode bS_addLayer 13 = .ok (.bipush 30, 2) := by decide +kernel
theorem dS_addLayer_15 : decode bS_addLayer 15 = .ok (.if_icmp .ge 94, 3) := by decide +kernel
theorem dS_addLayer_18 : decode bS_addLayer 18 = .ok (.aload_n 0, 1) := by decide +kernel
theorem dS_addLayer_19 : decode bS_addLayer 19 = .ok (.getfield 9, 3) := by decide +kernel
theorem dS_addLayer_22 : decode bS_addLayer 22 = .ok (.aload_n 0, 1) := by decide +kernel
theorem dS_addLayer_23 : decode bS_addLayer 23 = .ok (.getfield 34, 3) := by decide +kernel
theorem dS_addLayer_26 : decode bS_addLayer 26 = .ok (.iload_n 2, 1) := by decide +kernel
theorem dS_addLayer_27 : decode bS_addLayer 27 = .ok (.iastore, 1) := by decide +kernel
theorem dS_addLayer_28 : decode bS_addLayer 28 = .ok (.aload_n 0, 1) := by decide +kernel
theorem dS_addLayer_29 : decode bS_addLayer 29 = .ok (.getfield 18, 3) := by decide +kernel
theorem dS_addLayer_32 : decode bS_addLayer 32 = .ok (.aload_n 0, 1) := by decide +kernel
theorem dS_addLayer_33 : decode bS_addLayer 33 = .ok (.getfield 34, 3) := by decide +kernel
theorem dS_addLayer_36 : decode bS_addLayer 36 = .ok (.iload_n 3, 1) := by decide +kernel
theorem dS_addLayer_37 : decode bS_addLayer 37 = .ok (.iastore, 1) := by decide +kernel
theorem dS_addLayer_38 : decode bS_addLayer 38 = .ok (.aload_n 0, 1) := by decide +kernel
theorem dS_addLayer_39 : decode bS_addLayer 39 = .ok (.getfield 21, 3) := by decide +kernel
theorem dS_addLayer_42 : decode bS_addLayer 42 = .ok (.aload_n 0, 1) := by decide +kernel
theorem dS_addLayer_43 : decode bS_addLayer 43 = .ok (.getfield 34, 3) := by decide +kernel
theorem dS_addLayer_46 : decode bS_addLayer 46 = .ok (.iload 4, 2) := by decide +kernel
theorem dS_addLayer_48 : decode bS_addLayer 48 = .ok (.iastore, 1) := by decide +kernel
theorem dS_addLayer_49 : decode bS_addLayer 49 = .ok (.aload_n 0, 1) := by decide +kernel
theorem dS_addLayer_50 : decode bS_addLayer 50 = .ok (.getfield 24, 3) := by decide +kernel
theorem dS_addLayer_53 : decode bS_addLayer 53 = .ok (.aload_n 0, 1) := by decide +kernel
theorem dS_addLayer_54 : decode bS_addLayer 54 = .ok (.getfield 34, 3) := by decide +kernel
theorem dS_addLayer_57 : decode bS_addLayer 57 = .ok (.iload 5, 2) := by decide +kernel
theorem dS_addLayer_59 : decode bS_addLayer 59 = .ok (.iastore, 1) := by decide +kernel
theorem dS_addLayer_60 : decode bS_addLayer 60 = .ok (.aload_n 0, 1) := by decide +kernel
theorem dS_addLayer_61 : decode bS_addLayer 61 = .ok (.getfield 34, 3) := by decide +kernel
theorem dS_addLayer_64 : decode bS_addLayer 64 = .ok (.ifCond .le 29, 3) := by decide +kernel
theorem dS_addLayer_67 : decode bS_addLayer 67 = .ok (.aload_n 0, 1) := by decide +kernel
theorem dS_addLayer_68 : decode bS_addLayer 68 = .ok (.getfield 15, 3) := by decide +kernel
theorem dS_addLayer_71 : decode bS_addLayer 71 = .ok (.aload_n 0, 1) := by decide +kernel
theorem dS_addLayer_72 : decode bS_addLayer 72 = .ok (.getfield 34, 3) := by decide +kernel
theorem dS_addLayer_75 : decode bS_addLayer 75 = .ok (.iconst 1, 1) := by decide +kernel
theorem dS_addLayer_76 : decode bS_addLayer 76 = .ok (.isub, 1) := by decide +kernel
theorem dS_addLayer_77 : decode bS_addLayer 77 = .ok (.aload_n 0, 1) := by decide +kernel
theorem dS_addLayer_78 : decode bS_addLayer 78 = .ok (.getfield 9, 3) := by decide +kernel
theorem dS_addLayer_81 : decode bS_addLayer 81 = .ok (.aload_n 0, 1) := by decide +kernel
theorem dS_addLayer_82 : decode bS_addLayer 82 = .ok (.getfield 34, 3) := by decide +kernel
theorem dS_addLayer_85 : decode bS_addLayer 85 = .ok (.iconst 1, 1) := by decide +kernel
theorem dS_addLayer_86 : decode bS_addLayer 86 = .ok (.isub, 1) := by decide +kernel
theorem dS_addLayer_87 : decode bS_addLayer 87 = .ok (.iaload, 1) := by decide +kernel
theorem dS_addLayer_88 : decode bS_addLayer 88 = .ok (.iload_n 2, 1) := by decide +kernel
theorem dS_addLayer_89 : decode bS_addLayer 89 = .ok (.invokestatic 38, 3) := by decide +kernel
theorem dS_addLayer_92 : decode bS_addLayer 92 = .ok (.iastore, 1) := by decide +kernel
theorem dS_addLayer_93 : decode bS_addLayer 93 = .ok (.aload_n 0, 1) := by decide +kernel
theorem dS_addLayer_94 : decode bS_addLayer 94 = .ok (.dup, 1) := by decide +kernel
theorem dS_addLayer_95 : decode bS_addLayer 95 = .ok (.getfield 34, 3) := by decide +kernel
theorem dS_addLayer_98 : decode bS_addLayer 98 = .ok (.iconst 1, 1) := by decide +kernel
theorem dS_addLayer_99 : decode bS_addLayer 99 = .ok (.iadd, 1) := by decide +kernel
theorem dS_addLayer_100 : decode bS_addLayer 100 = .ok (.putfield 34, 3) := by decide +kernel
theorem dS_addLayer_103 : decode bS_addLayer 103 = .ok (.iinc 6 1, 3) := by decide +kernel
theorem dS_addLayer_106 : decode bS_addLayer 106 = .ok (.goto (-103), 3) := by decide +kernel
theorem dS_addLayer_109 : decode bS_addLayer 109 = .ok (.aload_n 0, 1) := by decide +kernel
theorem dS_addLayer_110 : decode bS_addLayer 110 = .ok (.dup, 1) := by decide +kernel
theorem dS_addLayer_111 : decode bS_addLayer 111 = .ok (.getfield 44, 3) := by decide +kernel
theorem dS_addLayer_114 : decode bS_addLayer 114 = .ok (.iconst 1, 1) := by decide +kernel
theorem dS_addLayer_115 : decode bS_addLayer 115 = .ok (.iadd, 1) := by decide +kernel
theorem dS_addLayer_116 : decode bS_addLayer 116 = .ok (.putfield 44, 3) := by decide +kernel
theorem dS_addLayer_119 : decode bS_addLayer 119 = .ok (.aload_n 0, 1) := by decide +kernel
theorem dS_addLayer_120 : decode bS_addLayer 120 = .ok (.getfield 27, 3) := by decide +kernel
theorem dS_addLayer_123 : decode bS_addLayer 123 = .ok (.aload_n 0, 1) := by decide +kernel
theorem dS_addLayer_124 : decode bS_addLayer 124 = .ok (.getfield 44, 3) := by decide +kernel
theorem dS_addLayer_127 : decode bS_addLayer 127 = .ok (.aload_n 0, 1) := by decide +kernel
theorem dS_addLayer_128 : decode bS_addLayer 128 = .ok (.getfield 34, 3) := by decide +kernel
theorem dS_addLayer_131 : decode bS_addLayer 131 = .ok (.iastore, 1) := by decide +kernel
theorem dS_addLayer_132 : decode bS_addLayer 132 = .ok (.aload_n 0, 1) := by decide +kernel
theorem dS_addLayer_133 : decode bS_addLayer 133 = .ok (.getfield 44, 3) := by decide +kernel
theorem dS_addLayer_136 : decode bS_addLayer 136 = .ok (.iconst 1, 1) := by decide +kernel
theorem dS_addLayer_137 : decode bS_addLayer 137 = .ok (.isub, 1) := by decide +kernel
theorem dS_addLayer_138 : decode bS_addLayer 138 = .ok (.ireturn, 1) := by decide +kernel
theorem dX_drains_0 : decode bX_drains 0 = .ok (.iload_n 3, 1) := by decide +kernel
theorem dX_drains_1 : decode bX_drains 1 = .ok (.iconst 0, 1) := by decide +kernel
theorem dX_drains_2 : decode bX_drains 2 = .ok (.sipush 200, 3) := by decide +kernel
theorem dX_drains_5 : decode bX_drains 5 = .ok (.invokestatic 53, 3) := by decide +kernel
theorem dX_drains_8 : decode bX_drains 8 = .ok (.ifCond .ne 5, 3) := by decide +kernel
theorem dX_drains_11 : decode bX_drains 11 = .ok (.iconst 0, 1) := by decide +kernel
theorem dX_drains_12 : decode bX_drains 12 = .ok (.ireturn, 1) := by decide +kernel
theorem dX_drains_13 : decode bX_drains 13 = .ok (.aload_n 0, 1) := by decide +kernel
theorem dX_drains_14 : decode bX_drains 14 = .ok (.getfield 10, 3) := by decide +kernel
theorem dX_drains_17 : decode bX_drains 17 = .ok (.iload_n 1, 1) := by decide +kernel
theorem dX_drains_18 : decode bX_drains 18 = .ok (.putfield 69, 3) := by decide +kernel
theorem dX_drains_21 : decode bX_drains 21 = .ok (.aload_n 0, 1) := by decide +kernel
theorem dX_drains_22 : decode bX_drains 22 = .ok (.getfield 10, 3) := by decide +kernel
theorem dX_drains_25 : decode bX_drains 25 = .ok (.iload_n 2, 1) := by decide +kernel
theorem dX_drains_26 : decode bX_drains 26 = .ok (.putfield 73, 3) := by decide +kernel
theorem dX_drains_29 : decode bX_drains 29 = .ok (.aload_n 0, 1) := by decide +kernel
theorem dX_drains_30 : decode bX_drains 30 = .ok (.getfield 10, 3) := by decide +kernel
theorem dX_drains_33 : decode bX_drains 33 = .ok (.iload_n 3, 1) := by decide +kernel
theorem dX_drains_34 : decode bX_drains 34 = .ok (.putfield 76, 3) := by decide +kernel
theorem dX_drains_37 : decode bX_drains 37 = .ok (.iconst 1, 1) := by decide +kernel
theorem dX_drains_38 : decode bX_drains 38 = .ok (.ireturn, 1) := by decide +kernel
theorem dX_load_0 : decode bX_load 0 = .ok (.iload_n 1, 1) := by decide +kernel
theorem dX_load_1 : decode bX_load 1 = .ok (.aload_n 0, 1) := by decide +kernel
theorem dX_load_2 : decode bX_load 2 = .ok (.getfield 35, 3) := by decide +kernel
theorem dX_load_5 : decode bX_load 5 = .ok (.getfield 46, 3) := by decide +kernel
theorem dX_load_8 : decode bX_load 8 = .ok (.sipush 399, 3) := by decide +kernel
theorem dX_load_11 : decode bX_load 11 = .ok (.invokestatic 53, 3) := by decide +kernel
theorem dX_load_14 : decode bX_load 14 = .ok (.ifCond .eq 13, 3) := by decide +kernel
theorem dX_load_17 : decode bX_load 17 = .ok (.iload_n 2, 1) := by decide +kernel
theorem dX_load_18 : decode bX_load 18 = .ok (.iconst 1, 1) := by decide +kernel
theorem dX_load_19 : decode bX_load 19 = .ok (.ldc 79, 2) := by decide +kernel
theorem dX_load_21 : decode bX_load 21 = .ok (.invokestatic 53, 3) := by decide +kernel
theorem dX_load_24 : decode bX_load 24 = .ok (.ifCond .ne 5, 3) := by decide +kernel
theorem dX_load_27 : decode bX_load 27 = .ok (.iconst (-1), 1) := by decide +kernel
theorem dX_load_28 : decode bX_load 28 = .ok (.ireturn, 1) := by decide +kernel
theorem dX_load_29 : decode bX_load 29 = .ok (.aload_n 0, 1) := by decide +kernel
theorem dX_load_30 : decode bX_load 30 = .ok (.getfield 19, 3) := by decide +kernel
theorem dX_load_33 : decode bX_load 33 = .ok (.getfield 50, 3) := by decide +kernel
theorem dX_load_36 : decode bX_load 36 = .ok (.bipush 12, 2) := by decide +kernel
theorem dX_load_38 : decode bX_load 38 = .ok (.if_icmp .lt 5, 3) := by decide +kernel
theorem dX_load_41 : decode bX_load 41 = .ok (.iconst (-1), 1) := by decide +kernel
theorem dX_load_42 : decode bX_load 42 = .ok (.ireturn, 1) := by decide +kernel
theorem dX_load_43 : decode bX_load 43 = .ok (.aload_n 0, 1) := by decide +kernel
theorem dX_load_44 : decode bX_load 44 = .ok (.getfield 19, 3) := by decide +kernel
theorem dX_load_47 : decode bX_load 47 = .ok (.iload_n 1, 1) := by decide +kernel
theorem dX_load_48 : decode bX_load 48 = .ok (.iload_n 2, 1) := by decide +kernel
theorem dX_load_49 : decode bX_load 49 = .ok (.invokevirtual 80, 3) := by decide +kernel
theorem dX_load_52 : decode bX_load 52 = .ok (.ireturn, 1) := by decide +kernel
theorem dO_add_0 : decode bO_add 0 = .ok (.aload_n 0, 1) := by decide +kernel
theorem dO_add_1 : decode bO_add 1 = .ok (.getfield 9, 3) := by decide +kernel
theorem dO_add_4 : decode bO_add 4 = .ok (.aload_n 0, 1) := by decide +kernel
theorem dO_add_5 : decode bO_add 5 = .ok (.getfield 18, 3) := by decide +kernel
theorem dO_add_8 : decode bO_add 8 = .ok (.iload_n 1, 1) := by decide +kernel
theorem dO_add_9 : decode bO_add 9 = .ok (.iastore, 1) := by decide +kernel
theorem dO_add_10 : decode bO_add 10 = .ok (.aload_n 0, 1) := by decide +kernel
theorem dO_add_11 : decode bO_add 11 = .ok (.getfield 15, 3) := by decide +kernel
theorem dO_add_14 : decode bO_add 14 = .ok (.aload_n 0, 1) := by decide +kernel
theorem dO_add_15 : decode bO_add 15 = .ok (.getfield 18, 3) := by decide +kernel
theorem dO_add_18 : decode bO_add 18 = .ok (.iload_n 2, 1) := by decide +kernel
theorem dO_add_19 : decode bO_add 19 = .ok (.iastore, 1) := by decide +kernel
theorem dO_add_20 : decode bO_add 20 = .ok (.aload_n 0, 1) := by decide +kernel
theorem dO_add_21 : decode bO_add 21 = .ok (.dup, 1) := by decide +kernel
theorem dO_add_22 : decode bO_add 22 = .ok (.getfield 22, 3) := by decide +kernel
theorem dO_add_25 : decode bO_add 25 = .ok (.iload_n 2, 1) := by decide +kernel
theorem dO_add_26 : decode bO_add 26 = .ok (.i2l, 1) := by decide +kernel
theorem dO_add_27 : decode bO_add 27 = .ok (.ladd, 1) := by decide +kernel
theorem dO_add_28 : decode bO_add 28 = .ok (.putfield 22, 3) := by decide +kernel
theorem dO_add_31 : decode bO_add 31 = .ok (.aload_n 0, 1) := by decide +kernel
theorem dO_add_32 : decode bO_add 32 = .ok (.dup, 1) := by decide +kernel
theorem dO_add_33 : decode bO_add 33 = .ok (.getfield 18, 3) := by decide +kernel
theorem dO_add_36 : decode bO_add 36 = .ok (.iconst 1, 1) := by decide +kernel
theorem dO_add_37 : decode bO_add 37 = .ok (.iadd, 1) := by decide +kernel
theorem dO_add_38 : decode bO_add 38 = .ok (.putfield 18, 3) := by decide +kernel
theorem dO_add_41 : decode bO_add 41 = .ok (.aload_n 0, 1) := by decide +kernel
theorem dO_add_42 : decode bO_add 42 = .ok (.getfield 18, 3) := by decide +kernel
theorem dO_add_45 : decode bO_add 45 = .ok (.ireturn, 1) := by decide +kernel
theorem dX_run_0 : decode bX_run 0 = .ok (.aload_n 0, 1) := by decide +kernel
theorem dX_run_1 : decode bX_run 1 = .ok (.getfield 10, 3) := by decide +kernel
theorem dX_run_4 : decode bX_run 4 = .ok (.getfield 57, 3) := by decide +kernel
theorem dX_run_7 : decode bX_run 7 = .ok (.ifCond .eq 28, 3) := by decide +kernel
theorem dX_run_10 : decode bX_run 10 = .ok (.iload_n 1, 1) := by decide +kernel
theorem dX_run_11 : decode bX_run 11 = .ok (.iconst 1, 1) := by decide +kernel
theorem dX_run_12 : decode bX_run 12 = .ok (.bipush 60, 2) := by decide +kernel
theorem dX_run_14 : decode bX_run 14 = .ok (.invokestatic 53, 3) := by decide +kernel
theorem dX_run_17 : decode bX_run 17 = .ok (.ifCond .eq 18, 3) := by decide +kernel
theorem dX_run_20 : decode bX_run 20 = .ok (.iload_n 1, 1) := by decide +kernel
theorem dX_run_21 : decode bX_run 21 = .ok (.sipush 400, 3) := by decide +kernel
theorem dX_run_24 : decode bX_run 24 = .ok (.aload_n 0, 1) := by decide +kernel
theorem dX_run_25 : decode bX_run 25 = .ok (.getfield 35, 3) := by decide +kernel
theorem dX_run_28 : decode bX_run 28 = .ok (.getfield 46, 3) := by decide +kernel
theorem dX_run_31 : decode bX_run 31 = .ok (.isub, 1) := by decide +kernel
theorem dX_run_32 : decode bX_run 32 = .ok (.if_icmp .le 5, 3) := by decide +kernel
theorem dX_run_35 : decode bX_run 35 = .ok (.iconst (-1), 1) := by decide +kernel
theorem dX_run_36 : decode bX_run 36 = .ok (.ireturn, 1) := by decide +kernel
theorem dX_run_37 : decode bX_run 37 = .ok (.iconst 0, 1) := by decide +kernel
theorem dX_run_38 : decode bX_run 38 = .ok (.istore_n 2, 1) := by decide +kernel
theorem dX_run_39 : decode bX_run 39 = .ok (.iload_n 2, 1) := by decide +kernel
theorem dX_run_40 : decode bX_run 40 = .ok (.iload_n 1, 1) := by decide +kernel
theorem dX_run_41 : decode bX_run 41 = .ok (.if_icmp .ge 39, 3) := by decide +kernel
theorem dX_run_44 : decode bX_run 44 = .ok (.aload_n 0, 1) := by decide +kernel
theorem dX_run_45 : decode bX_run 45 = .ok (.getfield 35, 3) := by decide +kernel
theorem dX_run_48 : decode bX_run 48 = .ok (.invokevirtual 84, 3) := by decide +kernel
theorem dX_run_51 : decode bX_run 51 = .ok (.aload_n 0, 1) := by decide +kernel
theorem dX_run_52 : decode bX_run 52 = .ok (.getfield 42, 3) := by decide +kernel
theorem dX_run_55 : decode bX_run 55 = .ok (.aload_n 0, 1) := by decide +kernel
theorem dX_run_56 : decode bX_run 56 = .ok (.getfield 35, 3) := by decide +kernel
theorem dX_run_59 : decode bX_run 59 = .ok (.getfield 46, 3) := by decide +kernel
theorem dX_run_62 : decode bX_run 62 = .ok (.aload_n 0, 1) := by decide +kernel
theorem dX_run_63 : decode bX_run 63 = .ok (.getfield 35, 3) := by decide +kernel
theorem dX_run_66 : decode bX_run 66 = .ok (.invokevirtual 87, 3) := by decide +kernel
theorem dX_run_69 : decode bX_run 69 = .ok (.ldc2_w 91, 3) := by decide +kernel
theorem dX_run_72 : decode bX_run 72 = .ok (.ldiv, 1) := by decide +kernel
theorem dX_run_73 : decode bX_run 73 = .ok (.lastore, 1) := by decide +kernel
theorem dX_run_74 : decode bX_run 74 = .ok (.iinc 2 1, 3) := by decide +kernel
theorem dX_run_77 : decode bX_run 77 = .ok (.goto (-38), 3) := by decide +kernel
theorem dX_run_80 : decode bX_run 80 = .ok (.aload_n 0, 1) := by decide +kernel
theorem dX_run_81 : decode bX_run 81 = .ok (.getfield 35, 3) := by decide +kernel
theorem dX_run_84 : decode bX_run 84 = .ok (.getfield 46, 3) := by decide +kernel
theorem dX_run_87 : decode bX_run 87 = .ok (.ireturn, 1) := by decide +kernel
theorem dG_passDay_0 : decode bG_passDay 0 = .ok (.aload_n 0, 1) := by decide +kernel
theorem dG_passDay_1 : decode bG_passDay 1 = .ok (.aload_n 0, 1) := by decide +kernel
theorem dG_passDay_2 : decode bG_passDay 2 = .ok (.getfield 22, 3) := by decide +kernel
theorem dG_passDay_5 : decode bG_passDay 5 = .ok (.aload_n 0, 1) := by decide +kernel
theorem dG_passDay_6 : decode bG_passDay 6 = .ok (.getfield 26, 3) := by decide +kernel
theorem dG_passDay_9 : decode bG_passDay 9 = .ok (.invokevirtual 42, 3) := by decide +kernel
theorem dG_passDay_12 : decode bG_passDay 12 = .ok (.invokevirtual 48, 3) := by decide +kernel
theorem dG_passDay_15 : decode bG_passDay 15 = .ok (.iconst 1, 1) := by decide +kernel
theorem dG_passDay_16 : decode bG_passDay 16 = .ok (.istore_n 1, 1) := by decide +kernel
theorem dG_passDay_17 : decode bG_passDay 17 = .ok (.iconst 0, 1) := by decide +kernel
theorem dG_passDay_18 : decode bG_passDay 18 = .ok (.istore_n 2, 1) := by decide +kernel
theorem dG_passDay_19 : decode bG_passDay 19 = .ok (.iload_n 2, 1) := by decide +kernel
theorem dG_passDay_20 : decode bG_passDay 20 = .ok (.bipush 24, 2) := by decide +kernel
theorem dG_passDay_22 : decode bG_passDay 22 = .ok (.if_icmp .ge 22, 3) := by decide +kernel
theorem dG_passDay_25 : decode bG_passDay 25 = .ok (.iload_n 1, 1) := by decide +kernel
theorem dG_passDay_26 : decode bG_passDay 26 = .ok (.ifCond .eq 18, 3) := by decide +kernel
theorem dG_passDay_29 : decode bG_passDay 29 = .ok (.aload_n 0, 1) := by decide +kernel
theorem dG_passDay_30 : decode bG_passDay 30 = .ok (.invokevirtual 52, 3) := by decide +kernel
theorem dG_passDay_33 : decode bG_passDay 33 = .ok (.istore_n 1, 1) := by decide +kernel
theorem dG_passDay_34 : decode bG_passDay 34 = .ok (.aload_n 0, 1) := by decide +kernel
theorem dG_passDay_35 : decode bG_passDay 35 = .ok (.invokevirtual 56, 3) := by decide +kernel
theorem dG_passDay_38 : decode bG_passDay 38 = .ok (.iinc 2 1, 3) := by decide +kernel
theorem dG_passDay_41 : decode bG_passDay 41 = .ok (.goto (-22), 3) := by decide +kernel
theorem dG_passDay_44 : decode bG_passDay 44 = .ok (.aload_n 0, 1) := by decide +kernel
theorem dG_passDay_45 : decode bG_passDay 45 = .ok (.dup, 1) := by decide +kernel
theorem dG_passDay_46 : decode bG_passDay 46 = .ok (.getfield 26, 3) := by decide +kernel
theorem dG_passDay_49 : decode bG_passDay 49 = .ok (.iconst 1, 1) := by decide +kernel
theorem dG_passDay_50 : decode bG_passDay 50 = .ok (.iadd, 1) := by decide +kernel
theorem dG_passDay_51 : decode bG_passDay 51 = .ok (.putfield 26, 3) := by decide +kernel
theorem dG_passDay_54 : decode bG_passDay 54 = .ok (.return_, 1) := by decide +kernel
theorem dO_comingOn_0 : decode bO_comingOn 0 = .ok (.lconst 0, 1) := by decide +kernel
theorem dO_comingOn_1 : decode bO_comingOn 1 = .ok (.lstore_n 2, 1) := by decide +kernel
theorem dO_comingOn_2 : decode bO_comingOn 2 = .ok (.iconst 0, 1) := by decide +kernel
theorem dO_comingOn_3 : decode bO_comingOn 3 = .ok (.istore 4, 2) := by decide +kernel
theorem dO_comingOn_5 : decode bO_comingOn 5 = .ok (.iload 4, 2) := by decide +kernel
theorem dO_comingOn_7 : decode bO_comingOn 7 = .ok (.aload_n 0, 1) := by decide +kernel
theorem dO_comingOn_8 : decode bO_comingOn 8 = .ok (.getfield 18, 3) := by decide +kernel
theorem dO_comingOn_11 : decode bO_comingOn 11 = .ok (.if_icmp .ge 31, 3) := by decide +kernel
theorem dO_comingOn_14 : decode bO_comingOn 14 = .ok (.aload_n 0, 1) := by decide +kernel
theorem dO_comingOn_15 : decode bO_comingOn 15 = .ok (.getfield 9, 3) := by decide +kernel
theorem dO_comingOn_18 : decode bO_comingOn 18 = .ok (.iload 4, 2) := by decide +kernel
theorem dO_comingOn_20 : decode bO_comingOn 20 = .ok (.iaload, 1) := by decide +kernel
theorem dO_comingOn_21 : decode bO_comingOn 21 = .ok (.iload_n 1, 1) := by decide +kernel
theorem dO_comingOn_22 : decode bO_comingOn 22 = .ok (.if_icmp .ne 14, 3) := by decide +kernel
theorem dO_comingOn_25 : decode bO_comingOn 25 = .ok (.lload_n 2, 1) := by decide +kernel
theorem dO_comingOn_26 : decode bO_comingOn 26 = .ok (.aload_n 0, 1) := by decide +kernel
theorem dO_comingOn_27 : decode bO_comingOn 27 = .ok (.getfield 15, 3) := by decide +kernel
theorem dO_comingOn_30 : decode bO_comingOn 30 = .ok (.iload 4, 2) := by decide +kernel
theorem dO_comingOn_32 : decode bO_comingOn 32 = .ok (.iaload, 1) := by decide +kernel
theorem dO_comingOn_33 : decode bO_comingOn 33 = .ok (.i2l, 1) := by decide +kernel
theorem dO_comingOn_34 : decode bO_comingOn 34 = .ok (.ladd, 1) := by decide +kernel
theorem dO_comingOn_35 : decode bO_comingOn 35 = .ok (.lstore_n 2, 1) := by decide +kernel
theorem dO_comingOn_36 : decode bO_comingOn 36 = .ok (.iinc 4 1, 3) := by decide +kernel
theorem dO_comingOn_39 : decode bO_comingOn 39 = .ok (.goto (-34), 3) := by decide +kernel
theorem dO_comingOn_42 : decode bO_comingOn 42 = .ok (.lload_n 2, 1) := by decide +kernel
theorem dO_comingOn_43 : decode bO_comingOn 43 = .ok (.lreturn, 1) := by decide +kernel
theorem dG_lay_0 : decode bG_lay 0 = .ok (.iconst 0, 1) := by decide +kernel
theorem dG_lay_1 : decode bG_lay 1 = .ok (.istore_n 3, 1) := by decide +kernel
theorem dG_lay_2 : decode bG_lay 2 = .ok (.iload_n 3, 1) := by decide +kernel
theorem dG_lay_3 : decode bG_lay 3 = .ok (.aload_n 0, 1) := by decide +kernel
theorem dG_lay_4 : decode bG_lay 4 = .ok (.getfield 18, 3) := by decide +kernel
theorem dG_lay_7 : decode bG_lay 7 = .ok (.getfield 37, 3) := by decide +kernel
theorem dG_lay_10 : decode bG_lay 10 = .ok (.if_icmp .ge 19, 3) := by decide +kernel
theorem dG_lay_13 : decode bG_lay 13 = .ok (.aload_n 0, 1) := by decide +kernel
theorem dG_lay_14 : decode bG_lay 14 = .ok (.getfield 9, 3) := by decide +kernel
theorem dG_lay_17 : decode bG_lay 17 = .ok (.iload_n 3, 1) := by decide +kernel
theorem dG_lay_18 : decode bG_lay 18 = .ok (.dup2, 1) := by decide +kernel
theorem dG_lay_19 : decode bG_lay 19 = .ok (.laload, 1) := by decide +kernel
theorem dG_lay_20 : decode bG_lay 20 = .ok (.lload_n 1, 1) := by decide +kernel
theorem dG_lay_21 : decode bG_lay 21 = .ok (.ladd, 1) := by decide +kernel
theorem dG_lay_22 : decode bG_lay 22 = .ok (.lastore, 1) := by decide +kernel
theorem dG_lay_23 : decode bG_lay 23 = .ok (.iinc 3 1, 3) := by decide +kernel
theorem dG_lay_26 : decode bG_lay 26 = .ok (.goto (-24), 3) := by decide +kernel
theorem dG_lay_29 : decode bG_lay 29 = .ok (.aload_n 0, 1) := by decide +kernel
theorem dG_lay_30 : decode bG_lay 30 = .ok (.dup, 1) := by decide +kernel
theorem dG_lay_31 : decode bG_lay 31 = .ok (.getfield 30, 3) := by decide +kernel
theorem dG_lay_34 : decode bG_lay 34 = .ok (.lload_n 1, 1) := by decide +kernel
theorem dG_lay_35 : decode bG_lay 35 = .ok (.ladd, 1) := by decide +kernel
theorem dG_lay_36 : decode bG_lay 36 = .ok (.putfield 30, 3) := by decide +kernel
theorem dG_lay_39 : decode bG_lay 39 = .ok (.return_, 1) := by decide +kernel
theorem dG_moveWater_0 : decode bG_moveWater 0 = .ok (.iconst 0, 1) := by decide +kernel
theorem dG_moveWater_1 : decode bG_moveWater 1 = .ok (.istore_n 1, 1) := by decide +kernel
theorem dG_moveWater_2 : decode bG_moveWater 2 = .ok (.aload_n 0, 1) := by decide +kernel
theorem dG_moveWater_3 : decode bG_moveWater 3 = .ok (.invokevirtual 59, 3) := by decide +kernel
theorem dG_moveWater_6 : decode bG_moveWater 6 = .ok (.lneg, 1) := by decide +kernel
theorem dG_moveWater_7 : decode bG_moveWater 7 = .ok (.lstore_n 2, 1) := by decide +kernel
theorem dG_moveWater_8 : decode bG_moveWater 8 = .ok (.aload_n 0, 1) := by decide +kernel
theorem dG_moveWater_9 : decode bG_moveWater 9 = .ok (.dup, 1) := by decide +kernel
theorem dG_moveWater_10 : decode bG_moveWater 10 = .ok (.getfield 34, 3) := by decide +kernel
theorem dG_moveWater_13 : decode bG_moveWater 13 = .ok (.lload_n 2, 1) := by decide +kernel
theorem dG_moveWater_14 : decode bG_moveWater 14 = .ok (.lsub, 1) := by decide +kernel
theorem dG_moveWater_15 : decode bG_moveWater 15 = .ok (.putfield 34, 3) := by decide +kernel
theorem dG_moveWater_18 : decode bG_moveWater 18 = .ok (.iconst 0, 1) := by decide +kernel
theorem dG_moveWater_19 : decode bG_moveWater 19 = .ok (.istore 4, 2) := by decide +kernel
theorem dG_moveWater_21 : decode bG_moveWater 21 = .ok (.iload 4, 2) := by decide +kernel
theorem dG_moveWater_23 : decode bG_moveWater 23 = .ok (.aload_n 0, 1) := by decide +kernel
theorem dG_moveWater_24 : decode bG_moveWater 24 = .ok (.getfield 18, 3) := by decide +kernel
theorem dG_moveWater_27 : decode bG_moveWater 27 = .ok (.getfield 37, 3) := by decide +kernel
theorem dG_moveWater_30 : decode bG_moveWater 30 = .ok (.if_icmp .ge 100, 3) := by decide +kernel
theorem dG_moveWater_33 : decode bG_moveWater 33 = .ok (.aload_n 0, 1) := by decide +kernel
theorem dG_moveWater_34 : decode bG_moveWater 34 = .ok (.iload 4, 2) := by decide +kernel
theorem dG_moveWater_36 : decode bG_moveWater 36 = .ok (.invokevirtual 63, 3) := by decide +kernel
theorem dG_moveWater_39 : decode bG_moveWater 39 = .ok (.lstore 5, 2) := by decide +kernel
theorem dG_moveWater_41 : decode bG_moveWater 41 = .ok (.aload_n 0, 1) := by decide +kernel
theorem dG_moveWater_42 : decode bG_moveWater 42 = .ok (.getfield 9, 3) := by decide +kernel
theorem dG_moveWater_45 : decode bG_moveWater 45 = .ok (.iload 4, 2) := by decide +kernel
theorem dG_moveWater_47 : decode bG_moveWater 47 = .ok (.laload, 1) := by decide +kernel
theorem dG_moveWater_48 : decode bG_moveWater 48 = .ok (.aload_n 0, 1) := by decide +kernel
theorem dG_moveWater_49 : decode bG_moveWater 49 = .ok (.getfield 18, 3) := by decide +kernel
theorem dG_moveWater_52 : decode bG_moveWater 52 = .ok (.getfield 66, 3) := by decide +kernel
theorem dG_moveWater_55 : decode bG_moveWater 55 = .ok (.i2l, 1) := by decide +kernel
theorem dG_moveWater_56 : decode bG_moveWater 56 = .ok (.lmul, 1) := by decide +kernel
theorem dG_moveWater_57 : decode bG_moveWater 57 = .ok (.ldc2_w 69, 3) := by decide +kernel
theorem dG_moveWater_60 : decode bG_moveWater 60 = .ok (.ldiv, 1) := by decide +kernel
theorem dG_moveWater_61 : decode bG_moveWater 61 = .ok (.lstore 7, 2) := by decide +kernel
theorem dG_moveWater_63 : decode bG_moveWater 63 = .ok (.iload_n 1, 1) := by decide +kernel
theorem dG_moveWater_64 : decode bG_moveWater 64 = .ok (.ifCond .ne 23, 3) := by decide +kernel
theorem dG_moveWater_67 : decode bG_moveWater 67 = .ok (.lload_n 2, 1) := by decide +kernel
theorem dG_moveWater_68 : decode bG_moveWater 68 = .ok (.lconst 0, 1) := by decide +kernel
theorem dG_moveWater_69 : decode bG_moveWater 69 = .ok (.lcmp, 1) := by decide +kernel
theorem dG_moveWater_70 : decode bG_moveWater 70 = .ok (.ifCond .ne 17, 3) := by decide +kernel
theorem dG_moveWater_73 : decode bG_moveWater 73 = .ok (.lload 5, 2) := by decide +kernel
theorem dG_moveWater_75 : decode bG_moveWater 75 = .ok (.lconst 0, 1) := by decide +kernel
theorem dG_moveWater_76 : decode bG_moveWater 76 = .ok (.lcmp, 1) := by decide +kernel
theorem dG_moveWater_77 : decode bG_moveWater 77 = .ok (.ifCond .ne 10, 3) := by decide +kernel
theorem dG_moveWater_80 : decode bG_moveWater 80 = .ok (.lload 7, 2) := by decide +kernel
theorem dG_moveWater_82 : decode bG_moveWater 82 = .ok (.lconst 0, 1) := by decide +kernel
theorem dG_moveWater_83 : decode bG_moveWater 83 = .ok (.lcmp, 1) := by decide +kernel
theorem dG_moveWater_84 : decode bG_moveWater 84 = .ok (.ifCond .eq 7, 3) := by decide +kernel
theorem dG_moveWater_87 : decode bG_moveWater 87 = .ok (.iconst 1, 1) := by decide +kernel
theorem dG_moveWater_88 : decode bG_moveWater 88 = .ok (.goto 4, 3) := by decide +kernel
theorem dG_moveWater_91 : decode bG_moveWater 91 = .ok (.iconst 0, 1) := by decide +kernel
theorem dG_moveWater_92 : decode bG_moveWater 92 = .ok (.istore_n 1, 1) := by decide +kernel
theorem dG_moveWater_93 : decode bG_moveWater 93 = .ok (.aload_n 0, 1) := by decide +kernel
theorem dG_moveWater_94 : decode bG_moveWater 94 = .ok (.getfield 9, 3) := by decide +kernel
theorem dG_moveWater_97 : decode bG_moveWater 97 = .ok (.iload 4, 2) := by decide +kernel
theorem dG_moveWater_99 : decode bG_moveWater 99 = .ok (.dup2, 1) := by decide +kernel
theorem dG_moveWater_100 : decode bG_moveWater 100 = .ok (.laload, 1) := by decide +kernel
theorem dG_moveWater_101 : decode bG_moveWater 101 = .ok (.lload_n 2, 1) := by decide +kernel
theorem dG_moveWater_102 : decode bG_moveWater 102 = .ok (.lload 5, 2) := by decide +kernel
theorem dG_moveWater_104 : decode bG_moveWater 104 = .ok (.lsub, 1) := by decide +kernel
theorem dG_moveWater_105 : decode bG_moveWater 105 = .ok (.lload 7, 2) := by decide +kernel
theorem dG_moveWater_107 : decode bG_moveWater 107 = .ok (.lsub, 1) := by decide +kernel
theorem dG_moveWater_108 : decode bG_moveWater 108 = .ok (.ladd, 1) := by decide +kernel
theorem dG_moveWater_109 : decode bG_moveWater 109 = .ok (.lastore, 1) := by decide +kernel
theorem dG_moveWater_110 : decode bG_moveWater 110 = .ok (.aload_n 0, 1) := by decide +kernel
theorem dG_moveWater_111 : decode bG_moveWater 111 = .ok (.dup, 1) := by decide +kernel
theorem dG_moveWater_112 : decode bG_moveWater 112 = .ok (.getfield 34, 3) := by decide +kernel
theorem dG_moveWater_115 : decode bG_moveWater 115 = .ok (.lload 7, 2) := by decide +kernel
theorem dG_moveWater_117 : decode bG_moveWater 117 = .ok (.ladd, 1) := by decide +kernel
theorem dG_moveWater_118 : decode bG_moveWater 118 = .ok (.putfield 34, 3) := by decide +kernel
theorem dG_moveWater_121 : decode bG_moveWater 121 = .ok (.lload 5, 2) := by decide +kernel
theorem dG_moveWater_123 : decode bG_moveWater 123 = .ok (.lstore_n 2, 1) := by decide +kernel
theorem dG_moveWater_124 : decode bG_moveWater 124 = .ok (.iinc 4 1, 3) := by decide +kernel
theorem dG_moveWater_127 : decode bG_moveWater 127 = .ok (.goto (-106), 3) := by decide +kernel
theorem dG_moveWater_130 : decode bG_moveWater 130 = .ok (.aload_n 0, 1) := by decide +kernel
theorem dG_moveWater_131 : decode bG_moveWater 131 = .ok (.dup, 1) := by decide +kernel
theorem dG_moveWater_132 : decode bG_moveWater 132 = .ok (.getfield 34, 3) := by decide +kernel
theorem dG_moveWater_135 : decode bG_moveWater 135 = .ok (.lload_n 2, 1) := by decide +kernel
theorem dG_moveWater_136 : decode bG_moveWater 136 = .ok (.ladd, 1) := by decide +kernel
theorem dG_moveWater_137 : decode bG_moveWater 137 = .ok (.putfield 34, 3) := by decide +kernel
theorem dG_moveWater_140 : decode bG_moveWater 140 = .ok (.iload_n 1, 1) := by decide +kernel
theorem dG_moveWater_141 : decode bG_moveWater 141 = .ok (.ireturn, 1) := by decide +kernel
theorem dG_leavingAbove_0 : decode bG_leavingAbove 0 = .ok (.aload_n 0, 1) := by decide +kernel
theorem dG_leavingAbove_1 : decode bG_leavingAbove 1 = .ok (.getfield 18, 3) := by decide +kernel
theorem dG_leavingAbove_4 : decode bG_leavingAbove 4 = .ok (.getfield 71, 3) := by decide +kernel
theorem dG_leavingAbove_7 : decode bG_leavingAbove 7 = .ok (.ifCond .eq 27, 3) := by decide +kernel
theorem dG_leavingAbove_10 : decode bG_leavingAbove 10 = .ok (.aload_n 0, 1) := by decide +kernel
theorem dG_leavingAbove_11 : decode bG_leavingAbove 11 = .ok (.getfield 9, 3) := by decide +kernel
theorem dG_leavingAbove_14 : decode bG_leavingAbove 14 = .ok (.iconst 0, 1) := by decide +kernel
theorem dG_leavingAbove_15 : decode bG_leavingAbove 15 = .ok (.laload, 1) := by decide +kernel
theorem dG_leavingAbove_16 : decode bG_leavingAbove 16 = .ok (.aload_n 0, 1) := by decide +kernel
theorem dG_leavingAbove_17 : decode bG_leavingAbove 17 = .ok (.getfield 18, 3) := by decide +kernel
theorem dG_leavingAbove_20 : decode bG_leavingAbove 20 = .ok (.getfield 75, 3) := by decide +kernel
theorem dG_leavingAbove_23 : decode bG_leavingAbove 23 = .ok (.iconst 0, 1) := by decide +kernel
theorem dG_leavingAbove_24 : decode bG_leavingAbove 24 = .ok (.iaload, 1) := by decide +kernel
theorem dG_leavingAbove_25 : decode bG_leavingAbove 25 = .ok (.i2l, 1) := by decide +kernel
theorem dG_leavingAbove_26 : decode bG_leavingAbove 26 = .ok (.lmul, 1) := by decide +kernel
theorem dG_leavingAbove_27 : decode bG_leavingAbove 27 = .ok (.ldc2_w 69, 3) := by decide +kernel
theorem dG_leavingAbove_30 : decode bG_leavingAbove 30 = .ok (.ldiv, 1) := by decide +kernel
theorem dG_leavingAbove_31 : decode bG_leavingAbove 31 = .ok (.goto 4, 3) := by decide +kernel
theorem dG_leavingAbove_34 : decode bG_leavingAbove 34 = .ok (.lconst 0, 1) := by decide +kernel
theorem dG_leavingAbove_35 : decode bG_leavingAbove 35 = .ok (.lreturn, 1) := by decide +kernel
theorem dG_goingBelow_0 : decode bG_goingBelow 0 = .ok (.iload_n 1, 1) := by decide +kernel
theorem dG_goingBelow_1 : decode bG_goingBelow 1 = .ok (.iconst 1, 1) := by decide +kernel
theorem dG_goingBelow_2 : decode bG_goingBelow 2 = .ok (.iadd, 1) := by decide +kernel
theorem dG_goingBelow_3 : decode bG_goingBelow 3 = .ok (.aload_n 0, 1) := by decide +kernel
theorem dG_goingBelow_4 : decode bG_goingBelow 4 = .ok (.getfield 18, 3) := by decide +kernel
theorem dG_goingBelow_7 : decode bG_goingBelow 7 = .ok (.getfield 37, 3) := by decide +kernel
theorem dG_goingBelow_10 : decode bG_goingBelow 10 = .ok (.if_icmp .ge 34, 3) := by decide +kernel
theorem dG_goingBelow_13 : decode bG_goingBelow 13 = .ok (.aload_n 0, 1) := by decide +kernel
theorem dG_goingBelow_14 : decode bG_goingBelow 14 = .ok (.getfield 9, 3) := by decide +kernel
theorem dG_goingBelow_17 : decode bG_goingBelow 17 = .ok (.iload_n 1, 1) := by decide +kernel
theorem dG_goingBelow_18 : decode bG_goingBelow 18 = .ok (.laload, 1) := by decide +kernel
theorem dG_goingBelow_19 : decode bG_goingBelow 19 = .ok (.aload_n 0, 1) := by decide +kernel
theorem dG_goingBelow_20 : decode bG_goingBelow 20 = .ok (.getfield 9, 3) := by decide +kernel
theorem dG_goingBelow_23 : decode bG_goingBelow 23 = .ok (.iload_n 1, 1) := by decide +kernel
theorem dG_goingBelow_24 : decode bG_goingBelow 24 = .ok (.iconst 1, 1) := by decide +kernel
theorem dG_goingBelow_25 : decode bG_goingBelow 25 = .ok (.iadd, 1) := by decide +kernel
theorem dG_goingBelow_26 : decode bG_goingBelow 26 = .ok (.laload, 1) := by decide +kernel
theorem dG_goingBelow_27 : decode bG_goingBelow 27 = .ok (.lsub, 1) := by decide +kernel
theorem dG_goingBelow_28 : decode bG_goingBelow 28 = .ok (.aload_n 0, 1) := by decide +kernel
theorem dG_goingBelow_29 : decode bG_goingBelow 29 = .ok (.getfield 18, 3) := by decide +kernel
theorem dG_goingBelow_32 : decode bG_goingBelow 32 = .ok (.getfield 79, 3) := by decide +kernel
theorem dG_goingBelow_35 : decode bG_goingBelow 35 = .ok (.iload_n 1, 1) := by decide +kernel
theorem dG_goingBelow_36 : decode bG_goingBelow 36 = .ok (.iaload, 1) := by decide +kernel
theorem dG_goingBelow_37 : decode bG_goingBelow 37 = .ok (.i2l, 1) := by decide +kernel
theorem dG_goingBelow_38 : decode bG_goingBelow 38 = .ok (.lmul, 1) := by decide +kernel
theorem dG_goingBelow_39 : decode bG_goingBelow 39 = .ok (.ldc2_w 69, 3) := by decide +kernel
theorem dG_goingBelow_42 : decode bG_goingBelow 42 = .ok (.ldiv, 1) := by decide +kernel
theorem dG_goingBelow_43 : decode bG_goingBelow 43 = .ok (.lreturn, 1) := by decide +kernel
theorem dG_goingBelow_44 : decode bG_goingBelow 44 = .ok (.aload_n 0, 1) := by decide +kernel
theorem dG_goingBelow_45 : decode bG_goingBelow 45 = .ok (.getfield 18, 3) := by decide +kernel
theorem dG_goingBelow_48 : decode bG_goingBelow 48 = .ok (.getfield 82, 3) := by decide +kernel
theorem dG_goingBelow_51 : decode bG_goingBelow 51 = .ok (.ifCond .eq 27, 3) := by decide +kernel
theorem dG_goingBelow_54 : decode bG_goingBelow 54 = .ok (.aload_n 0, 1) := by decide +kernel
theorem dG_goingBelow_55 : decode bG_goingBelow 55 = .ok (.getfield 9, 3) := by decide +kernel
theorem dG_goingBelow_58 : decode bG_goingBelow 58 = .ok (.iload_n 1, 1) := by decide +kernel
theorem dG_goingBelow_59 : decode bG_goingBelow 59 = .ok (.laload, 1) := by decide +kernel
theorem dG_goingBelow_60 : decode bG_goingBelow 60 = .ok (.aload_n 0, 1) := by decide +kernel
theorem dG_goingBelow_61 : decode bG_goingBelow 61 = .ok (.getfield 18, 3) := by decide +kernel
theorem dG_goingBelow_64 : decode bG_goingBelow 64 = .ok (.getfield 75, 3) := by decide +kernel
theorem dG_goingBelow_67 : decode bG_goingBelow 67 = .ok (.iload_n 1, 1) := by decide +kernel
theorem dG_goingBelow_68 : decode bG_goingBelow 68 = .ok (.iaload, 1) := by decide +kernel
theorem dG_goingBelow_69 : decode bG_goingBelow 69 = .ok (.i2l, 1) := by decide +kernel
theorem dG_goingBelow_70 : decode bG_goingBelow 70 = .ok (.lmul, 1) := by decide +kernel
theorem dG_goingBelow_71 : decode bG_goingBelow 71 = .ok (.ldc2_w 69, 3) := by decide +kernel
theorem dG_goingBelow_74 : decode bG_goingBelow 74 = .ok (.ldiv, 1) := by decide +kernel
theorem dG_goingBelow_75 : decode bG_goingBelow 75 = .ok (.goto 4, 3) := by decide +kernel
theorem dG_goingBelow_78 : decode bG_goingBelow 78 = .ok (.lconst 0, 1) := by decide +kernel
theorem dG_goingBelow_79 : decode bG_goingBelow 79 = .ok (.lreturn, 1) := by decide +kernel
theorem dG_raisePasts_0 : decode bG_raisePasts 0 = .ok (.iconst 0, 1) := by decide +kernel
theorem dG_raisePasts_1 : decode bG_raisePasts 1 = .ok (.istore_n 1, 1) := by decide +kernel
theorem dG_raisePasts_2 : decode bG_raisePasts 2 = .ok (.iload_n 1, 1) := by decide +kernel
theorem dG_raisePasts_3 : decode bG_raisePasts 3 = .ok (.aload_n 0, 1) := by decide +kernel
theorem dG_raisePasts_4 : decode bG_raisePasts 4 = .ok (.getfield 18, 3) := by decide +kernel
theorem dG_raisePasts_7 : decode bG_raisePasts 7 = .ok (.getfield 37, 3) := by decide +kernel
theorem dG_raisePasts_10 : decode bG_raisePasts 10 = .ok (.if_icmp .ge 29, 3) := by decide +kernel
theorem dG_raisePasts_13 : decode bG_raisePasts 13 = .ok (.aload_n 0, 1) := by decide +kernel
theorem dG_raisePasts_14 : decode bG_raisePasts 14 = .ok (.getfield 15, 3) := by decide +kernel
theorem dG_raisePasts_17 : decode bG_raisePasts 17 = .ok (.iload_n 1, 1) := by decide +kernel
theorem dG_raisePasts_18 : decode bG_raisePasts 18 = .ok (.aload_n 0, 1) := by decide +kernel
theorem dG_raisePasts_19 : decode bG_raisePasts 19 = .ok (.getfield 15, 3) := by decide +kernel
theorem dG_raisePasts_22 : decode bG_raisePasts 22 = .ok (.iload_n 1, 1) := by decide +kernel
theorem dG_raisePasts_23 : decode bG_raisePasts 23 = .ok (.laload, 1) := by decide +kernel
theorem dG_raisePasts_24 : decode bG_raisePasts 24 = .ok (.aload_n 0, 1) := by decide +kernel
theorem dG_raisePasts_25 : decode bG_raisePasts 25 = .ok (.iload_n 1, 1) := by decide +kernel
theorem dG_raisePasts_26 : decode bG_raisePasts 26 = .ok (.invokevirtual 85, 3) := by decide +kernel
theorem dG_raisePasts_29 : decode bG_raisePasts 29 = .ok (.invokestatic 88, 3) := by decide +kernel
theorem dG_raisePasts_32 : decode bG_raisePasts 32 = .ok (.lastore, 1) := by decide +kernel
theorem dG_raisePasts_33 : decode bG_raisePasts 33 = .ok (.iinc 1 1, 3) := by decide +kernel
theorem dG_raisePasts_36 : decode bG_raisePasts 36 = .ok (.goto (-34), 3) := by decide +kernel
theorem dG_raisePasts_39 : decode bG_raisePasts 39 = .ok (.return_, 1) := by decide +kernel
theorem dG_carried_0 : decode bG_carried 0 = .ok (.aload_n 0, 1) := by decide +kernel
theorem dG_carried_1 : decode bG_carried 1 = .ok (.getfield 30, 3) := by decide +kernel
theorem dG_carried_4 : decode bG_carried 4 = .ok (.aload_n 0, 1) := by decide +kernel
theorem dG_carried_5 : decode bG_carried 5 = .ok (.getfield 9, 3) := by decide +kernel
theorem dG_carried_8 : decode bG_carried 8 = .ok (.iload_n 1, 1) := by decide +kernel
theorem dG_carried_9 : decode bG_carried 9 = .ok (.laload, 1) := by decide +kernel
theorem dG_carried_10 : decode bG_carried 10 = .ok (.lsub, 1) := by decide +kernel
theorem dG_carried_11 : decode bG_carried 11 = .ok (.lreturn, 1) := by decide +kernel
theorem dG_unitsSunk_0 : decode bG_unitsSunk 0 = .ok (.aload_n 0, 1) := by decide +kernel
theorem dG_unitsSunk_1 : decode bG_unitsSunk 1 = .ok (.iconst 0, 1) := by decide +kernel
theorem dG_unitsSunk_2 : decode bG_unitsSunk 2 = .ok (.aload_n 0, 1) := by decide +kernel
theorem dG_unitsSunk_3 : decode bG_unitsSunk 3 = .ok (.getfield 18, 3) := by decide +kernel
theorem dG_unitsSunk_6 : decode bG_unitsSunk 6 = .ok (.getfield 37, 3) := by decide +kernel
theorem dG_unitsSunk_9 : decode bG_unitsSunk 9 = .ok (.invokevirtual 94, 3) := by decide +kernel
theorem dG_unitsSunk_12 : decode bG_unitsSunk 12 = .ok (.lreturn, 1) := by decide +kernel
theorem dG_unitsSunk2_0 : decode bG_unitsSunk2 0 = .ok (.lconst 0, 1) := by decide +kernel
theorem dG_unitsSunk2_1 : decode bG_unitsSunk2 1 = .ok (.lstore_n 3, 1) := by decide +kernel
theorem dG_unitsSunk2_2 : decode bG_unitsSunk2 2 = .ok (.iload_n 1, 1) := by decide +kernel
theorem dG_unitsSunk2_3 : decode bG_unitsSunk2 3 = .ok (.istore 5, 2) := by decide +kernel
theorem dG_unitsSunk2_5 : decode bG_unitsSunk2 5 = .ok (.iload 5, 2) := by decide +kernel
theorem dG_unitsSunk2_7 : decode bG_unitsSunk2 7 = .ok (.iload_n 2, 1) := by decide +kernel
theorem dG_unitsSunk2_8 : decode bG_unitsSunk2 8 = .ok (.if_icmp .ge 34, 3) := by decide +kernel
theorem dG_unitsSunk2_11 : decode bG_unitsSunk2 11 = .ok (.lload_n 3, 1) := by decide +kernel
theorem dG_unitsSunk2_12 : decode bG_unitsSunk2 12 = .ok (.aload_n 0, 1) := by decide +kernel
theorem dG_unitsSunk2_13 : decode bG_unitsSunk2 13 = .ok (.getfield 18, 3) := by decide +kernel
theorem dG_unitsSunk2_16 : decode bG_unitsSunk2 16 = .ok (.iload 5, 2) := by decide +kernel
theorem dG_unitsSunk2_18 : decode bG_unitsSunk2 18 = .ok (.aload_n 0, 1) := by decide +kernel
theorem dG_unitsSunk2_19 : decode bG_unitsSunk2 19 = .ok (.iload 5, 2) := by decide +kernel
theorem dG_unitsSunk2_21 : decode bG_unitsSunk2 21 = .ok (.invokevirtual 85, 3) := by decide +kernel
theorem dG_unitsSunk2_24 : decode bG_unitsSunk2 24 = .ok (.aload_n 0, 1) := by decide +kernel
theorem dG_unitsSunk2_25 : decode bG_unitsSunk2 25 = .ok (.getfield 15, 3) := by decide +kernel
theorem dG_unitsSunk2_28 : decode bG_unitsSunk2 28 = .ok (.iload 5, 2) := by decide +kernel
theorem dG_unitsSunk2_30 : decode bG_unitsSunk2 30 = .ok (.laload, 1) := by decide +kernel
theorem dG_unitsSunk2_31 : decode bG_unitsSunk2 31 = .ok (.invokevirtual 98, 3) := by decide +kernel
theorem dG_unitsSunk2_34 : decode bG_unitsSunk2 34 = .ok (.ladd, 1) := by decide +kernel
theorem dG_unitsSunk2_35 : decode bG_unitsSunk2 35 = .ok (.lstore_n 3, 1) := by decide +kernel
theorem dG_unitsSunk2_36 : decode bG_unitsSunk2 36 = .ok (.iinc 5 1, 3) := by decide +kernel
theorem dG_unitsSunk2_39 : decode bG_unitsSunk2 39 = .ok (.goto (-34), 3) := by decide +kernel
theorem dG_unitsSunk2_42 : decode bG_unitsSunk2 42 = .ok (.lload_n 3, 1) := by decide +kernel
theorem dG_unitsSunk2_43 : decode bG_unitsSunk2 43 = .ok (.lreturn, 1) := by decide +kernel
theorem dS_unitsSunk_0 : decode bS_unitsSunk 0 = .ok (.aload_n 0, 1) := by decide +kernel
theorem dS_unitsSunk_1 : decode bS_unitsSunk 1 = .ok (.getfield 18, 3) := by decide +kernel
theorem dS_unitsSunk_4 : decode bS_unitsSunk 4 = .ok (.iload_n 1, 1) := by decide +kernel
theorem dS_unitsSunk_5 : decode bS_unitsSunk 5 = .ok (.iaload, 1) := by decide +kernel
theorem dS_unitsSunk_6 : decode bS_unitsSunk 6 = .ok (.i2l, 1) := by decide +kernel
theorem dS_unitsSunk_7 : decode bS_unitsSunk 7 = .ok (.lload_n 2, 1) := by decide +kernel
theorem dS_unitsSunk_8 : decode bS_unitsSunk 8 = .ok (.lmul, 1) := by decide +kernel
theorem dS_unitsSunk_9 : decode bS_unitsSunk 9 = .ok (.aload_n 0, 1) := by decide +kernel
theorem dS_unitsSunk_10 : decode bS_unitsSunk 10 = .ok (.getfield 21, 3) := by decide +kernel
theorem dS_unitsSunk_13 : decode bS_unitsSunk 13 = .ok (.iload_n 1, 1) := by decide +kernel
theorem dS_unitsSunk_14 : decode bS_unitsSunk 14 = .ok (.iaload, 1) := by decide +kernel
theorem dS_unitsSunk_15 : decode bS_unitsSunk 15 = .ok (.aload_n 0, 1) := by decide +kernel
theorem dS_unitsSunk_16 : decode bS_unitsSunk 16 = .ok (.getfield 18, 3) := by decide +kernel
theorem dS_unitsSunk_19 : decode bS_unitsSunk 19 = .ok (.iload_n 1, 1) := by decide +kernel
theorem dS_unitsSunk_20 : decode bS_unitsSunk 20 = .ok (.iaload, 1) := by decide +kernel
theorem dS_unitsSunk_21 : decode bS_unitsSunk 21 = .ok (.isub, 1) := by decide +kernel
theorem dS_unitsSunk_22 : decode bS_unitsSunk 22 = .ok (.i2l, 1) := by decide +kernel
theorem dS_unitsSunk_23 : decode bS_unitsSunk 23 = .ok (.lload 4, 2) := by decide +kernel
theorem dS_unitsSunk_25 : decode bS_unitsSunk 25 = .ok (.aload_n 0, 1) := by decide +kernel
theorem dS_unitsSunk_26 : decode bS_unitsSunk 26 = .ok (.getfield 24, 3) := by decide +kernel
theorem dS_unitsSunk_29 : decode bS_unitsSunk 29 = .ok (.iload_n 1, 1) := by decide +kernel
theorem dS_unitsSunk_30 : decode bS_unitsSunk 30 = .ok (.iaload, 1) := by decide +kernel
theorem dS_unitsSunk_31 : decode bS_unitsSunk 31 = .ok (.i2l, 1) := by decide +kernel
theorem dS_unitsSunk_32 : decode bS_unitsSunk 32 = .ok (.lsub, 1) := by decide +kernel
theorem dS_unitsSunk_33 : decode bS_unitsSunk 33 = .ok (.lmul, 1) := by decide +kernel
theorem dS_unitsSunk_34 : decode bS_unitsSunk 34 = .ok (.ladd, 1) := by decide +kernel
theorem dS_unitsSunk_35 : decode bS_unitsSunk 35 = .ok (.lreturn, 1) := by decide +kernel
theorem dX_sunk_0 : decode bX_sunk 0 = .ok (.iload_n 1, 1) := by decide +kernel
theorem dX_sunk_1 : decode bX_sunk 1 = .ok (.iconst (-1), 1) := by decide +kernel
theorem dX_sunk_2 : decode bX_sunk 2 = .ok (.if_icmp .ne 15, 3) := by decide +kernel
theorem dX_sunk_5 : decode bX_sunk 5 = .ok (.aload_n 0, 1) := by decide +kernel
theorem dX_sunk_6 : decode bX_sunk 6 = .ok (.getfield 35, 3) := by decide +kernel
theorem dX_sunk_9 : decode bX_sunk 9 = .ok (.invokevirtual 87, 3) := by decide +kernel
theorem dX_sunk_12 : decode bX_sunk 12 = .ok (.ldc2_w 91, 3) := by decide +kernel
theorem dX_sunk_15 : decode bX_sunk 15 = .ok (.ldiv, 1) := by decide +kernel
theorem dX_sunk_16 : decode bX_sunk 16 = .ok (.lreturn, 1) := by decide +kernel
theorem dX_sunk_17 : decode bX_sunk 17 = .ok (.iload_n 1, 1) := by decide +kernel
theorem dX_sunk_18 : decode bX_sunk 18 = .ok (.iconst 0, 1) := by decide +kernel
theorem dX_sunk_19 : decode bX_sunk 19 = .ok (.aload_n 0, 1) := by decide +kernel
theorem dX_sunk_20 : decode bX_sunk 20 = .ok (.getfield 10, 3) := by decide +kernel
theorem dX_sunk_23 : decode bX_sunk 23 = .ok (.getfield 93, 3) := by decide +kernel
theorem dX_sunk_26 : decode bX_sunk 26 = .ok (.iconst 1, 1) := by decide +kernel
theorem dX_sunk_27 : decode bX_sunk 27 = .ok (.isub, 1) := by decide +kernel
theorem dX_sunk_28 : decode bX_sunk 28 = .ok (.invokestatic 53, 3) := by decide +kernel
theorem dX_sunk_31 : decode bX_sunk 31 = .ok (.ifCond .ne 7, 3) := by decide +kernel
theorem dX_sunk_34 : decode bX_sunk 34 = .ok (.ldc2_w 96, 3) := by decide +kernel
theorem dX_sunk_37 : decode bX_sunk 37 = .ok (.lreturn, 1) := by decide +kernel
theorem dX_sunk_38 : decode bX_sunk 38 = .ok (.aload_n 0, 1) := by decide +kernel
theorem dX_sunk_39 : decode bX_sunk 39 = .ok (.getfield 35, 3) := by decide +kernel
theorem dX_sunk_42 : decode bX_sunk 42 = .ok (.aload_n 0, 1) := by decide +kernel
theorem dX_sunk_43 : decode bX_sunk 43 = .ok (.getfield 10, 3) := by decide +kernel
theorem dX_sunk_46 : decode bX_sunk 46 = .ok (.getfield 98, 3) := by decide +kernel
theorem dX_sunk_49 : decode bX_sunk 49 = .ok (.iload_n 1, 1) := by decide +kernel
theorem dX_sunk_50 : decode bX_sunk 50 = .ok (.iaload, 1) := by decide +kernel
theorem dX_sunk_51 : decode bX_sunk 51 = .ok (.aload_n 0, 1) := by decide +kernel
theorem dX_sunk_52 : decode bX_sunk 52 = .ok (.getfield 10, 3) := by decide +kernel
theorem dX_sunk_55 : decode bX_sunk 55 = .ok (.getfield 98, 3) := by decide +kernel
theorem dX_sunk_58 : decode bX_sunk 58 = .ok (.iload_n 1, 1) := by decide +kernel
theorem dX_sunk_59 : decode bX_sunk 59 = .ok (.iconst 1, 1) := by decide +kernel
theorem dX_sunk_60 : decode bX_sunk 60 = .ok (.iadd, 1) := by decide +kernel
theorem dX_sunk_61 : decode bX_sunk 61 = .ok (.iaload, 1) := by decide +kernel
theorem dX_sunk_62 : decode bX_sunk 62 = .ok (.invokevirtual 102, 3) := by decide +kernel
theorem dX_sunk_65 : decode bX_sunk 65 = .ok (.ldc2_w 91, 3) := by decide +kernel
theorem dX_sunk_68 : decode bX_sunk 68 = .ok (.ldiv, 1) := by decide +kernel
theorem dX_sunk_69 : decode bX_sunk 69 = .ok (.lreturn, 1) := by decide +kernel
theorem dX_told_0 : decode bX_told 0 = .ok (.iload_n 1, 1) := by decide +kernel
theorem dX_told_1 : decode bX_told 1 = .ok (.iconst 0, 1) := by decide +kernel
theorem dX_told_2 : decode bX_told 2 = .ok (.aload_n 0, 1) := by decide +kernel
theorem dX_told_3 : decode bX_told 3 = .ok (.getfield 10, 3) := by decide +kernel
theorem dX_told_6 : decode bX_told 6 = .ok (.getfield 57, 3) := by decide +kernel
theorem dX_told_9 : decode bX_told 9 = .ok (.iconst 1, 1) := by decide +kernel
theorem dX_told_10 : decode bX_told 10 = .ok (.isub, 1) := by decide +kernel
theorem dX_told_11 : decode bX_told 11 = .ok (.invokestatic 53, 3) := by decide +kernel
theorem dX_told_14 : decode bX_told 14 = .ok (.ifCond .ne 5, 3) := by decide +kernel
theorem dX_told_17 : decode bX_told 17 = .ok (.iconst (-1), 1) := by decide +kernel
theorem dX_told_18 : decode bX_told 18 = .ok (.ireturn, 1) := by decide +kernel
theorem dX_told_19 : decode bX_told 19 = .ok (.iload_n 2, 1) := by decide +kernel
theorem dX_told_20 : decode bX_told 20 = .ok (.tableswitch 60 0 2 #[28, 39, 49], 28) := by decide +kernel
theorem dX_told_48 : decode bX_told 48 = .ok (.aload_n 0, 1) := by decide +kernel
theorem dX_told_49 : decode bX_told 49 = .ok (.getfield 35, 3) := by decide +kernel
theorem dX_told_52 : decode bX_told 52 = .ok (.getfield 105, 3) := by decide +kernel
theorem dX_told_55 : decode bX_told 55 = .ok (.iload_n 1, 1) := by decide +kernel
theorem dX_told_56 : decode bX_told 56 = .ok (.laload, 1) := by decide +kernel
theorem dX_told_57 : decode bX_told 57 = .ok (.l2i, 1) := by decide +kernel
theorem dX_told_58 : decode bX_told 58 = .ok (.ireturn, 1) := by decide +kernel
theorem dX_told_59 : decode bX_told 59 = .ok (.aload_n 0, 1) := by decide +kernel
theorem dX_told_60 : decode bX_told 60 = .ok (.getfield 35, 3) := by decide +kernel
theorem dX_told_63 : decode bX_told 63 = .ok (.iload_n 1, 1) := by decide +kernel
theorem dX_told_64 : decode bX_told 64 = .ok (.invokevirtual 108, 3) := by decide +kernel
theorem dX_told_67 : decode bX_told 67 = .ok (.l2i, 1) := by decide +kernel
theorem dX_told_68 : decode bX_told 68 = .ok (.ireturn, 1) := by decide +kernel
theorem dX_told_69 : decode bX_told 69 = .ok (.aload_n 0, 1) := by decide +kernel
theorem dX_told_70 : decode bX_told 70 = .ok (.getfield 35, 3) := by decide +kernel
theorem dX_told_73 : decode bX_told 73 = .ok (.getfield 112, 3) := by decide +kernel
theorem dX_told_76 : decode bX_told 76 = .ok (.iload_n 1, 1) := by decide +kernel
theorem dX_told_77 : decode bX_told 77 = .ok (.laload, 1) := by decide +kernel
theorem dX_told_78 : decode bX_told 78 = .ok (.l2i, 1) := by decide +kernel
theorem dX_told_79 : decode bX_told 79 = .ok (.ireturn, 1) := by decide +kernel
theorem dX_told_80 : decode bX_told 80 = .ok (.iconst (-1), 1) := by decide +kernel
theorem dX_told_81 : decode bX_told 81 = .ok (.ireturn, 1) := by decide +kernel
theorem dX_out_0 : decode bX_out 0 = .ok (.aload_n 0, 1) := by decide +kernel
theorem dX_out_1 : decode bX_out 1 = .ok (.getfield 35, 3) := by decide +kernel
theorem dX_out_4 : decode bX_out 4 = .ok (.getfield 115, 3) := by decide +kernel
theorem dX_out_7 : decode bX_out 7 = .ok (.lreturn, 1) := by decide +kernel
theorem dX_balance_0 : decode bX_balance 0 = .ok (.aload_n 0, 1) := by decide +kernel
theorem dX_balance_1 : decode bX_balance 1 = .ok (.getfield 35, 3) := by decide +kernel
theorem dX_balance_4 : decode bX_balance 4 = .ok (.getfield 119, 3) := by decide +kernel
theorem dX_balance_7 : decode bX_balance 7 = .ok (.aload_n 0, 1) := by decide +kernel
theorem dX_balance_8 : decode bX_balance 8 = .ok (.getfield 10, 3) := by decide +kernel
theorem dX_balance_11 : decode bX_balance 11 = .ok (.getfield 57, 3) := by decide +kernel
theorem dX_balance_14 : decode bX_balance 14 = .ok (.i2l, 1) := by decide +kernel
theorem dX_balance_15 : decode bX_balance 15 = .ok (.lmul, 1) := by decide +kernel
theorem dX_balance_16 : decode bX_balance 16 = .ok (.aload_n 0, 1) := by decide +kernel
theorem dX_balance_17 : decode bX_balance 17 = .ok (.getfield 35, 3) := by decide +kernel
theorem dX_balance_20 : decode bX_balance 20 = .ok (.invokevirtual 122, 3) := by decide +kernel
theorem dX_balance_23 : decode bX_balance 23 = .ok (.aload_n 0, 1) := by decide +kernel
theorem dX_balance_24 : decode bX_balance 24 = .ok (.getfield 35, 3) := by decide +kernel
theorem dX_balance_27 : decode bX_balance 27 = .ok (.getfield 115, 3) := by decide +kernel
theorem dX_balance_30 : decode bX_balance 30 = .ok (.ladd, 1) := by decide +kernel
theorem dX_balance_31 : decode bX_balance 31 = .ok (.lcmp, 1) := by decide +kernel
theorem dX_balance_32 : decode bX_balance 32 = .ok (.ifCond .ne 7, 3) := by decide +kernel
theorem dX_balance_35 : decode bX_balance 35 = .ok (.iconst 1, 1) := by decide +kernel
theorem dX_balance_36 : decode bX_balance 36 = .ok (.goto 4, 3) := by decide +kernel
theorem dX_balance_39 : decode bX_balance 39 = .ok (.iconst 0, 1) := by decide +kernel
theorem dX_balance_40 : decode bX_balance 40 = .ok (.ireturn, 1) := by decide +kernel
theorem dG_allPressures_0 : decode bG_allPressures 0 = .ok (.lconst 0, 1) := by decide +kernel
theorem dG_allPressures_1 : decode bG_allPressures 1 = .ok (.lstore_n 1, 1) := by decide +kernel
theorem dG_allPressures_2 : decode bG_allPressures 2 = .ok (.iconst 0, 1) := by decide +kernel
theorem dG_allPressures_3 : decode bG_allPressures 3 = .ok (.istore_n 3, 1) := by decide +kernel
theorem dG_allPressures_4 : decode bG_allPressures 4 = .ok (.iload_n 3, 1) := by decide +kernel
theorem dG_allPressures_5 : decode bG_allPressures 5 = .ok (.aload_n 0, 1) := by decide +kernel
theorem dG_allPressures_6 : decode bG_allPressures 6 = .ok (.getfield 18, 3) := by decide +kernel
theorem dG_allPressures_9 : decode bG_allPressures 9 = .ok (.getfield 37, 3) := by decide +kernel
theorem dG_allPressures_12 : decode bG_allPressures 12 = .ok (.if_icmp .ge 18, 3) := by decide +kernel
theorem dG_allPressures_15 : decode bG_allPressures 15 = .ok (.lload_n 1, 1) := by decide +kernel
theorem dG_allPressures_16 : decode bG_allPressures 16 = .ok (.aload_n 0, 1) := by decide +kernel
theorem dG_allPressures_17 : decode bG_allPressures 17 = .ok (.getfield 9, 3) := by decide +kernel
theorem dG_allPressures_20 : decode bG_allPressures 20 = .ok (.iload_n 3, 1) := by decide +kernel
theorem dG_allPressures_21 : decode bG_allPressures 21 = .ok (.laload, 1) := by decide +kernel
theorem dG_allPressures_22 : decode bG_allPressures 22 = .ok (.ladd, 1) := by decide +kernel
theorem dG_allPressures_23 : decode bG_allPressures 23 = .ok (.lstore_n 1, 1) := by decide +kernel
theorem dG_allPressures_24 : decode bG_allPressures 24 = .ok (.iinc 3 1, 3) := by decide +kernel
theorem dG_allPressures_27 : decode bG_allPressures 27 = .ok (.goto (-23), 3) := by decide +kernel
theorem dG_allPressures_30 : decode bG_allPressures 30 = .ok (.lload_n 1, 1) := by decide +kernel
theorem dG_allPressures_31 : decode bG_allPressures 31 = .ok (.lreturn, 1) := by decide +kernel
theorem dX_end_0 : decode bX_end 0 = .ok (.aload_n 0, 1) := by decide +kernel
theorem dX_end_1 : decode bX_end 1 = .ok (.getfield 35, 3) := by decide +kernel
theorem dX_end_4 : decode bX_end 4 = .ok (.invokevirtual 125, 3) := by decide +kernel
theorem dX_end_7 : decode bX_end 7 = .ok (.ldc2_w 91, 3) := by decide +kernel
theorem dX_end_10 : decode bX_end 10 = .ok (.ldiv, 1) := by decide +kernel
theorem dX_end_11 : decode bX_end 11 = .ok (.lreturn, 1) := by decide +kernel
theorem dG_unitsAtEnd_0 : decode bG_unitsAtEnd 0 = .ok (.lconst 0, 1) := by decide +kernel
theorem dG_unitsAtEnd_1 : decode bG_unitsAtEnd 1 = .ok (.lstore_n 1, 1) := by decide +kernel
theorem dG_unitsAtEnd_2 : decode bG_unitsAtEnd 2 = .ok (.iconst 0, 1) := by decide +kernel
theorem dG_unitsAtEnd_3 : decode bG_unitsAtEnd 3 = .ok (.istore_n 3, 1) := by decide +kernel
theorem dG_unitsAtEnd_4 : decode bG_unitsAtEnd 4 = .ok (.iload_n 3, 1) := by decide +kernel
theorem dG_unitsAtEnd_5 : decode bG_unitsAtEnd 5 = .ok (.aload_n 0, 1) := by decide +kernel
theorem dG_unitsAtEnd_6 : decode bG_unitsAtEnd 6 = .ok (.getfield 18, 3) := by decide +kernel
theorem dG_unitsAtEnd_9 : decode bG_unitsAtEnd 9 = .ok (.getfield 37, 3) := by decide +kernel
theorem dG_unitsAtEnd_12 : decode bG_unitsAtEnd 12 = .ok (.if_icmp .ge 43, 3) := by decide +kernel
theorem dG_unitsAtEnd_15 : decode bG_unitsAtEnd 15 = .ok (.lload_n 1, 1) := by decide +kernel
theorem dG_unitsAtEnd_16 : decode bG_unitsAtEnd 16 = .ok (.aload_n 0, 1) := by decide +kernel
theorem dG_unitsAtEnd_17 : decode bG_unitsAtEnd 17 = .ok (.getfield 18, 3) := by decide +kernel
theorem dG_unitsAtEnd_20 : decode bG_unitsAtEnd 20 = .ok (.iload_n 3, 1) := by decide +kernel
theorem dG_unitsAtEnd_21 : decode bG_unitsAtEnd 21 = .ok (.aload_n 0, 1) := by decide +kernel
theorem dG_unitsAtEnd_22 : decode bG_unitsAtEnd 22 = .ok (.getfield 22, 3) := by decide +kernel
theorem dG_unitsAtEnd_25 : decode bG_unitsAtEnd 25 = .ok (.getfield 101, 3) := by decide +kernel
theorem dG_unitsAtEnd_28 : decode bG_unitsAtEnd 28 = .ok (.aload_n 0, 1) := by decide +kernel
theorem dG_unitsAtEnd_29 : decode bG_unitsAtEnd 29 = .ok (.getfield 15, 3) := by decide +kernel
theorem dG_unitsAtEnd_32 : decode bG_unitsAtEnd 32 = .ok (.iload_n 3, 1) := by decide +kernel
theorem dG_unitsAtEnd_33 : decode bG_unitsAtEnd 33 = .ok (.laload, 1) := by decide +kernel
theorem dG_unitsAtEnd_34 : decode bG_unitsAtEnd 34 = .ok (.aload_n 0, 1) := by decide +kernel
theorem dG_unitsAtEnd_35 : decode bG_unitsAtEnd 35 = .ok (.getfield 22, 3) := by decide +kernel
theorem dG_unitsAtEnd_38 : decode bG_unitsAtEnd 38 = .ok (.getfield 101, 3) := by decide +kernel
theorem dG_unitsAtEnd_41 : decode bG_unitsAtEnd 41 = .ok (.invokestatic 88, 3) := by decide +kernel
theorem dG_unitsAtEnd_44 : decode bG_unitsAtEnd 44 = .ok (.invokevirtual 98, 3) := by decide +kernel
theorem dG_unitsAtEnd_47 : decode bG_unitsAtEnd 47 = .ok (.ladd, 1) := by decide +kernel
theorem dG_unitsAtEnd_48 : decode bG_unitsAtEnd 48 = .ok (.lstore_n 1, 1) := by decide +kernel
theorem dG_unitsAtEnd_49 : decode bG_unitsAtEnd 49 = .ok (.iinc 3 1, 3) := by decide +kernel
theorem dG_unitsAtEnd_52 : decode bG_unitsAtEnd 52 = .ok (.goto (-48), 3) := by decide +kernel
theorem dG_unitsAtEnd_55 : decode bG_unitsAtEnd 55 = .ok (.lload_n 1, 1) := by decide +kernel
theorem dG_unitsAtEnd_56 : decode bG_unitsAtEnd 56 = .ok (.lreturn, 1) := by decide +kernel
theorem dX_share_0 : decode bX_share 0 = .ok (.aload_n 0, 1) := by decide +kernel
theorem dX_share_1 : decode bX_share 1 = .ok (.getfield 35, 3) := by decide +kernel
theorem dX_share_4 : decode bX_share 4 = .ok (.invokevirtual 87, 3) := by decide +kernel
theorem dX_share_7 : decode bX_share 7 = .ok (.aload_n 0, 1) := by decide +kernel
theorem dX_share_8 : decode bX_share 8 = .ok (.getfield 35, 3) := by decide +kernel
theorem dX_share_11 : decode bX_share 11 = .ok (.invokevirtual 125, 3) := by decide +kernel
theorem dX_share_14 : decode bX_share 14 = .ok (.invokestatic 128, 3) := by decide +kernel
theorem dX_share_17 : decode bX_share 17 = .ok (.ireturn, 1) := by decide +kernel
theorem dX_thousandths_0 : decode bX_thousandths 0 = .ok (.lload_n 2, 1) := by decide +kernel
theorem dX_thousandths_1 : decode bX_thousandths 1 = .ok (.lconst 0, 1) := by decide +kernel
theorem dX_thousandths_2 : decode bX_thousandths 2 = .ok (.lcmp, 1) := by decide +kernel
theorem dX_thousandths_3 : decode bX_thousandths 3 = .ok (.ifCond .ne 9, 3) := by decide +kernel
theorem dX_thousandths_6 : decode bX_thousandths 6 = .ok (.sipush 1000, 3) := by decide +kernel
theorem dX_thousandths_9 : decode bX_thousandths 9 = .ok (.goto 11, 3) := by decide +kernel
theorem dX_thousandths_12 : decode bX_thousandths 12 = .ok (.lload_n 0, 1) := by decide +kernel
theorem dX_thousandths_13 : decode bX_thousandths 13 = .ok (.ldc2_w 91, 3) := by decide +kernel
theorem dX_thousandths_16 : decode bX_thousandths 16 = .ok (.lmul, 1) := by decide +kernel
theorem dX_thousandths_17 : decode bX_thousandths 17 = .ok (.lload_n 2, 1) := by decide +kernel
theorem dX_thousandths_18 : decode bX_thousandths 18 = .ok (.ldiv, 1) := by decide +kernel
theorem dX_thousandths_19 : decode bX_thousandths 19 = .ok (.l2i, 1) := by decide +kernel
theorem dX_thousandths_20 : decode bX_thousandths 20 = .ok (.ireturn, 1) := by decide +kernel
theorem dX_until_0 : decode bX_until 0 = .ok (.aload_n 0, 1) := by decide +kernel
theorem dX_until_1 : decode bX_until 1 = .ok (.getfield 10, 3) := by decide +kernel
theorem dX_until_4 : decode bX_until 4 = .ok (.getfield 57, 3) := by decide +kernel
theorem dX_until_7 : decode bX_until 7 = .ok (.ifCond .eq 14, 3) := by decide +kernel
theorem dX_until_10 : decode bX_until 10 = .ok (.iload_n 1, 1) := by decide +kernel
theorem dX_until_11 : decode bX_until 11 = .ok (.iconst 0, 1) := by decide +kernel
theorem dX_until_12 : decode bX_until 12 = .ok (.sipush 1000, 3) := by decide +kernel
theorem dX_until_15 : decode bX_until 15 = .ok (.invokestatic 53, 3) := by decide +kernel
theorem dX_until_18 : decode bX_until 18 = .ok (.ifCond .ne 5, 3) := by decide +kernel
theorem dX_until_21 : decode bX_until 21 = .ok (.iconst (-1), 1) := by decide +kernel
theorem dX_until_22 : decode bX_until 22 = .ok (.ireturn, 1) := by decide +kernel
theorem dX_until_23 : decode bX_until 23 = .ok (.aload_n 0, 1) := by decide +kernel
theorem dX_until_24 : decode bX_until 24 = .ok (.getfield 35, 3) := by decide +kernel
theorem dX_until_27 : decode bX_until 27 = .ok (.invokevirtual 125, 3) := by decide +kernel
theorem dX_until_30 : decode bX_until 30 = .ok (.lstore_n 2, 1) := by decide +kernel
theorem dX_until_31 : decode bX_until 31 = .ok (.aload_n 0, 1) := by decide +kernel
theorem dX_until_32 : decode bX_until 32 = .ok (.getfield 39, 3) := by decide +kernel
theorem dX_until_35 : decode bX_until 35 = .ok (.aload_n 0, 1) := by decide +kernel
theorem dX_until_36 : decode bX_until 36 = .ok (.getfield 35, 3) := by decide +kernel
theorem dX_until_39 : decode bX_until 39 = .ok (.invokevirtual 132, 3) := by decide +kernel
theorem dX_until_42 : decode bX_until 42 = .ok (.iconst 0, 1) := by decide +kernel
theorem dX_until_43 : decode bX_until 43 = .ok (.istore 4, 2) := by decide +kernel
theorem dX_until_45 : decode bX_until 45 = .ok (.iload 4, 2) := by decide +kernel
theorem dX_until_47 : decode bX_until 47 = .ok (.sipush 300, 3) := by decide +kernel
theorem dX_until_50 : decode bX_until 50 = .ok (.if_icmp .ge 31, 3) := by decide +kernel
theorem dX_until_53 : decode bX_until 53 = .ok (.aload_n 0, 1) := by decide +kernel
theorem dX_until_54 : decode bX_until 54 = .ok (.getfield 39, 3) := by decide +kernel
theorem dX_until_57 : decode bX_until 57 = .ok (.invokevirtual 87, 3) := by decide +kernel
theorem dX_until_60 : decode bX_until 60 = .ok (.lload_n 2, 1) := by decide +kernel
theorem dX_until_61 : decode bX_until 61 = .ok (.invokestatic 128, 3) := by decide +kernel
theorem dX_until_64 : decode bX_until 64 = .ok (.iload_n 1, 1) := by decide +kernel
theorem dX_until_65 : decode bX_until 65 = .ok (.if_icmp .ge 16, 3) := by decide +kernel
theorem dX_until_68 : decode bX_until 68 = .ok (.aload_n 0, 1) := by decide +kernel
theorem dX_until_69 : decode bX_until 69 = .ok (.getfield 39, 3) := by decide +kernel
theorem dX_until_72 : decode bX_until 72 = .ok (.invokevirtual 84, 3) := by decide +kernel
theorem dX_until_75 : decode bX_until 75 = .ok (.iinc 4 1, 3) := by decide +kernel
theorem dX_until_78 : decode bX_until 78 = .ok (.goto (-33), 3) := by decide +kernel
theorem dX_until_81 : decode bX_until 81 = .ok (.aload_n 0, 1) := by decide +kernel
theorem dX_until_82 : decode bX_until 82 = .ok (.getfield 39, 3) := by decide +kernel
theorem dX_until_85 : decode bX_until 85 = .ok (.invokevirtual 87, 3) := by decide +kernel
theorem dX_until_88 : decode bX_until 88 = .ok (.lload_n 2, 1) := by decide +kernel
theorem dX_until_89 : decode bX_until 89 = .ok (.invokestatic 128, 3) := by decide +kernel
theorem dX_until_92 : decode bX_until 92 = .ok (.iload_n 1, 1) := by decide +kernel
theorem dX_until_93 : decode bX_until 93 = .ok (.if_icmp .ge 7, 3) := by decide +kernel
theorem dX_until_96 : decode bX_until 96 = .ok (.iconst (-1), 1) := by decide +kernel
theorem dX_until_97 : decode bX_until 97 = .ok (.goto 5, 3) := by decide +kernel
theorem dX_until_100 : decode bX_until 100 = .ok (.iload 4, 2) := by decide +kernel
theorem dX_until_102 : decode bX_until 102 = .ok (.ireturn, 1) := by decide +kernel
theorem dG_become_0 : decode bG_become 0 = .ok (.iconst 0, 1) := by decide +kernel
theorem dG_become_1 : decode bG_become 1 = .ok (.istore_n 2, 1) := by decide +kernel
theorem dG_become_2 : decode bG_become 2 = .ok (.iload_n 2, 1) := by decide +kernel
theorem dG_become_3 : decode bG_become 3 = .ok (.bipush 30, 2) := by decide +kernel
theorem dG_become_5 : decode bG_become 5 = .ok (.if_icmp .ge 33, 3) := by decide +kernel
theorem dG_become_8 : decode bG_become 8 = .ok (.aload_n 0, 1) := by decide +kernel
theorem dG_become_9 : decode bG_become 9 = .ok (.getfield 9, 3) := by decide +kernel
theorem dG_become_12 : decode bG_become 12 = .ok (.iload_n 2, 1) := by decide +kernel
theorem dG_become_13 : decode bG_become 13 = .ok (.aload_n 1, 1) := by decide +kernel
theorem dG_become_14 : decode bG_become 14 = .ok (.getfield 9, 3) := by decide +kernel
theorem dG_become_17 : decode bG_become 17 = .ok (.iload_n 2, 1) := by decide +kernel
theorem dG_become_18 : decode bG_become 18 = .ok (.laload, 1) := by decide +kernel
theorem dG_become_19 : decode bG_become 19 = .ok (.lastore, 1) := by decide +kernel
theorem dG_become_20 : decode bG_become 20 = .ok (.aload_n 0, 1) := by decide +kernel
theorem dG_become_21 : decode bG_become 21 = .ok (.getfield 15, 3) := by decide +kernel
theorem dG_become_24 : decode bG_become 24 = .ok (.iload_n 2, 1) := by decide +kernel
theorem dG_become_25 : decode bG_become 25 = .ok (.aload_n 1, 1) := by decide +kernel
theorem dG_become_26 : decode bG_become 26 = .ok (.getfield 15, 3) := by decide +kernel
theorem dG_become_29 : decode bG_become 29 = .ok (.iload_n 2, 1) := by decide +kernel
theorem dG_become_30 : decode bG_become 30 = .ok (.laload, 1) := by decide +kernel
theorem dG_become_31 : decode bG_become 31 = .ok (.lastore, 1) := by decide +kernel
theorem dG_become_32 : decode bG_become 32 = .ok (.iinc 2 1, 3) := by decide +kernel
theorem dG_become_35 : decode bG_become 35 = .ok (.goto (-33), 3) := by decide +kernel
theorem dG_become_38 : decode bG_become 38 = .ok (.aload_n 0, 1) := by decide +kernel
theorem dG_become_39 : decode bG_become 39 = .ok (.aload_n 1, 1) := by decide +kernel
theorem dG_become_40 : decode bG_become 40 = .ok (.getfield 26, 3) := by decide +kernel
theorem dG_become_43 : decode bG_become 43 = .ok (.putfield 26, 3) := by decide +kernel
theorem dG_become_46 : decode bG_become 46 = .ok (.aload_n 0, 1) := by decide +kernel
theorem dG_become_47 : decode bG_become 47 = .ok (.aload_n 1, 1) := by decide +kernel
theorem dG_become_48 : decode bG_become 48 = .ok (.getfield 30, 3) := by decide +kernel
theorem dG_become_51 : decode bG_become 51 = .ok (.putfield 30, 3) := by decide +kernel
theorem dG_become_54 : decode bG_become 54 = .ok (.aload_n 0, 1) := by decide +kernel
theorem dG_become_55 : decode bG_become 55 = .ok (.aload_n 1, 1) := by decide +kernel
theorem dG_become_56 : decode bG_become 56 = .ok (.getfield 34, 3) := by decide +kernel
theorem dG_become_59 : decode bG_become 59 = .ok (.putfield 34, 3) := by decide +kernel
theorem dG_become_62 : decode bG_become 62 = .ok (.return_, 1) := by decide +kernel
theorem dX_surcharge_0 : decode bX_surcharge 0 = .ok (.aload_n 0, 1) := by decide +kernel
theorem dX_surcharge_1 : decode bX_surcharge 1 = .ok (.getfield 10, 3) := by decide +kernel
theorem dX_surcharge_4 : decode bX_surcharge 4 = .ok (.getfield 57, 3) := by decide +kernel
theorem dX_surcharge_7 : decode bX_surcharge 7 = .ok (.ifCond .eq 23, 3) := by decide +kernel
theorem dX_surcharge_10 : decode bX_surcharge 10 = .ok (.iload_n 1, 1) := by decide +kernel
theorem dX_surcharge_11 : decode bX_surcharge 11 = .ok (.iconst 1, 1) := by decide +kernel
theorem dX_surcharge_12 : decode bX_surcharge 12 = .ok (.ldc 136, 2) := by decide +kernel
theorem dX_surcharge_14 : decode bX_surcharge 14 = .ok (.invokestatic 53, 3) := by decide +kernel
theorem dX_surcharge_17 : decode bX_surcharge 17 = .ok (.ifCond .eq 13, 3) := by decide +kernel
theorem dX_surcharge_20 : decode bX_surcharge 20 = .ok (.iload_n 2, 1) := by decide +kernel
theorem dX_surcharge_21 : decode bX_surcharge 21 = .ok (.iconst 1, 1) := by decide +kernel
theorem dX_surcharge_22 : decode bX_surcharge 22 = .ok (.bipush 100, 2) := by decide +kernel
theorem dX_surcharge_24 : decode bX_surcharge 24 = .ok (.invokestatic 53, 3) := by decide +kernel
theorem dX_surcharge_27 : decode bX_surcharge 27 = .ok (.ifCond .ne 5, 3) := by decide +kernel
theorem dX_surcharge_30 : decode bX_surcharge 30 = .ok (.iconst (-1), 1) := by decide +kernel
theorem dX_surcharge_31 : decode bX_surcharge 31 = .ok (.ireturn, 1) := by decide +kernel
theorem dX_surcharge_32 : decode bX_surcharge 32 = .ok (.aload_n 0, 1) := by decide +kernel
theorem dX_surcharge_33 : decode bX_surcharge 33 = .ok (.getfield 35, 3) := by decide +kernel
theorem dX_surcharge_36 : decode bX_surcharge 36 = .ok (.invokevirtual 125, 3) := by decide +kernel
theorem dX_surcharge_39 : decode bX_surcharge 39 = .ok (.lstore_n 3, 1) := by decide +kernel
theorem dX_surcharge_40 : decode bX_surcharge 40 = .ok (.iconst 0, 1) := by decide +kernel
theorem dX_surcharge_41 : decode bX_surcharge 41 = .ok (.istore 5, 2) := by decide +kernel
theorem dX_surcharge_43 : decode bX_surcharge 43 = .ok (.iload 5, 2) := by decide +kernel
theorem dX_surcharge_45 : decode bX_surcharge 45 = .ok (.bipush 20, 2) := by decide +kernel
theorem dX_surcharge_47 : decode bX_surcharge 47 = .ok (.if_icmp .gt 28, 3) := by decide +kernel
theorem dX_surcharge_50 : decode bX_surcharge 50 = .ok (.aload_n 0, 1) := by decide +kernel
theorem dX_surcharge_51 : decode bX_surcharge 51 = .ok (.iload 5, 2) := by decide +kernel
theorem dX_surcharge_53 : decode bX_surcharge 53 = .ok (.iload_n 1, 1) := by decide +kernel
theorem dX_surcharge_54 : decode bX_surcharge 54 = .ok (.imul, 1) := by decide +kernel
theorem dX_surcharge_55 : decode bX_surcharge 55 = .ok (.iload_n 2, 1) := by decide +kernel
theorem dX_surcharge_56 : decode bX_surcharge 56 = .ok (.invokevirtual 137, 3) := by decide +kernel
theorem dX_surcharge_59 : decode bX_surcharge 59 = .ok (.lload_n 3, 1) := by decide +kernel
theorem dX_surcharge_60 : decode bX_surcharge 60 = .ok (.lcmp, 1) := by decide +kernel
theorem dX_surcharge_61 : decode bX_surcharge 61 = .ok (.ifCond .lt 8, 3) := by decide +kernel
theorem dX_surcharge_64 : decode bX_surcharge 64 = .ok (.iload 5, 2) := by decide +kernel
theorem dX_surcharge_66 : decode bX_surcharge 66 = .ok (.iload_n 1, 1) := by decide +kernel
theorem dX_surcharge_67 : decode bX_surcharge 67 = .ok (.imul, 1) := by decide +kernel
theorem dX_surcharge_68 : decode bX_surcharge 68 = .ok (.ireturn, 1) := by decide +kernel
theorem dX_surcharge_69 : decode bX_surcharge 69 = .ok (.iinc 5 1, 3) := by decide +kernel
theorem dX_surcharge_72 : decode bX_surcharge 72 = .ok (.goto (-29), 3) := by decide +kernel
theorem dX_surcharge_75 : decode bX_surcharge 75 = .ok (.iconst (-1), 1) := by decide +kernel
theorem dX_surcharge_76 : decode bX_surcharge 76 = .ok (.ireturn, 1) := by decide +kernel
theorem dX_unitsSunkWith_0 : decode bX_unitsSunkWith 0 = .ok (.aload_n 0, 1) := by decide +kernel
theorem dX_unitsSunkWith_1 : decode bX_unitsSunkWith 1 = .ok (.getfield 39, 3) := by decide +kernel
theorem dX_unitsSunkWith_4 : decode bX_unitsSunkWith 4 = .ok (.aload_n 0, 1) := by decide +kernel
theorem dX_unitsSunkWith_5 : decode bX_unitsSunkWith 5 = .ok (.getfield 35, 3) := by decide +kernel
theorem dX_unitsSunkWith_8 : decode bX_unitsSunkWith 8 = .ok (.invokevirtual 132, 3) := by decide +kernel
theorem dX_unitsSunkWith_11 : decode bX_unitsSunkWith 11 = .ok (.aload_n 0, 1) := by decide +kernel
theorem dX_unitsSunkWith_12 : decode bX_unitsSunkWith 12 = .ok (.getfield 39, 3) := by decide +kernel
theorem dX_unitsSunkWith_15 : decode bX_unitsSunkWith 15 = .ok (.iload_n 1, 1) := by decide +kernel
theorem dX_unitsSunkWith_16 : decode bX_unitsSunkWith 16 = .ok (.i2l, 1) := by decide +kernel
theorem dX_unitsSunkWith_17 : decode bX_unitsSunkWith 17 = .ok (.invokevirtual 170, 3) := by decide +kernel
theorem dX_unitsSunkWith_20 : decode bX_unitsSunkWith 20 = .ok (.iconst 0, 1) := by decide +kernel
theorem dX_unitsSunkWith_21 : decode bX_unitsSunkWith 21 = .ok (.istore_n 3, 1) := by decide +kernel
theorem dX_unitsSunkWith_22 : decode bX_unitsSunkWith 22 = .ok (.iload_n 3, 1) := by decide +kernel
theorem dX_unitsSunkWith_23 : decode bX_unitsSunkWith 23 = .ok (.iload_n 2, 1) := by decide +kernel
theorem dX_unitsSunkWith_24 : decode bX_unitsSunkWith 24 = .ok (.if_icmp .ge 16, 3) := by decide +kernel
theorem dX_unitsSunkWith_27 : decode bX_unitsSunkWith 27 = .ok (.aload_n 0, 1) := by decide +kernel
theorem dX_unitsSunkWith_28 : decode bX_unitsSunkWith 28 = .ok (.getfield 39, 3) := by decide +kernel
theorem dX_unitsSunkWith_31 : decode bX_unitsSunkWith 31 = .ok (.invokevirtual 84, 3) := by decide +kernel
theorem dX_unitsSunkWith_34 : decode bX_unitsSunkWith 34 = .ok (.iinc 3 1, 3) := by decide +kernel
theorem dX_unitsSunkWith_37 : decode bX_unitsSunkWith 37 = .ok (.goto (-15), 3) := by decide +kernel
theorem dX_unitsSunkWith_40 : decode bX_unitsSunkWith 40 = .ok (.aload_n 0, 1) := by decide +kernel
theorem dX_unitsSunkWith_41 : decode bX_unitsSunkWith 41 = .ok (.getfield 39, 3) := by decide +kernel
theorem dX_unitsSunkWith_44 : decode bX_unitsSunkWith 44 = .ok (.invokevirtual 87, 3) := by decide +kernel
theorem dX_unitsSunkWith_47 : decode bX_unitsSunkWith 47 = .ok (.lreturn, 1) := by decide +kernel
theorem dX_read_0 : decode bX_read 0 = .ok (.iload_n 1, 1) := by decide +kernel
theorem dX_read_1 : decode bX_read 1 = .ok (.aload_n 0, 1) := by decide +kernel
theorem dX_read_2 : decode bX_read 2 = .ok (.getfield 26, 3) := by decide +kernel
theorem dX_read_5 : decode bX_read 5 = .ok (.invokevirtual 140, 3) := by decide +kernel
theorem dX_read_8 : decode bX_read 8 = .ok (.sipush 400, 3) := by decide +kernel
theorem dX_read_11 : decode bX_read 11 = .ok (.invokestatic 53, 3) := by decide +kernel
theorem dX_read_14 : decode bX_read 14 = .ok (.ifCond .eq 17, 3) := by decide +kernel
theorem dX_read_17 : decode bX_read 17 = .ok (.lload_n 2, 1) := by decide +kernel
theorem dX_read_18 : decode bX_read 18 = .ok (.lconst 0, 1) := by decide +kernel
theorem dX_read_19 : decode bX_read 19 = .ok (.lcmp, 1) := by decide +kernel
theorem dX_read_20 : decode bX_read 20 = .ok (.ifCond .lt 11, 3) := by decide +kernel
theorem dX_read_23 : decode bX_read 23 = .ok (.lload_n 2, 1) := by decide +kernel
theorem dX_read_24 : decode bX_read 24 = .ok (.ldc2_w 144, 3) := by decide +kernel
theorem dX_read_27 : decode bX_read 27 = .ok (.lcmp, 1) := by decide +kernel
theorem dX_read_28 : decode bX_read 28 = .ok (.ifCond .le 5, 3) := by decide +kernel
theorem dX_read_31 : decode bX_read 31 = .ok (.iconst (-1), 1) := by decide +kernel
theorem dX_read_32 : decode bX_read 32 = .ok (.ireturn, 1) := by decide +kernel
theorem dX_read_33 : decode bX_read 33 = .ok (.aload_n 0, 1) := by decide +kernel
theorem dX_read_34 : decode bX_read 34 = .ok (.getfield 26, 3) := by decide +kernel
theorem dX_read_37 : decode bX_read 37 = .ok (.getfield 146, 3) := by decide +kernel
theorem dX_read_40 : decode bX_read 40 = .ok (.bipush 20, 2) := by decide +kernel
theorem dX_read_42 : decode bX_read 42 = .ok (.if_icmp .lt 5, 3) := by decide +kernel
theorem dX_read_45 : decode bX_read 45 = .ok (.iconst (-1), 1) := by decide +kernel
theorem dX_read_46 : decode bX_read 46 = .ok (.ireturn, 1) := by decide +kernel
theorem dX_read_47 : decode bX_read 47 = .ok (.aload_n 0, 1) := by decide +kernel
theorem dX_read_48 : decode bX_read 48 = .ok (.getfield 26, 3) := by decide +kernel
theorem dX_read_51 : decode bX_read 51 = .ok (.iload_n 1, 1) := by decide +kernel
theorem dX_read_52 : decode bX_read 52 = .ok (.lload_n 2, 1) := by decide +kernel
theorem dX_read_53 : decode bX_read 53 = .ok (.invokevirtual 147, 3) := by decide +kernel
theorem dX_read_56 : decode bX_read 56 = .ok (.ireturn, 1) := by decide +kernel
theorem dD_firstFreeDay_0 : decode bD_firstFreeDay 0 = .ok (.aload_n 0, 1) := by decide +kernel
theorem dD_firstFreeDay_1 : decode bD_firstFreeDay 1 = .ok (.getfield 19, 3) := by decide +kernel
theorem dD_firstFreeDay_4 : decode bD_firstFreeDay 4 = .ok (.ifCond .ne 7, 3) := by decide +kernel
theorem dD_firstFreeDay_7 : decode bD_firstFreeDay 7 = .ok (.iconst 0, 1) := by decide +kernel
theorem dD_firstFreeDay_8 : decode bD_firstFreeDay 8 = .ok (.goto 16, 3) := by decide +kernel
theorem dD_firstFreeDay_11 : decode bD_firstFreeDay 11 = .ok (.aload_n 0, 1) := by decide +kernel
theorem dD_firstFreeDay_12 : decode bD_firstFreeDay 12 = .ok (.getfield 9, 3) := by decide +kernel
theorem dD_firstFreeDay_15 : decode bD_firstFreeDay 15 = .ok (.aload_n 0, 1) := by decide +kernel
theorem dD_firstFreeDay_16 : decode bD_firstFreeDay 16 = .ok (.getfield 19, 3) := by decide +kernel
theorem dD_firstFreeDay_19 : decode bD_firstFreeDay 19 = .ok (.iconst 1, 1) := by decide +kernel
theorem dD_firstFreeDay_20 : decode bD_firstFreeDay 20 = .ok (.isub, 1) := by decide +kernel
theorem dD_firstFreeDay_21 : decode bD_firstFreeDay 21 = .ok (.iaload, 1) := by decide +kernel
theorem dD_firstFreeDay_22 : decode bD_firstFreeDay 22 = .ok (.iconst 1, 1) := by decide +kernel
theorem dD_firstFreeDay_23 : decode bD_firstFreeDay 23 = .ok (.iadd, 1) := by decide +kernel
theorem dD_firstFreeDay_24 : decode bD_firstFreeDay 24 = .ok (.ireturn, 1) := by decide +kernel
theorem dD_add_0 : decode bD_add 0 = .ok (.aload_n 0, 1) := by decide +kernel
theorem dD_add_1 : decode bD_add 1 = .ok (.getfield 9, 3) := by decide +kernel
theorem dD_add_4 : decode bD_add 4 = .ok (.aload_n 0, 1) := by decide +kernel
theorem dD_add_5 : decode bD_add 5 = .ok (.getfield 19, 3) := by decide +kernel
theorem dD_add_8 : decode bD_add 8 = .ok (.iload_n 1, 1) := by decide +kernel
theorem dD_add_9 : decode bD_add 9 = .ok (.iastore, 1) := by decide +kernel
theorem dD_add_10 : decode bD_add 10 = .ok (.aload_n 0, 1) := by decide +kernel
theorem dD_add_11 : decode bD_add 11 = .ok (.getfield 15, 3) := by decide +kernel
theorem dD_add_14 : decode bD_add 14 = .ok (.aload_n 0, 1) := by decide +kernel
theorem dD_add_15 : decode bD_add 15 = .ok (.getfield 19, 3) := by decide +kernel
theorem dD_add_18 : decode bD_add 18 = .ok (.lload_n 2, 1) := by decide +kernel
theorem dD_add_19 : decode bD_add 19 = .ok (.lastore, 1) := by decide +kernel
theorem dD_add_20 : decode bD_add 20 = .ok (.aload_n 0, 1) := by decide +kernel
theorem dD_add_21 : decode bD_add 21 = .ok (.dup, 1) := by decide +kernel
theorem dD_add_22 : decode bD_add 22 = .ok (.getfield 19, 3) := by decide +kernel
theorem dD_add_25 : decode bD_add 25 = .ok (.iconst 1, 1) := by decide +kernel
theorem dD_add_26 : decode bD_add 26 = .ok (.iadd, 1) := by decide +kernel
theorem dD_add_27 : decode bD_add 27 = .ok (.putfield 19, 3) := by decide +kernel
theorem dD_add_30 : decode bD_add 30 = .ok (.aload_n 0, 1) := by decide +kernel
theorem dD_add_31 : decode bD_add 31 = .ok (.getfield 19, 3) := by decide +kernel
theorem dD_add_34 : decode bD_add 34 = .ok (.ireturn, 1) := by decide +kernel
theorem dX_foretold_0 : decode bX_foretold 0 = .ok (.iload_n 1, 1) := by decide +kernel
theorem dX_foretold_1 : decode bX_foretold 1 = .ok (.tableswitch 51 0 2 #[27, 35, 43], 27) := by decide +kernel
theorem dX_foretold_28 : decode bX_foretold 28 = .ok (.aload_n 0, 1) := by decide +kernel
theorem dX_foretold_29 : decode bX_foretold 29 = .ok (.getfield 26, 3) := by decide +kernel
theorem dX_foretold_32 : decode bX_foretold 32 = .ok (.invokevirtual 150, 3) := by decide +kernel
theorem dX_foretold_35 : decode bX_foretold 35 = .ok (.lreturn, 1) := by decide +kernel
theorem dX_foretold_36 : decode bX_foretold 36 = .ok (.aload_n 0, 1) := by decide +kernel
theorem dX_foretold_37 : decode bX_foretold 37 = .ok (.getfield 26, 3) := by decide +kernel
theorem dX_foretold_40 : decode bX_foretold 40 = .ok (.invokevirtual 153, 3) := by decide +kernel
theorem dX_foretold_43 : decode bX_foretold 43 = .ok (.lreturn, 1) := by decide +kernel
theorem dX_foretold_44 : decode bX_foretold 44 = .ok (.aload_n 0, 1) := by decide +kernel
theorem dX_foretold_45 : decode bX_foretold 45 = .ok (.getfield 26, 3) := by decide +kernel
theorem dX_foretold_48 : decode bX_foretold 48 = .ok (.invokevirtual 156, 3) := by decide +kernel
theorem dX_foretold_51 : decode bX_foretold 51 = .ok (.lreturn, 1) := by decide +kernel
theorem dX_foretold_52 : decode bX_foretold 52 = .ok (.ldc2_w 96, 3) := by decide +kernel
theorem dX_foretold_55 : decode bX_foretold 55 = .ok (.lreturn, 1) := by decide +kernel
theorem dD_foretellByLastThree_0 : decode bD_foretellByLastThree 0 = .ok (.aload_n 0, 1) := by decide +kernel
theorem dD_foretellByLastThree_1 : decode bD_foretellByLastThree 1 = .ok (.getfield 19, 3) := by decide +kernel
theorem dD_foretellByLastThree_4 : decode bD_foretellByLastThree 4 = .ok (.iconst 3, 1) := by decide +kernel
theorem dD_foretellByLastThree_5 : decode bD_foretellByLastThree 5 = .ok (.if_icmp .ge 7, 3) := by decide +kernel
theorem dD_foretellByLastThree_8 : decode bD_foretellByLastThree 8 = .ok (.ldc2_w 23, 3) := by decide +kernel
theorem dD_foretellByLastThree_11 : decode bD_foretellByLastThree 11 = .ok (.lreturn, 1) := by decide +kernel
theorem dD_foretellByLastThree_12 : decode bD_foretellByLastThree 12 = .ok (.aload_n 0, 1) := by decide +kernel
theorem dD_foretellByLastThree_13 : decode bD_foretellByLastThree 13 = .ok (.getfield 15, 3) := by decide +kernel
theorem dD_foretellByLastThree_16 : decode bD_foretellByLastThree 16 = .ok (.aload_n 0, 1) := by decide +kernel
theorem dD_foretellByLastThree_17 : decode bD_foretellByLastThree 17 = .ok (.getfield 19, 3) := by decide +kernel
theorem dD_foretellByLastThree_20 : decode bD_foretellByLastThree 20 = .ok (.iconst 3, 1) := by decide +kernel
theorem dD_foretellByLastThree_21 : decode bD_foretellByLastThree 21 = .ok (.isub, 1) := by decide +kernel
theorem dD_foretellByLastThree_22 : decode bD_foretellByLastThree 22 = .ok (.laload, 1) := by decide +kernel
theorem dD_foretellByLastThree_23 : decode bD_foretellByLastThree 23 = .ok (.lstore_n 1, 1) := by decide +kernel
theorem dD_foretellByLastThree_24 : decode bD_foretellByLastThree 24 = .ok (.aload_n 0, 1) := by decide +kernel
theorem dD_foretellByLastThree_25 : decode bD_foretellByLastThree 25 = .ok (.getfield 15, 3) := by decide +kernel
theorem dD_foretellByLastThree_28 : decode bD_foretellByLastThree 28 = .ok (.aload_n 0, 1) := by decide +kernel
theorem dD_foretellByLastThree_29 : decode bD_foretellByLastThree 29 = .ok (.getfield 19, 3) := by decide +kernel
theorem dD_foretellByLastThree_32 : decode bD_foretellByLastThree 32 = .ok (.iconst 2, 1) := by decide +kernel
theorem dD_foretellByLastThree_33 : decode bD_foretellByLastThree 33 = .ok (.isub, 1) := by decide +kernel
theorem dD_foretellByLastThree_34 : decode bD_foretellByLastThree 34 = .ok (.laload, 1) := by decide +kernel
theorem dD_foretellByLastThree_35 : decode bD_foretellByLastThree 35 = .ok (.lstore_n 3, 1) := by decide +kernel
theorem dD_foretellByLastThree_36 : decode bD_foretellByLastThree 36 = .ok (.aload_n 0, 1) := by decide +kernel
theorem dD_foretellByLastThree_37 : decode bD_foretellByLastThree 37 = .ok (.getfield 15, 3) := by decide +kernel
theorem dD_foretellByLastThree_40 : decode bD_foretellByLastThree 40 = .ok (.aload_n 0, 1) := by decide +kernel
theorem dD_foretellByLastThree_41 : decode bD_foretellByLastThree 41 = .ok (.getfield 19, 3) := by decide +kernel
theorem dD_foretellByLastThree_44 : decode bD_foretellByLastThree 44 = .ok (.iconst 1, 1) := by decide +kernel
theorem dD_foretellByLastThree_45 : decode bD_foretellByLastThree 45 = .ok (.isub, 1) := by decide +kernel
theorem dD_foretellByLastThree_46 : decode bD_foretellByLastThree 46 = .ok (.laload, 1) := by decide +kernel
theorem dD_foretellByLastThree_47 : decode bD_foretellByLastThree 47 = .ok (.lstore 5, 2) := by decide +kernel
theorem dD_foretellByLastThree_49 : decode bD_foretellByLastThree 49 = .ok (.lload_n 1, 1) := by decide +kernel
theorem dD_foretellByLastThree_50 : decode bD_foretellByLastThree 50 = .ok (.invokestatic 25, 3) := by decide +kernel
theorem dD_foretellByLastThree_53 : decode bD_foretellByLastThree 53 = .ok (.ifCond .ne 18, 3) := by decide +kernel
theorem dD_foretellByLastThree_56 : decode bD_foretellByLastThree 56 = .ok (.lload_n 3, 1) := by decide +kernel
theorem dD_foretellByLastThree_57 : decode bD_foretellByLastThree 57 = .ok (.invokestatic 25, 3) := by decide +kernel
theorem dD_foretellByLastThree_60 : decode bD_foretellByLastThree 60 = .ok (.ifCond .ne 11, 3) := by decide +kernel
theorem dD_foretellByLastThree_63 : decode bD_foretellByLastThree 63 = .ok (.lload 5, 2) := by decide +kernel
theorem dD_foretellByLastThree_65 : decode bD_foretellByLastThree 65 = .ok (.invokestatic 25, 3) := by decide +kernel
theorem dD_foretellByLastThree_68 : decode bD_foretellByLastThree 68 = .ok (.ifCond .eq 7, 3) := by decide +kernel
theorem dD_foretellByLastThree_71 : decode bD_foretellByLastThree 71 = .ok (.ldc2_w 23, 3) := by decide +kernel
theorem dD_foretellByLastThree_74 : decode bD_foretellByLastThree 74 = .ok (.lreturn, 1) := by decide +kernel
theorem dD_foretellByLastThree_75 : decode bD_foretellByLastThree 75 = .ok (.lload_n 3, 1) := by decide +kernel
theorem dD_foretellByLastThree_76 : decode bD_foretellByLastThree 76 = .ok (.lload_n 3, 1) := by decide +kernel
theorem dD_foretellByLastThree_77 : decode bD_foretellByLastThree 77 = .ok (.lmul, 1) := by decide +kernel
theorem dD_foretellByLastThree_78 : decode bD_foretellByLastThree 78 = .ok (.lload_n 1, 1) := by decide +kernel
theorem dD_foretellByLastThree_79 : decode bD_foretellByLastThree 79 = .ok (.lload 5, 2) := by decide +kernel
theorem dD_foretellByLastThree_81 : decode bD_foretellByLastThree 81 = .ok (.lmul, 1) := by decide +kernel
theorem dD_foretellByLastThree_82 : decode bD_foretellByLastThree 82 = .ok (.lsub, 1) := by decide +kernel
theorem dD_foretellByLastThree_83 : decode bD_foretellByLastThree 83 = .ok (.ldc2_w 29, 3) := by decide +kernel
theorem dD_foretellByLastThree_86 : decode bD_foretellByLastThree 86 = .ok (.lload_n 3, 1) := by decide +kernel
theorem dD_foretellByLastThree_87 : decode bD_foretellByLastThree 87 = .ok (.lmul, 1) := by decide +kernel
theorem dD_foretellByLastThree_88 : decode bD_foretellByLastThree 88 = .ok (.lload_n 1, 1) := by decide +kernel
theorem dD_foretellByLastThree_89 : decode bD_foretellByLastThree 89 = .ok (.lsub, 1) := by decide +kernel
theorem dD_foretellByLastThree_90 : decode bD_foretellByLastThree 90 = .ok (.lload 5, 2) := by decide +kernel
theorem dD_foretellByLastThree_92 : decode bD_foretellByLastThree 92 = .ok (.lsub, 1) := by decide +kernel
theorem dD_foretellByLastThree_93 : decode bD_foretellByLastThree 93 = .ok (.invokestatic 31, 3) := by decide +kernel
theorem dD_foretellByLastThree_96 : decode bD_foretellByLastThree 96 = .ok (.lreturn, 1) := by decide +kernel
theorem dD_tooGreat_0 : decode bD_tooGreat 0 = .ok (.lload_n 0, 1) := by decide +kernel
theorem dD_tooGreat_1 : decode bD_tooGreat 1 = .ok (.ldc2_w 37, 3) := by decide +kernel
theorem dD_tooGreat_4 : decode bD_tooGreat 4 = .ok (.lcmp, 1) := by decide +kernel
theorem dD_tooGreat_5 : decode bD_tooGreat 5 = .ok (.ifCond .le 7, 3) := by decide +kernel
theorem dD_tooGreat_8 : decode bD_tooGreat 8 = .ok (.iconst 1, 1) := by decide +kernel
theorem dD_tooGreat_9 : decode bD_tooGreat 9 = .ok (.goto 4, 3) := by decide +kernel
theorem dD_tooGreat_12 : decode bD_tooGreat 12 = .ok (.iconst 0, 1) := by decide +kernel
theorem dD_tooGreat_13 : decode bD_tooGreat 13 = .ok (.ireturn, 1) := by decide +kernel
theorem dD_quotient_0 : decode bD_quotient 0 = .ok (.lload_n 2, 1) := by decide +kernel
theorem dD_quotient_1 : decode bD_quotient 1 = .ok (.lconst 0, 1) := by decide +kernel
theorem dD_quotient_2 : decode bD_quotient 2 = .ok (.lcmp, 1) := by decide +kernel
theorem dD_quotient_3 : decode bD_quotient 3 = .ok (.ifCond .ne 9, 3) := by decide +kernel
theorem dD_quotient_6 : decode bD_quotient 6 = .ok (.ldc2_w 23, 3) := by decide +kernel
theorem dD_quotient_9 : decode bD_quotient 9 = .ok (.goto 6, 3) := by decide +kernel
theorem dD_quotient_12 : decode bD_quotient 12 = .ok (.lload_n 0, 1) := by decide +kernel
theorem dD_quotient_13 : decode bD_quotient 13 = .ok (.lload_n 2, 1) := by decide +kernel
theorem dD_quotient_14 : decode bD_quotient 14 = .ok (.ldiv, 1) := by decide +kernel
theorem dD_quotient_15 : decode bD_quotient 15 = .ok (.lreturn, 1) := by decide +kernel
theorem dD_foretellByLastTwo_0 : decode bD_foretellByLastTwo 0 = .ok (.aload_n 0, 1) := by decide +kernel
theorem dD_foretellByLastTwo_1 : decode bD_foretellByLastTwo 1 = .ok (.getfield 19, 3) := by decide +kernel
theorem dD_foretellByLastTwo_4 : decode bD_foretellByLastTwo 4 = .ok (.iconst 2, 1) := by decide +kernel
theorem dD_foretellByLastTwo_5 : decode bD_foretellByLastTwo 5 = .ok (.if_icmp .ge 7, 3) := by decide +kernel
theorem dD_foretellByLastTwo_8 : decode bD_foretellByLastTwo 8 = .ok (.ldc2_w 23, 3) := by decide +kernel
theorem dD_foretellByLastTwo_11 : decode bD_foretellByLastTwo 11 = .ok (.lreturn, 1) := by decide +kernel
theorem dD_foretellByLastTwo_12 : decode bD_foretellByLastTwo 12 = .ok (.aload_n 0, 1) := by decide +kernel
theorem dD_foretellByLastTwo_13 : decode bD_foretellByLastTwo 13 = .ok (.getfield 15, 3) := by decide +kernel
theorem dD_foretellByLastTwo_16 : decode bD_foretellByLastTwo 16 = .ok (.aload_n 0, 1) := by decide +kernel
theorem dD_foretellByLastTwo_17 : decode bD_foretellByLastTwo 17 = .ok (.getfield 19, 3) := by decide +kernel
theorem dD_foretellByLastTwo_20 : decode bD_foretellByLastTwo 20 = .ok (.iconst 2, 1) := by decide +kernel
theorem dD_foretellByLastTwo_21 : decode bD_foretellByLastTwo 21 = .ok (.isub, 1) := by decide +kernel
theorem dD_foretellByLastTwo_22 : decode bD_foretellByLastTwo 22 = .ok (.laload, 1) := by decide +kernel
theorem dD_foretellByLastTwo_23 : decode bD_foretellByLastTwo 23 = .ok (.lstore_n 1, 1) := by decide +kernel
theorem dD_foretellByLastTwo_24 : decode bD_foretellByLastTwo 24 = .ok (.aload_n 0, 1) := by decide +kernel
theorem dD_foretellByLastTwo_25 : decode bD_foretellByLastTwo 25 = .ok (.getfield 15, 3) := by decide +kernel
theorem dD_foretellByLastTwo_28 : decode bD_foretellByLastTwo 28 = .ok (.aload_n 0, 1) := by decide +kernel
theorem dD_foretellByLastTwo_29 : decode bD_foretellByLastTwo 29 = .ok (.getfield 19, 3) := by decide +kernel
theorem dD_foretellByLastTwo_32 : decode bD_foretellByLastTwo 32 = .ok (.iconst 1, 1) := by decide +kernel
theorem dD_foretellByLastTwo_33 : decode bD_foretellByLastTwo 33 = .ok (.isub, 1) := by decide +kernel
theorem dD_foretellByLastTwo_34 : decode bD_foretellByLastTwo 34 = .ok (.laload, 1) := by decide +kernel
theorem dD_foretellByLastTwo_35 : decode bD_foretellByLastTwo 35 = .ok (.lstore_n 3, 1) := by decide +kernel
theorem dD_foretellByLastTwo_36 : decode bD_foretellByLastTwo 36 = .ok (.aload_n 0, 1) := by decide +kernel
theorem dD_foretellByLastTwo_37 : decode bD_foretellByLastTwo 37 = .ok (.getfield 9, 3) := by decide +kernel
theorem dD_foretellByLastTwo_40 : decode bD_foretellByLastTwo 40 = .ok (.aload_n 0, 1) := by decide +kernel
theorem dD_foretellByLastTwo_41 : decode bD_foretellByLastTwo 41 = .ok (.getfield 19, 3) := by decide +kernel
theorem dD_foretellByLastTwo_44 : decode bD_foretellByLastTwo 44 = .ok (.iconst 2, 1) := by decide +kernel
theorem dD_foretellByLastTwo_45 : decode bD_foretellByLastTwo 45 = .ok (.isub, 1) := by decide +kernel
theorem dD_foretellByLastTwo_46 : decode bD_foretellByLastTwo 46 = .ok (.iaload, 1) := by decide +kernel
theorem dD_foretellByLastTwo_47 : decode bD_foretellByLastTwo 47 = .ok (.i2l, 1) := by decide +kernel
theorem dD_foretellByLastTwo_48 : decode bD_foretellByLastTwo 48 = .ok (.lstore 5, 2) := by decide +kernel
theorem dD_foretellByLastTwo_50 : decode bD_foretellByLastTwo 50 = .ok (.aload_n 0, 1) := by decide +kernel
theorem dD_foretellByLastTwo_51 : decode bD_foretellByLastTwo 51 = .ok (.getfield 9, 3) := by decide +kernel
theorem dD_foretellByLastTwo_54 : decode bD_foretellByLastTwo 54 = .ok (.aload_n 0, 1) := by decide +kernel
theorem dD_foretellByLastTwo_55 : decode bD_foretellByLastTwo 55 = .ok (.getfield 19, 3) := by decide +kernel
theorem dD_foretellByLastTwo_58 : decode bD_foretellByLastTwo 58 = .ok (.iconst 1, 1) := by decide +kernel
theorem dD_foretellByLastTwo_59 : decode bD_foretellByLastTwo 59 = .ok (.isub, 1) := by decide +kernel
theorem dD_foretellByLastTwo_60 : decode bD_foretellByLastTwo 60 = .ok (.iaload, 1) := by decide +kernel
theorem dD_foretellByLastTwo_61 : decode bD_foretellByLastTwo 61 = .ok (.i2l, 1) := by decide +kernel
theorem dD_foretellByLastTwo_62 : decode bD_foretellByLastTwo 62 = .ok (.lstore 7, 2) := by decide +kernel
theorem dD_foretellByLastTwo_64 : decode bD_foretellByLastTwo 64 = .ok (.lload_n 1, 1) := by decide +kernel
theorem dD_foretellByLastTwo_65 : decode bD_foretellByLastTwo 65 = .ok (.invokestatic 25, 3) := by decide +kernel
theorem dD_foretellByLastTwo_68 : decode bD_foretellByLastTwo 68 = .ok (.ifCond .ne 10, 3) := by decide +kernel
theorem dD_foretellByLastTwo_71 : decode bD_foretellByLastTwo 71 = .ok (.lload_n 3, 1) := by decide +kernel
theorem dD_foretellByLastTwo_72 : decode bD_foretellByLastTwo 72 = .ok (.invokestatic 25, 3) := by decide +kernel
theorem dD_foretellByLastTwo_75 : decode bD_foretellByLastTwo 75 = .ok (.ifCond .eq 7, 3) := by decide +kernel
theorem dD_foretellByLastTwo_78 : decode bD_foretellByLastTwo 78 = .ok (.ldc2_w 23, 3) := by decide +kernel
theorem dD_foretellByLastTwo_81 : decode bD_foretellByLastTwo 81 = .ok (.lreturn, 1) := by decide +kernel
theorem dD_foretellByLastTwo_82 : decode bD_foretellByLastTwo 82 = .ok (.lload 7, 2) := by decide +kernel
theorem dD_foretellByLastTwo_84 : decode bD_foretellByLastTwo 84 = .ok (.lload 5, 2) := by decide +kernel
theorem dD_foretellByLastTwo_86 : decode bD_foretellByLastTwo 86 = .ok (.lsub, 1) := by decide +kernel
theorem dD_foretellByLastTwo_87 : decode bD_foretellByLastTwo 87 = .ok (.lload_n 1, 1) := by decide +kernel
theorem dD_foretellByLastTwo_88 : decode bD_foretellByLastTwo 88 = .ok (.lmul, 1) := by decide +kernel
theorem dD_foretellByLastTwo_89 : decode bD_foretellByLastTwo 89 = .ok (.lload_n 3, 1) := by decide +kernel
theorem dD_foretellByLastTwo_90 : decode bD_foretellByLastTwo 90 = .ok (.lmul, 1) := by decide +kernel
theorem dD_foretellByLastTwo_91 : decode bD_foretellByLastTwo 91 = .ok (.lload 7, 2) := by decide +kernel
theorem dD_foretellByLastTwo_93 : decode bD_foretellByLastTwo 93 = .ok (.lload_n 1, 1) := by decide +kernel
theorem dD_foretellByLastTwo_94 : decode bD_foretellByLastTwo 94 = .ok (.lmul, 1) := by decide +kernel
theorem dD_foretellByLastTwo_95 : decode bD_foretellByLastTwo 95 = .ok (.lload 5, 2) := by decide +kernel
theorem dD_foretellByLastTwo_97 : decode bD_foretellByLastTwo 97 = .ok (.lload_n 3, 1) := by decide +kernel
theorem dD_foretellByLastTwo_98 : decode bD_foretellByLastTwo 98 = .ok (.lmul, 1) := by decide +kernel
theorem dD_foretellByLastTwo_99 : decode bD_foretellByLastTwo 99 = .ok (.lsub, 1) := by decide +kernel
theorem dD_foretellByLastTwo_100 : decode bD_foretellByLastTwo 100 = .ok (.invokestatic 31, 3) := by decide +kernel
theorem dD_foretellByLastTwo_103 : decode bD_foretellByLastTwo 103 = .ok (.lreturn, 1) := by decide +kernel
theorem dD_foretellByFirstAndLast_0 : decode bD_foretellByFirstAndLast 0 = .ok (.aload_n 0, 1) := by decide +kernel
theorem dD_foretellByFirstAndLast_1 : decode bD_foretellByFirstAndLast 1 = .ok (.getfield 19, 3) := by decide +kernel
theorem dD_foretellByFirstAndLast_4 : decode bD_foretellByFirstAndLast 4 = .ok (.iconst 2, 1) := by decide +kernel
theorem dD_foretellByFirstAndLast_5 : decode bD_foretellByFirstAndLast 5 = .ok (.if_icmp .ge 7, 3) := by decide +kernel
theorem dD_foretellByFirstAndLast_8 : decode bD_foretellByFirstAndLast 8 = .ok (.ldc2_w 23, 3) := by decide +kernel
theorem dD_foretellByFirstAndLast_11 : decode bD_foretellByFirstAndLast 11 = .ok (.lreturn, 1) := by decide +kernel
theorem dD_foretellByFirstAndLast_12 : decode bD_foretellByFirstAndLast 12 = .ok (.aload_n 0, 1) := by decide +kernel
theorem dD_foretellByFirstAndLast_13 : decode bD_foretellByFirstAndLast 13 = .ok (.getfield 15, 3) := by decide +kernel
theorem dD_foretellByFirstAndLast_16 : decode bD_foretellByFirstAndLast 16 = .ok (.iconst 0, 1) := by decide +kernel
theorem dD_foretellByFirstAndLast_17 : decode bD_foretellByFirstAndLast 17 = .ok (.laload, 1) := by decide +kernel
theorem dD_foretellByFirstAndLast_18 : decode bD_foretellByFirstAndLast 18 = .ok (.lstore_n 1, 1) := by decide +kernel
theorem dD_foretellByFirstAndLast_19 : decode bD_foretellByFirstAndLast 19 = .ok (.aload_n 0, 1) := by decide +kernel
theorem dD_foretellByFirstAndLast_20 : decode bD_foretellByFirstAndLast 20 = .ok (.getfield 15, 3) := by decide +kernel
theorem dD_foretellByFirstAndLast_23 : decode bD_foretellByFirstAndLast 23 = .ok (.aload_n 0, 1) := by decide +kernel
theorem dD_foretellByFirstAndLast_24 : decode bD_foretellByFirstAndLast 24 = .ok (.getfield 19, 3) := by decide +kernel
theorem dD_foretellByFirstAndLast_27 : decode bD_foretellByFirstAndLast 27 = .ok (.iconst 1, 1) := by decide +kernel
theorem dD_foretellByFirstAndLast_28 : decode bD_foretellByFirstAndLast 28 = .ok (.isub, 1) := by decide +kernel
theorem dD_foretellByFirstAndLast_29 : decode bD_foretellByFirstAndLast 29 = .ok (.laload, 1) := by decide +kernel
theorem dD_foretellByFirstAndLast_30 : decode bD_foretellByFirstAndLast 30 = .ok (.lstore_n 3, 1) := by decide +kernel
theorem dD_foretellByFirstAndLast_31 : decode bD_foretellByFirstAndLast 31 = .ok (.aload_n 0, 1) := by decide +kernel
theorem dD_foretellByFirstAndLast_32 : decode bD_foretellByFirstAndLast 32 = .ok (.getfield 9, 3) := by decide +kernel
theorem dD_foretellByFirstAndLast_35 : decode bD_foretellByFirstAndLast 35 = .ok (.aload_n 0, 1) := by decide +kernel
theorem dD_foretellByFirstAndLast_36 : decode bD_foretellByFirstAndLast 36 = .ok (.getfield 19, 3) := by decide +kernel
theorem dD_foretellByFirstAndLast_39 : decode bD_foretellByFirstAndLast 39 = .ok (.iconst 1, 1) := by decide +kernel
theorem dD_foretellByFirstAndLast_40 : decode bD_foretellByFirstAndLast 40 = .ok (.isub, 1) := by decide +kernel
theorem dD_foretellByFirstAndLast_41 : decode bD_foretellByFirstAndLast 41 = .ok (.iaload, 1) := by decide +kernel
theorem dD_foretellByFirstAndLast_42 : decode bD_foretellByFirstAndLast 42 = .ok (.aload_n 0, 1) := by decide +kernel
theorem dD_foretellByFirstAndLast_43 : decode bD_foretellByFirstAndLast 43 = .ok (.getfield 9, 3) := by decide +kernel
theorem dD_foretellByFirstAndLast_46 : decode bD_foretellByFirstAndLast 46 = .ok (.iconst 0, 1) := by decide +kernel
theorem dD_foretellByFirstAndLast_47 : decode bD_foretellByFirstAndLast 47 = .ok (.iaload, 1) := by decide +kernel
theorem dD_foretellByFirstAndLast_48 : decode bD_foretellByFirstAndLast 48 = .ok (.isub, 1) := by decide +kernel
theorem dD_foretellByFirstAndLast_49 : decode bD_foretellByFirstAndLast 49 = .ok (.i2l, 1) := by decide +kernel
theorem dD_foretellByFirstAndLast_50 : decode bD_foretellByFirstAndLast 50 = .ok (.lstore 5, 2) := by decide +kernel
theorem dD_foretellByFirstAndLast_52 : decode bD_foretellByFirstAndLast 52 = .ok (.lload_n 1, 1) := by decide +kernel
theorem dD_foretellByFirstAndLast_53 : decode bD_foretellByFirstAndLast 53 = .ok (.invokestatic 25, 3) := by decide +kernel
theorem dD_foretellByFirstAndLast_56 : decode bD_foretellByFirstAndLast 56 = .ok (.ifCond .ne 17, 3) := by decide +kernel
theorem dD_foretellByFirstAndLast_59 : decode bD_foretellByFirstAndLast 59 = .ok (.lload_n 3, 1) := by decide +kernel
theorem dD_foretellByFirstAndLast_60 : decode bD_foretellByFirstAndLast 60 = .ok (.invokestatic 25, 3) := by decide +kernel
theorem dD_foretellByFirstAndLast_63 : decode bD_foretellByFirstAndLast 63 = .ok (.ifCond .ne 10, 3) := by decide +kernel
theorem dD_foretellByFirstAndLast_66 : decode bD_foretellByFirstAndLast 66 = .ok (.lload 5, 2) := by decide +kernel
theorem dD_foretellByFirstAndLast_68 : decode bD_foretellByFirstAndLast 68 = .ok (.lconst 0, 1) := by decide +kernel
theorem dD_foretellByFirstAndLast_69 : decode bD_foretellByFirstAndLast 69 = .ok (.lcmp, 1) := by decide +kernel
theorem dD_foretellByFirstAndLast_70 : decode bD_foretellByFirstAndLast 70 = .ok (.ifCond .ne 7, 3) := by decide +kernel
theorem dD_foretellByFirstAndLast_73 : decode bD_foretellByFirstAndLast 73 = .ok (.ldc2_w 23, 3) := by decide +kernel
theorem dD_foretellByFirstAndLast_76 : decode bD_foretellByFirstAndLast 76 = .ok (.lreturn, 1) := by decide +kernel
theorem dD_foretellByFirstAndLast_77 : decode bD_foretellByFirstAndLast 77 = .ok (.lload_n 3, 1) := by decide +kernel
theorem dD_foretellByFirstAndLast_78 : decode bD_foretellByFirstAndLast 78 = .ok (.lload_n 3, 1) := by decide +kernel
theorem dD_foretellByFirstAndLast_79 : decode bD_foretellByFirstAndLast 79 = .ok (.lload_n 1, 1) := by decide +kernel
theorem dD_foretellByFirstAndLast_80 : decode bD_foretellByFirstAndLast 80 = .ok (.lsub, 1) := by decide +kernel
theorem dD_foretellByFirstAndLast_81 : decode bD_foretellByFirstAndLast 81 = .ok (.ldc2_w 35, 3) := by decide +kernel
theorem dD_foretellByFirstAndLast_84 : decode bD_foretellByFirstAndLast 84 = .ok (.lmul, 1) := by decide +kernel
theorem dD_foretellByFirstAndLast_85 : decode bD_foretellByFirstAndLast 85 = .ok (.lload 5, 2) := by decide +kernel
theorem dD_foretellByFirstAndLast_87 : decode bD_foretellByFirstAndLast 87 = .ok (.ldiv, 1) := by decide +kernel
theorem dD_foretellByFirstAndLast_88 : decode bD_foretellByFirstAndLast 88 = .ok (.ladd, 1) := by decide +kernel
theorem dD_foretellByFirstAndLast_89 : decode bD_foretellByFirstAndLast 89 = .ok (.lreturn, 1) := by decide +kernel
theorem dX_off_0 : decode bX_off 0 = .ok (.lload_n 1, 1) := by decide +kernel
theorem dX_off_1 : decode bX_off 1 = .ok (.lconst 0, 1) := by decide +kernel
theorem dX_off_2 : decode bX_off 2 = .ok (.lcmp, 1) := by decide +kernel
theorem dX_off_3 : decode bX_off 3 = .ok (.ifCond .ge 5, 3) := by decide +kernel
theorem dX_off_6 : decode bX_off 6 = .ok (.iconst (-1), 1) := by decide +kernel
theorem dX_off_7 : decode bX_off 7 = .ok (.ireturn, 1) := by decide +kernel
theorem dX_off_8 : decode bX_off 8 = .ok (.iconst 0, 1) := by decide +kernel
theorem dX_off_9 : decode bX_off 9 = .ok (.istore_n 3, 1) := by decide +kernel
theorem dX_off_10 : decode bX_off 10 = .ok (.iconst 0, 1) := by decide +kernel
theorem dX_off_11 : decode bX_off 11 = .ok (.istore 4, 2) := by decide +kernel
theorem dX_off_13 : decode bX_off 13 = .ok (.iload 4, 2) := by decide +kernel
theorem dX_off_15 : decode bX_off 15 = .ok (.aload_n 0, 1) := by decide +kernel
theorem dX_off_16 : decode bX_off 16 = .ok (.getfield 26, 3) := by decide +kernel
theorem dX_off_19 : decode bX_off 19 = .ok (.getfield 146, 3) := by decide +kernel
theorem dX_off_22 : decode bX_off 22 = .ok (.if_icmp .ge 62, 3) := by decide +kernel
theorem dX_off_25 : decode bX_off 25 = .ok (.aload_n 0, 1) := by decide +kernel
theorem dX_off_26 : decode bX_off 26 = .ok (.getfield 26, 3) := by decide +kernel
theorem dX_off_29 : decode bX_off 29 = .ok (.getfield 159, 3) := by decide +kernel
theorem dX_off_32 : decode bX_off 32 = .ok (.iload 4, 2) := by decide +kernel
theorem dX_off_34 : decode bX_off 34 = .ok (.iaload, 1) := by decide +kernel
theorem dX_off_35 : decode bX_off 35 = .ok (.istore 5, 2) := by decide +kernel
theorem dX_off_37 : decode bX_off 37 = .ok (.iload 5, 2) := by decide +kernel
theorem dX_off_39 : decode bX_off 39 = .ok (.aload_n 0, 1) := by decide +kernel
theorem dX_off_40 : decode bX_off 40 = .ok (.getfield 35, 3) := by decide +kernel
theorem dX_off_43 : decode bX_off 43 = .ok (.getfield 46, 3) := by decide +kernel
theorem dX_off_46 : decode bX_off 46 = .ok (.if_icmp .gt 32, 3) := by decide +kernel
theorem dX_off_49 : decode bX_off 49 = .ok (.aload_n 0, 1) := by decide +kernel
theorem dX_off_50 : decode bX_off 50 = .ok (.getfield 26, 3) := by decide +kernel
theorem dX_off_53 : decode bX_off 53 = .ok (.getfield 161, 3) := by decide +kernel
theorem dX_off_56 : decode bX_off 56 = .ok (.iload 4, 2) := by decide +kernel
theorem dX_off_58 : decode bX_off 58 = .ok (.laload, 1) := by decide +kernel
theorem dX_off_59 : decode bX_off 59 = .ok (.aload_n 0, 1) := by decide +kernel
theorem dX_off_60 : decode bX_off 60 = .ok (.getfield 42, 3) := by decide +kernel
theorem dX_off_63 : decode bX_off 63 = .ok (.iload 5, 2) := by decide +kernel
theorem dX_off_65 : decode bX_off 65 = .ok (.laload, 1) := by decide +kernel
theorem dX_off_66 : decode bX_off 66 = .ok (.lsub, 1) := by decide +kernel
theorem dX_off_67 : decode bX_off 67 = .ok (.invokestatic 164, 3) := by decide +kernel
theorem dX_off_70 : decode bX_off 70 = .ok (.lload_n 1, 1) := by decide +kernel
theorem dX_off_71 : decode bX_off 71 = .ok (.lcmp, 1) := by decide +kernel
theorem dX_off_72 : decode bX_off 72 = .ok (.ifCond .le 6, 3) := by decide +kernel
theorem dX_off_75 : decode bX_off 75 = .ok (.iinc 3 1, 3) := by decide +kernel
theorem dX_off_78 : decode bX_off 78 = .ok (.iinc 4 1, 3) := by decide +kernel
theorem dX_off_81 : decode bX_off 81 = .ok (.goto (-68), 3) := by decide +kernel
theorem dX_off_84 : decode bX_off 84 = .ok (.iload_n 3, 1) := by decide +kernel
theorem dX_off_85 : decode bX_off 85 = .ok (.ireturn, 1) := by decide +kernel
theorem dX_count_0 : decode bX_count 0 = .ok (.iload_n 1, 1) := by decide +kernel
theorem dX_count_1 : decode bX_count 1 = .ok (.tableswitch 88 0 5 #[39, 47, 55, 63, 71, 79], 39) := by decide +kernel
theorem dX_count_40 : decode bX_count 40 = .ok (.aload_n 0, 1) := by decide +kernel
theorem dX_count_41 : decode bX_count 41 = .ok (.getfield 10, 3) := by decide +kernel
theorem dX_count_44 : decode bX_count 44 = .ok (.getfield 93, 3) := by decide +kernel
theorem dX_count_47 : decode bX_count 47 = .ok (.ireturn, 1) := by decide +kernel
theorem dX_count_48 : decode bX_count 48 = .ok (.aload_n 0, 1) := by decide +kernel
theorem dX_count_49 : decode bX_count 49 = .ok (.getfield 10, 3) := by decide +kernel
theorem dX_count_52 : decode bX_count 52 = .ok (.getfield 57, 3) := by decide +kernel
theorem dX_count_55 : decode bX_count 55 = .ok (.ireturn, 1) := by decide +kernel
theorem dX_count_56 : decode bX_count 56 = .ok (.aload_n 0, 1) := by decide +kernel
theorem dX_count_57 : decode bX_count 57 = .ok (.getfield 19, 3) := by decide +kernel
theorem dX_count_60 : decode bX_count 60 = .ok (.getfield 50, 3) := by decide +kernel
theorem dX_count_63 : decode bX_count 63 = .ok (.ireturn, 1) := by decide +kernel
theorem dX_count_64 : decode bX_count 64 = .ok (.aload_n 0, 1) := by decide +kernel
theorem dX_count_65 : decode bX_count 65 = .ok (.getfield 35, 3) := by decide +kernel
theorem dX_count_68 : decode bX_count 68 = .ok (.getfield 46, 3) := by decide +kernel
theorem dX_count_71 : decode bX_count 71 = .ok (.ireturn, 1) := by decide +kernel
theorem dX_count_72 : decode bX_count 72 = .ok (.aload_n 0, 1) := by decide +kernel
theorem dX_count_73 : decode bX_count 73 = .ok (.getfield 26, 3) := by decide +kernel
theorem dX_count_76 : decode bX_count 76 = .ok (.getfield 146, 3) := by decide +kernel
theorem dX_count_79 : decode bX_count 79 = .ok (.ireturn, 1) := by decide +kernel
theorem dX_count_80 : decode bX_count 80 = .ok (.aload_n 0, 1) := by decide +kernel
theorem dX_count_81 : decode bX_count 81 = .ok (.getfield 35, 3) := by decide +kernel
theorem dX_count_84 : decode bX_count 84 = .ok (.getfield 119, 3) := by decide +kernel
theorem dX_count_87 : decode bX_count 87 = .ok (.l2i, 1) := by decide +kernel
theorem dX_count_88 : decode bX_count 88 = .ok (.ireturn, 1) := by decide +kernel
theorem dX_count_89 : decode bX_count 89 = .ok (.iconst (-1), 1) := by decide +kernel
theorem dX_count_90 : decode bX_count 90 = .ok (.ireturn, 1) := by decide +kernel
