theorem dX11_metal_88 : decode cX11_metal 88 = .ok (.aload 7, 2) := by decide +kernel
theorem dX11_metal_90 : decode cX11_metal 90 = .ok (.iload 4, 2) := by decide +kernel
theorem dX11_metal_92 : decode cX11_metal 92 = .ok (.putfield 100, 3) := by decide +kernel
theorem dX11_metal_95 : decode cX11_metal 95 = .ok (.aload 7, 2) := by decide +kernel
theorem dX11_metal_97 : decode cX11_metal 97 = .ok (.iload 5, 2) := by decide +kernel
theorem dX11_metal_99 : decode cX11_metal 99 = .ok (.putfield 103, 3) := by decide +kernel
theorem dX11_metal_102 : decode cX11_metal 102 = .ok (.aload 7, 2) := by decide +kernel
theorem dX11_metal_104 : decode cX11_metal 104 = .ok (.iload 6, 2) := by decide +kernel
theorem dX11_metal_106 : decode cX11_metal 106 = .ok (.putfield 106, 3) := by decide +kernel
theorem dX11_metal_109 : decode cX11_metal 109 = .ok (.iconst 1, 1) := by decide +kernel
theorem dX11_metal_110 : decode cX11_metal 110 = .ok (.ireturn, 1) := by decide +kernel
theorem dX11_set_0 : decode cX11_set 0 = .ok (.aload_n 0, 1) := by decide +kernel
theorem dX11_set_1 : decode cX11_set 1 = .ok (.getfield 10, 3) := by decide +kernel
theorem dX11_set_4 : decode cX11_set 4 = .ok (.iload_n 1, 1) := by decide +kernel
theorem dX11_set_5 : decode cX11_set 5 = .ok (.iload_n 2, 1) := by decide +kernel
theorem dX11_set_6 : decode cX11_set 6 = .ok (.invokevirtual 109, 3) := by decide +kernel
theorem dX11_set_9 : decode cX11_set 9 = .ok (.ifCond .ne 6, 3) := by decide +kernel
theorem dX11_set_12 : decode cX11_set 12 = .ok (.bipush (-3), 2) := by decide +kernel
theorem dX11_set_14 : decode cX11_set 14 = .ok (.ireturn, 1) := by decide +kernel
theorem dX11_set_15 : decode cX11_set 15 = .ok (.aload_n 0, 1) := by decide +kernel
theorem dX11_set_16 : decode cX11_set 16 = .ok (.getfield 10, 3) := by decide +kernel
theorem dX11_set_19 : decode cX11_set 19 = .ok (.iload_n 1, 1) := by decide +kernel
theorem dX11_set_20 : decode cX11_set 20 = .ok (.invokevirtual 113, 3) := by decide +kernel
theorem dX11_set_23 : decode cX11_set 23 = .ok (.istore_n 3, 1) := by decide +kernel
theorem dX11_set_24 : decode cX11_set 24 = .ok (.aload_n 0, 1) := by decide +kernel
theorem dX11_set_25 : decode cX11_set 25 = .ok (.getfield 10, 3) := by decide +kernel
theorem dX11_set_28 : decode cX11_set 28 = .ok (.iload_n 1, 1) := by decide +kernel
theorem dX11_set_29 : decode cX11_set 29 = .ok (.iload_n 2, 1) := by decide +kernel
theorem dX11_set_30 : decode cX11_set 30 = .ok (.invokevirtual 117, 3) := by decide +kernel
theorem dX11_set_33 : decode cX11_set 33 = .ok (.iload_n 3, 1) := by decide +kernel
theorem dX11_set_34 : decode cX11_set 34 = .ok (.ireturn, 1) := by decide +kernel
theorem dX11_puller_0 : decode cX11_puller 0 = .ok (.aload_n 0, 1) := by decide +kernel
theorem dX11_puller_1 : decode cX11_puller 1 = .ok (.iload_n 1, 1) := by decide +kernel
theorem dX11_puller_2 : decode cX11_puller 2 = .ok (.invokevirtual 121, 3) := by decide +kernel
theorem dX11_puller_5 : decode cX11_puller 5 = .ok (.astore 4, 2) := by decide +kernel
theorem dX11_puller_7 : decode cX11_puller 7 = .ok (.aload 4, 2) := by decide +kernel
theorem dX11_puller_9 : decode cX11_puller 9 = .ok (.ifnonnull 6, 3) := by decide +kernel
theorem dX11_puller_12 : decode cX11_puller 12 = .ok (.bipush (-2), 2) := by decide +kernel
theorem dX11_puller_14 : decode cX11_puller 14 = .ok (.ireturn, 1) := by decide +kernel
theorem dX11_puller_15 : decode cX11_puller 15 = .ok (.iload_n 2, 1) := by decide +kernel
theorem dX11_puller_16 : decode cX11_puller 16 = .ok (.iconst 0, 1) := by decide +kernel
theorem dX11_puller_17 : decode cX11_puller 17 = .ok (.ldc 125, 2) := by decide +kernel
theorem dX11_puller_19 : decode cX11_puller 19 = .ok (.invokestatic 89, 3) := by decide +kernel
theorem dX11_puller_22 : decode cX11_puller 22 = .ok (.ifCond .eq 15, 3) := by decide +kernel
theorem dX11_puller_25 : decode cX11_puller 25 = .ok (.iload_n 3, 1) := by decide +kernel
theorem dX11_puller_26 : decode cX11_puller 26 = .ok (.bipush 10, 2) := by decide +kernel
theorem dX11_puller_28 : decode cX11_puller 28 = .ok (.sipush 1000, 3) := by decide +kernel
theorem dX11_puller_31 : decode cX11_puller 31 = .ok (.invokestatic 89, 3) := by decide +kernel
theorem dX11_puller_34 : decode cX11_puller 34 = .ok (.ifCond .ne 6, 3) := by decide +kernel
theorem dX11_puller_37 : decode cX11_puller 37 = .ok (.bipush (-3), 2) := by decide +kernel
theorem dX11_puller_39 : decode cX11_puller 39 = .ok (.ireturn, 1) := by decide +kernel
theorem dX11_puller_40 : decode cX11_puller 40 = .ok (.aload 4, 2) := by decide +kernel
theorem dX11_puller_42 : decode cX11_puller 42 = .ok (.iload_n 2, 1) := by decide +kernel
theorem dX11_puller_43 : decode cX11_puller 43 = .ok (.putfield 126, 3) := by decide +kernel
theorem dX11_puller_46 : decode cX11_puller 46 = .ok (.aload 4, 2) := by decide +kernel
theorem dX11_puller_48 : decode cX11_puller 48 = .ok (.iload_n 3, 1) := by decide +kernel
theorem dX11_puller_49 : decode cX11_puller 49 = .ok (.putfield 129, 3) := by decide +kernel
theorem dX11_puller_52 : decode cX11_puller 52 = .ok (.iconst 1, 1) := by decide +kernel
theorem dX11_puller_53 : decode cX11_puller 53 = .ok (.ireturn, 1) := by decide +kernel
theorem dX11_hole_0 : decode cX11_hole 0 = .ok (.aload_n 0, 1) := by decide +kernel
theorem dX11_hole_1 : decode cX11_hole 1 = .ok (.iload_n 1, 1) := by decide +kernel
theorem dX11_hole_2 : decode cX11_hole 2 = .ok (.invokevirtual 132, 3) := by decide +kernel
theorem dX11_hole_5 : decode cX11_hole 5 = .ok (.astore_n 3, 1) := by decide +kernel
theorem dX11_hole_6 : decode cX11_hole 6 = .ok (.aload_n 3, 1) := by decide +kernel
theorem dX11_hole_7 : decode cX11_hole 7 = .ok (.ifnonnull 6, 3) := by decide +kernel
theorem dX11_hole_10 : decode cX11_hole 10 = .ok (.bipush (-2), 2) := by decide +kernel
theorem dX11_hole_12 : decode cX11_hole 12 = .ok (.ireturn, 1) := by decide +kernel
theorem dX11_hole_13 : decode cX11_hole 13 = .ok (.iload_n 2, 1) := by decide +kernel
theorem dX11_hole_14 : decode cX11_hole 14 = .ok (.invokestatic 136, 3) := by decide +kernel
theorem dX11_hole_17 : decode cX11_hole 17 = .ok (.ifCond .ne 6, 3) := by decide +kernel
theorem dX11_hole_20 : decode cX11_hole 20 = .ok (.bipush (-3), 2) := by decide +kernel
theorem dX11_hole_22 : decode cX11_hole 22 = .ok (.ireturn, 1) := by decide +kernel
theorem dX11_hole_23 : decode cX11_hole 23 = .ok (.aload_n 3, 1) := by decide +kernel
theorem dX11_hole_24 : decode cX11_hole 24 = .ok (.iload_n 2, 1) := by decide +kernel
theorem dX11_hole_25 : decode cX11_hole 25 = .ok (.invokevirtual 140, 3) := by decide +kernel
theorem dX11_hole_28 : decode cX11_hole 28 = .ok (.ireturn, 1) := by decide +kernel
theorem dX11_told_0 : decode cX11_told 0 = .ok (.aload_n 0, 1) := by decide +kernel
theorem dX11_told_1 : decode cX11_told 1 = .ok (.iload_n 1, 1) := by decide +kernel
theorem dX11_told_2 : decode cX11_told 2 = .ok (.iload_n 2, 1) := by decide +kernel
theorem dX11_told_3 : decode cX11_told 3 = .ok (.invokevirtual 143, 3) := by decide +kernel
theorem dX11_told_6 : decode cX11_told 6 = .ok (.astore 4, 2) := by decide +kernel
theorem dX11_told_8 : decode cX11_told 8 = .ok (.aload 4, 2) := by decide +kernel
theorem dX11_told_10 : decode cX11_told 10 = .ok (.ifnonnull 6, 3) := by decide +kernel
theorem dX11_told_13 : decode cX11_told 13 = .ok (.bipush (-2), 2) := by decide +kernel
theorem dX11_told_15 : decode cX11_told 15 = .ok (.ireturn, 1) := by decide +kernel
theorem dX11_told_16 : decode cX11_told 16 = .ok (.iload_n 3, 1) := by decide +kernel
theorem dX11_told_17 : decode cX11_told 17 = .ok (.tableswitch 73 0 4 #[35, 41, 47, 53, 59], 35) := by decide +kernel
theorem dX11_told_52 : decode cX11_told 52 = .ok (.aload 4, 2) := by decide +kernel
theorem dX11_told_54 : decode cX11_told 54 = .ok (.getfield 147, 3) := by decide +kernel
theorem dX11_told_57 : decode cX11_told 57 = .ok (.ireturn, 1) := by decide +kernel
theorem dX11_told_58 : decode cX11_told 58 = .ok (.aload 4, 2) := by decide +kernel
theorem dX11_told_60 : decode cX11_told 60 = .ok (.getfield 152, 3) := by decide +kernel
theorem dX11_told_63 : decode cX11_told 63 = .ok (.ireturn, 1) := by decide +kernel
theorem dX11_told_64 : decode cX11_told 64 = .ok (.aload 4, 2) := by decide +kernel
theorem dX11_told_66 : decode cX11_told 66 = .ok (.invokevirtual 155, 3) := by decide +kernel
theorem dX11_told_69 : decode cX11_told 69 = .ok (.ireturn, 1) := by decide +kernel
theorem dX11_told_70 : decode cX11_told 70 = .ok (.aload 4, 2) := by decide +kernel
theorem dX11_told_72 : decode cX11_told 72 = .ok (.getfield 159, 3) := by decide +kernel
theorem dX11_told_75 : decode cX11_told 75 = .ok (.ireturn, 1) := by decide +kernel
theorem dX11_told_76 : decode cX11_told 76 = .ok (.aload 4, 2) := by decide +kernel
theorem dX11_told_78 : decode cX11_told 78 = .ok (.invokevirtual 162, 3) := by decide +kernel
theorem dX11_told_81 : decode cX11_told 81 = .ok (.ifCond .eq 7, 3) := by decide +kernel
theorem dX11_told_84 : decode cX11_told 84 = .ok (.iconst 1, 1) := by decide +kernel
theorem dX11_told_85 : decode cX11_told 85 = .ok (.goto 4, 3) := by decide +kernel
theorem dX11_told_88 : decode cX11_told 88 = .ok (.iconst 0, 1) := by decide +kernel
theorem dX11_told_89 : decode cX11_told 89 = .ok (.ireturn, 1) := by decide +kernel
theorem dX11_told_90 : decode cX11_told 90 = .ok (.bipush (-3), 2) := by decide +kernel
theorem dX11_told_92 : decode cX11_told 92 = .ok (.ireturn, 1) := by decide +kernel
theorem dX11_gauge_0 : decode cX11_gauge 0 = .ok (.aload_n 0, 1) := by decide +kernel
theorem dX11_gauge_1 : decode cX11_gauge 1 = .ok (.iload_n 1, 1) := by decide +kernel
theorem dX11_gauge_2 : decode cX11_gauge 2 = .ok (.iload_n 2, 1) := by decide +kernel
theorem dX11_gauge_3 : decode cX11_gauge 3 = .ok (.invokevirtual 143, 3) := by decide +kernel
theorem dX11_gauge_6 : decode cX11_gauge 6 = .ok (.astore_n 3, 1) := by decide +kernel
theorem dX11_gauge_7 : decode cX11_gauge 7 = .ok (.aload_n 3, 1) := by decide +kernel
theorem dX11_gauge_8 : decode cX11_gauge 8 = .ok (.ifnonnull 8, 3) := by decide +kernel
theorem dX11_gauge_11 : decode cX11_gauge 11 = .ok (.bipush (-2), 2) := by decide +kernel
theorem dX11_gauge_13 : decode cX11_gauge 13 = .ok (.goto 12, 3) := by decide +kernel
theorem dX11_gauge_16 : decode cX11_gauge 16 = .ok (.aload_n 3, 1) := by decide +kernel
theorem dX11_gauge_17 : decode cX11_gauge 17 = .ok (.invokevirtual 155, 3) := by decide +kernel
theorem dX11_gauge_20 : decode cX11_gauge 20 = .ok (.aload_n 3, 1) := by decide +kernel
theorem dX11_gauge_21 : decode cX11_gauge 21 = .ok (.getfield 147, 3) := by decide +kernel
theorem dX11_gauge_24 : decode cX11_gauge 24 = .ok (.isub, 1) := by decide +kernel
theorem dX11_gauge_25 : decode cX11_gauge 25 = .ok (.ireturn, 1) := by decide +kernel
theorem dX11_ream_0 : decode cX11_ream 0 = .ok (.aload_n 0, 1) := by decide +kernel
theorem dX11_ream_1 : decode cX11_ream 1 = .ok (.iload_n 1, 1) := by decide +kernel
theorem dX11_ream_2 : decode cX11_ream 2 = .ok (.iload_n 2, 1) := by decide +kernel
theorem dX11_ream_3 : decode cX11_ream 3 = .ok (.invokevirtual 143, 3) := by decide +kernel
theorem dX11_ream_6 : decode cX11_ream 6 = .ok (.astore 4, 2) := by decide +kernel
theorem dX11_ream_8 : decode cX11_ream 8 = .ok (.aload 4, 2) := by decide +kernel
theorem dX11_ream_10 : decode cX11_ream 10 = .ok (.ifnonnull 6, 3) := by decide +kernel
theorem dX11_ream_13 : decode cX11_ream 13 = .ok (.bipush (-2), 2) := by decide +kernel
theorem dX11_ream_15 : decode cX11_ream 15 = .ok (.ireturn, 1) := by decide +kernel
theorem dX11_ream_16 : decode cX11_ream 16 = .ok (.iload_n 3, 1) := by decide +kernel
theorem dX11_ream_17 : decode cX11_ream 17 = .ok (.iconst 1, 1) := by decide +kernel
theorem dX11_ream_18 : decode cX11_ream 18 = .ok (.bipush 50, 2) := by decide +kernel
theorem dX11_ream_20 : decode cX11_ream 20 = .ok (.invokestatic 89, 3) := by decide +kernel
theorem dX11_ream_23 : decode cX11_ream 23 = .ok (.ifCond .ne 6, 3) := by decide +kernel
theorem dX11_ream_26 : decode cX11_ream 26 = .ok (.bipush (-3), 2) := by decide +kernel
theorem dX11_ream_28 : decode cX11_ream 28 = .ok (.ireturn, 1) := by decide +kernel
theorem dX11_ream_29 : decode cX11_ream 29 = .ok (.aload 4, 2) := by decide +kernel
theorem dX11_ream_31 : decode cX11_ream 31 = .ok (.invokevirtual 155, 3) := by decide +kernel
theorem dX11_ream_34 : decode cX11_ream 34 = .ok (.iload_n 3, 1) := by decide +kernel
theorem dX11_ream_35 : decode cX11_ream 35 = .ok (.iadd, 1) := by decide +kernel
theorem dX11_ream_36 : decode cX11_ream 36 = .ok (.istore 5, 2) := by decide +kernel
theorem dX11_ream_38 : decode cX11_ream 38 = .ok (.aload 4, 2) := by decide +kernel
theorem dX11_ream_40 : decode cX11_ream 40 = .ok (.getfield 159, 3) := by decide +kernel
theorem dX11_ream_43 : decode cX11_ream 43 = .ok (.iconst 2, 1) := by decide +kernel
theorem dX11_ream_44 : decode cX11_ream 44 = .ok (.if_icmp .ge 11, 3) := by decide +kernel
theorem dX11_ream_47 : decode cX11_ream 47 = .ok (.iload 5, 2) := by decide +kernel
theorem dX11_ream_49 : decode cX11_ream 49 = .ok (.sipush 1000, 3) := by decide +kernel
theorem dX11_ream_52 : decode cX11_ream 52 = .ok (.if_icmp .le 6, 3) := by decide +kernel
theorem dX11_ream_55 : decode cX11_ream 55 = .ok (.bipush (-4), 2) := by decide +kernel
theorem dX11_ream_57 : decode cX11_ream 57 = .ok (.ireturn, 1) := by decide +kernel
theorem dX11_ream_58 : decode cX11_ream 58 = .ok (.aload 4, 2) := by decide +kernel
theorem dX11_ream_60 : decode cX11_ream 60 = .ok (.iload 5, 2) := by decide +kernel
theorem dX11_ream_62 : decode cX11_ream 62 = .ok (.putfield 147, 3) := by decide +kernel
theorem dX11_ream_65 : decode cX11_ream 65 = .ok (.aload 4, 2) := by decide +kernel
theorem dX11_ream_67 : decode cX11_ream 67 = .ok (.iconst 0, 1) := by decide +kernel
theorem dX11_ream_68 : decode cX11_ream 68 = .ok (.putfield 152, 3) := by decide +kernel
theorem dX11_ream_71 : decode cX11_ream 71 = .ok (.aload 4, 2) := by decide +kernel
theorem dX11_ream_73 : decode cX11_ream 73 = .ok (.dup, 1) := by decide +kernel
theorem dX11_ream_74 : decode cX11_ream 74 = .ok (.getfield 159, 3) := by decide +kernel
theorem dX11_ream_77 : decode cX11_ream 77 = .ok (.iconst 1, 1) := by decide +kernel
theorem dX11_ream_78 : decode cX11_ream 78 = .ok (.iadd, 1) := by decide +kernel
theorem dX11_ream_79 : decode cX11_ream 79 = .ok (.putfield 159, 3) := by decide +kernel
theorem dX11_ream_82 : decode cX11_ream 82 = .ok (.iload 5, 2) := by decide +kernel
theorem dX11_ream_84 : decode cX11_ream 84 = .ok (.ireturn, 1) := by decide +kernel
theorem dX11_coil_0 : decode cX11_coil 0 = .ok (.aload_n 0, 1) := by decide +kernel
theorem dX11_coil_1 : decode cX11_coil 1 = .ok (.iload_n 1, 1) := by decide +kernel
theorem dX11_coil_2 : decode cX11_coil 2 = .ok (.invokevirtual 85, 3) := by decide +kernel
theorem dX11_coil_5 : decode cX11_coil 5 = .ok (.astore 5, 2) := by decide +kernel
theorem dX11_coil_7 : decode cX11_coil 7 = .ok (.aload 5, 2) := by decide +kernel
theorem dX11_coil_9 : decode cX11_coil 9 = .ok (.ifnonnull 6, 3) := by decide +kernel
theorem dX11_coil_12 : decode cX11_coil 12 = .ok (.bipush (-2), 2) := by decide +kernel
theorem dX11_coil_14 : decode cX11_coil 14 = .ok (.ireturn, 1) := by decide +kernel
theorem dX11_coil_15 : decode cX11_coil 15 = .ok (.iload_n 2, 1) := by decide +kernel
theorem dX11_coil_16 : decode cX11_coil 16 = .ok (.invokestatic 136, 3) := by decide +kernel
theorem dX11_coil_19 : decode cX11_coil 19 = .ok (.ifCond .eq 14, 3) := by decide +kernel
theorem dX11_coil_22 : decode cX11_coil 22 = .ok (.iload_n 3, 1) := by decide +kernel
theorem dX11_coil_23 : decode cX11_coil 23 = .ok (.iconst 1, 1) := by decide +kernel
theorem dX11_coil_24 : decode cX11_coil 24 = .ok (.sipush 1000, 3) := by decide +kernel
theorem dX11_coil_27 : decode cX11_coil 27 = .ok (.invokestatic 89, 3) := by decide +kernel
theorem dX11_coil_30 : decode cX11_coil 30 = .ok (.ifCond .ne 6, 3) := by decide +kernel
theorem dX11_coil_33 : decode cX11_coil 33 = .ok (.bipush (-3), 2) := by decide +kernel
theorem dX11_coil_35 : decode cX11_coil 35 = .ok (.ireturn, 1) := by decide +kernel
theorem dX11_coil_36 : decode cX11_coil 36 = .ok (.aload_n 0, 1) := by decide +kernel
theorem dX11_coil_37 : decode cX11_coil 37 = .ok (.getfield 166, 3) := by decide +kernel
theorem dX11_coil_40 : decode cX11_coil 40 = .ok (.aload_n 0, 1) := by decide +kernel
theorem dX11_coil_41 : decode cX11_coil 41 = .ok (.getfield 36, 3) := by decide +kernel
theorem dX11_coil_44 : decode cX11_coil 44 = .ok (.arraylength, 1) := by decide +kernel
theorem dX11_coil_45 : decode cX11_coil 45 = .ok (.if_icmp .lt 6, 3) := by decide +kernel
theorem dX11_coil_48 : decode cX11_coil 48 = .ok (.bipush (-8), 2) := by decide +kernel
theorem dX11_coil_50 : decode cX11_coil 50 = .ok (.ireturn, 1) := by decide +kernel
theorem dX11_coil_51 : decode cX11_coil 51 = .ok (.new 34, 3) := by decide +kernel
theorem dX11_coil_54 : decode cX11_coil 54 = .ok (.dup, 1) := by decide +kernel
theorem dX11_coil_55 : decode cX11_coil 55 = .ok (.aload 5, 2) := by decide +kernel
theorem dX11_coil_57 : decode cX11_coil 57 = .ok (.iload_n 2, 1) := by decide +kernel
theorem dX11_coil_58 : decode cX11_coil 58 = .ok (.iload_n 2, 1) := by decide +kernel
theorem dX11_coil_59 : decode cX11_coil 59 = .ok (.i2l, 1) := by decide +kernel
theorem dX11_coil_60 : decode cX11_coil 60 = .ok (.iload_n 2, 1) := by decide +kernel
theorem dX11_coil_61 : decode cX11_coil 61 = .ok (.i2l, 1) := by decide +kernel
theorem dX11_coil_62 : decode cX11_coil 62 = .ok (.lmul, 1) := by decide +kernel
theorem dX11_coil_63 : decode cX11_coil 63 = .ok (.iload_n 3, 1) := by decide +kernel
theorem dX11_coil_64 : decode cX11_coil 64 = .ok (.i2l, 1) := by decide +kernel
theorem dX11_coil_65 : decode cX11_coil 65 = .ok (.lmul, 1) := by decide +kernel
theorem dX11_coil_66 : decode cX11_coil 66 = .ok (.iload 4, 2) := by decide +kernel
theorem dX11_coil_68 : decode cX11_coil 68 = .ok (.invokespecial 169, 3) := by decide +kernel
theorem dX11_coil_71 : decode cX11_coil 71 = .ok (.astore 6, 2) := by decide +kernel
theorem dX11_coil_73 : decode cX11_coil 73 = .ok (.aload_n 0, 1) := by decide +kernel
theorem dX11_coil_74 : decode cX11_coil 74 = .ok (.dup, 1) := by decide +kernel
theorem dX11_coil_75 : decode cX11_coil 75 = .ok (.getfield 172, 3) := by decide +kernel
theorem dX11_coil_78 : decode cX11_coil 78 = .ok (.aload 6, 2) := by decide +kernel
theorem dX11_coil_80 : decode cX11_coil 80 = .ok (.getfield 176, 3) := by decide +kernel
theorem dX11_coil_83 : decode cX11_coil 83 = .ok (.ladd, 1) := by decide +kernel
theorem dX11_coil_84 : decode cX11_coil 84 = .ok (.putfield 172, 3) := by decide +kernel
theorem dX11_coil_87 : decode cX11_coil 87 = .ok (.aload_n 0, 1) := by decide +kernel
theorem dX11_coil_88 : decode cX11_coil 88 = .ok (.aload 6, 2) := by decide +kernel
theorem dX11_coil_90 : decode cX11_coil 90 = .ok (.invokevirtual 179, 3) := by decide +kernel
theorem dX11_coil_93 : decode cX11_coil 93 = .ok (.ireturn, 1) := by decide +kernel
theorem dX11_at_0 : decode cX11_at 0 = .ok (.aload_n 0, 1) := by decide +kernel
theorem dX11_at_1 : decode cX11_at 1 = .ok (.iload_n 1, 1) := by decide +kernel
theorem dX11_at_2 : decode cX11_at 2 = .ok (.invokevirtual 183, 3) := by decide +kernel
theorem dX11_at_5 : decode cX11_at 5 = .ok (.astore_n 3, 1) := by decide +kernel
theorem dX11_at_6 : decode cX11_at 6 = .ok (.aload_n 3, 1) := by decide +kernel
theorem dX11_at_7 : decode cX11_at 7 = .ok (.ifnonnull 6, 3) := by decide +kernel
theorem dX11_at_10 : decode cX11_at 10 = .ok (.bipush (-2), 2) := by decide +kernel
theorem dX11_at_12 : decode cX11_at 12 = .ok (.ireturn, 1) := by decide +kernel
theorem dX11_at_13 : decode cX11_at 13 = .ok (.iload_n 2, 1) := by decide +kernel
theorem dX11_at_14 : decode cX11_at 14 = .ok (.tableswitch 88 0 6 #[42, 50, 55, 60, 65, 70, 75], 42) := by decide +kernel
theorem dX11_at_56 : decode cX11_at 56 = .ok (.aload_n 3, 1) := by decide +kernel
theorem dX11_at_57 : decode cX11_at 57 = .ok (.getfield 187, 3) := by decide +kernel
theorem dX11_at_60 : decode cX11_at 60 = .ok (.getfield 191, 3) := by decide +kernel
theorem dX11_at_63 : decode cX11_at 63 = .ok (.ireturn, 1) := by decide +kernel
theorem dX11_at_64 : decode cX11_at 64 = .ok (.aload_n 3, 1) := by decide +kernel
theorem dX11_at_65 : decode cX11_at 65 = .ok (.getfield 194, 3) := by decide +kernel
theorem dX11_at_68 : decode cX11_at 68 = .ok (.ireturn, 1) := by decide +kernel
theorem dX11_at_69 : decode cX11_at 69 = .ok (.aload_n 3, 1) := by decide +kernel
theorem dX11_at_70 : decode cX11_at 70 = .ok (.getfield 197, 3) := by decide +kernel
theorem dX11_at_73 : decode cX11_at 73 = .ok (.ireturn, 1) := by decide +kernel
theorem dX11_at_74 : decode cX11_at 74 = .ok (.aload_n 3, 1) := by decide +kernel
theorem dX11_at_75 : decode cX11_at 75 = .ok (.invokevirtual 200, 3) := by decide +kernel
theorem dX11_at_78 : decode cX11_at 78 = .ok (.ireturn, 1) := by decide +kernel
theorem dX11_at_79 : decode cX11_at 79 = .ok (.aload_n 3, 1) := by decide +kernel
theorem dX11_at_80 : decode cX11_at 80 = .ok (.getfield 203, 3) := by decide +kernel
theorem dX11_at_83 : decode cX11_at 83 = .ok (.ireturn, 1) := by decide +kernel
theorem dX11_at_84 : decode cX11_at 84 = .ok (.aload_n 3, 1) := by decide +kernel
theorem dX11_at_85 : decode cX11_at 85 = .ok (.getfield 206, 3) := by decide +kernel
theorem dX11_at_88 : decode cX11_at 88 = .ok (.ireturn, 1) := by decide +kernel
theorem dX11_at_89 : decode cX11_at 89 = .ok (.aload_n 3, 1) := by decide +kernel
theorem dX11_at_90 : decode cX11_at 90 = .ok (.getfield 209, 3) := by decide +kernel
theorem dX11_at_93 : decode cX11_at 93 = .ok (.ifCond .eq 7, 3) := by decide +kernel
theorem dX11_at_96 : decode cX11_at 96 = .ok (.iconst 1, 1) := by decide +kernel
theorem dX11_at_97 : decode cX11_at 97 = .ok (.goto 4, 3) := by decide +kernel
theorem dX11_at_100 : decode cX11_at 100 = .ok (.iconst 0, 1) := by decide +kernel
theorem dX11_at_101 : decode cX11_at 101 = .ok (.ireturn, 1) := by decide +kernel
theorem dX11_at_102 : decode cX11_at 102 = .ok (.bipush (-3), 2) := by decide +kernel
theorem dX11_at_104 : decode cX11_at 104 = .ok (.ireturn, 1) := by decide +kernel
theorem dX11_stuff_0 : decode cX11_stuff 0 = .ok (.aload_n 0, 1) := by decide +kernel
theorem dX11_stuff_1 : decode cX11_stuff 1 = .ok (.iload_n 1, 1) := by decide +kernel
theorem dX11_stuff_2 : decode cX11_stuff 2 = .ok (.invokevirtual 183, 3) := by decide +kernel
theorem dX11_stuff_5 : decode cX11_stuff 5 = .ok (.astore_n 2, 1) := by decide +kernel
theorem dX11_stuff_6 : decode cX11_stuff 6 = .ok (.aload_n 2, 1) := by decide +kernel
theorem dX11_stuff_7 : decode cX11_stuff 7 = .ok (.ifnonnull 9, 3) := by decide +kernel
theorem dX11_stuff_10 : decode cX11_stuff 10 = .ok (.ldc2_w 213, 3) := by decide +kernel
theorem dX11_stuff_13 : decode cX11_stuff 13 = .ok (.goto 7, 3) := by decide +kernel
theorem dX11_stuff_16 : decode cX11_stuff 16 = .ok (.aload_n 2, 1) := by decide +kernel
theorem dX11_stuff_17 : decode cX11_stuff 17 = .ok (.getfield 176, 3) := by decide +kernel
theorem dX11_stuff_20 : decode cX11_stuff 20 = .ok (.lreturn, 1) := by decide +kernel
theorem dX11_asks_0 : decode cX11_asks 0 = .ok (.aload_n 0, 1) := by decide +kernel
theorem dX11_asks_1 : decode cX11_asks 1 = .ok (.iload_n 1, 1) := by decide +kernel
theorem dX11_asks_2 : decode cX11_asks 2 = .ok (.invokevirtual 183, 3) := by decide +kernel
theorem dX11_asks_5 : decode cX11_asks 5 = .ok (.astore 5, 2) := by decide +kernel
theorem dX11_asks_7 : decode cX11_asks 7 = .ok (.aload_n 0, 1) := by decide +kernel
theorem dX11_asks_8 : decode cX11_asks 8 = .ok (.iload_n 2, 1) := by decide +kernel
theorem dX11_asks_9 : decode cX11_asks 9 = .ok (.iload_n 3, 1) := by decide +kernel
theorem dX11_asks_10 : decode cX11_asks 10 = .ok (.invokevirtual 143, 3) := by decide +kernel
theorem dX11_asks_13 : decode cX11_asks 13 = .ok (.astore 6, 2) := by decide +kernel
theorem dX11_asks_15 : decode cX11_asks 15 = .ok (.aload 5, 2) := by decide +kernel
theorem dX11_asks_17 : decode cX11_asks 17 = .ok (.ifnull 8, 3) := by decide +kernel
theorem dX11_asks_20 : decode cX11_asks 20 = .ok (.aload 6, 2) := by decide +kernel
theorem dX11_asks_22 : decode cX11_asks 22 = .ok (.ifnonnull 6, 3) := by decide +kernel
theorem dX11_asks_25 : decode cX11_asks 25 = .ok (.bipush (-2), 2) := by decide +kernel
theorem dX11_asks_27 : decode cX11_asks 27 = .ok (.ireturn, 1) := by decide +kernel
theorem dX11_asks_28 : decode cX11_asks 28 = .ok (.iload 4, 2) := by decide +kernel
theorem dX11_asks_30 : decode cX11_asks 30 = .ok (.iconst 0, 1) := by decide +kernel
theorem dX11_asks_31 : decode cX11_asks 31 = .ok (.iconst 3, 1) := by decide +kernel
theorem dX11_asks_32 : decode cX11_asks 32 = .ok (.invokestatic 89, 3) := by decide +kernel
theorem dX11_asks_35 : decode cX11_asks 35 = .ok (.ifCond .ne 6, 3) := by decide +kernel
theorem dX11_asks_38 : decode cX11_asks 38 = .ok (.bipush (-3), 2) := by decide +kernel
theorem dX11_asks_40 : decode cX11_asks 40 = .ok (.ireturn, 1) := by decide +kernel
theorem dX11_asks_41 : decode cX11_asks 41 = .ok (.aload 6, 2) := by decide +kernel
theorem dX11_asks_43 : decode cX11_asks 43 = .ok (.invokevirtual 155, 3) := by decide +kernel
theorem dX11_asks_46 : decode cX11_asks 46 = .ok (.aload 5, 2) := by decide +kernel
theorem dX11_asks_48 : decode cX11_asks 48 = .ok (.getfield 194, 3) := by decide +kernel
theorem dX11_asks_51 : decode cX11_asks 51 = .ok (.if_icmp .lt 6, 3) := by decide +kernel
theorem dX11_asks_54 : decode cX11_asks 54 = .ok (.bipush (-4), 2) := by decide +kernel
theorem dX11_asks_56 : decode cX11_asks 56 = .ok (.ireturn, 1) := by decide +kernel
theorem dX11_asks_57 : decode cX11_asks 57 = .ok (.aload_n 0, 1) := by decide +kernel
theorem dX11_asks_58 : decode cX11_asks 58 = .ok (.getfield 58, 3) := by decide +kernel
theorem dX11_asks_61 : decode cX11_asks 61 = .ok (.aload 5, 2) := by decide +kernel
theorem dX11_asks_63 : decode cX11_asks 63 = .ok (.aload 5, 2) := by decide +kernel
theorem dX11_asks_65 : decode cX11_asks 65 = .ok (.getfield 194, 3) := by decide +kernel
theorem dX11_asks_68 : decode cX11_asks 68 = .ok (.aload 5, 2) := by decide +kernel
theorem dX11_asks_70 : decode cX11_asks 70 = .ok (.getfield 197, 3) := by decide +kernel
theorem dX11_asks_73 : decode cX11_asks 73 = .ok (.aload 6, 2) := by decide +kernel
theorem dX11_asks_75 : decode cX11_asks 75 = .ok (.invokevirtual 155, 3) := by decide +kernel
theorem dX11_asks_78 : decode cX11_asks 78 = .ok (.invokevirtual 215, 3) := by decide +kernel
theorem dX11_asks_81 : decode cX11_asks 81 = .ok (.iload 4, 2) := by decide +kernel
theorem dX11_asks_83 : decode cX11_asks 83 = .ok (.tableswitch 49 0 2 #[25, 33, 41], 25) := by decide +kernel
theorem dX11_asks_108 : decode cX11_asks 108 = .ok (.aload_n 0, 1) := by decide +kernel
theorem dX11_asks_109 : decode cX11_asks 109 = .ok (.getfield 58, 3) := by decide +kernel
theorem dX11_asks_112 : decode cX11_asks 112 = .ok (.getfield 219, 3) := by decide +kernel
theorem dX11_asks_115 : decode cX11_asks 115 = .ok (.ireturn, 1) := by decide +kernel
theorem dX11_asks_116 : decode cX11_asks 116 = .ok (.aload_n 0, 1) := by decide +kernel
theorem dX11_asks_117 : decode cX11_asks 117 = .ok (.getfield 58, 3) := by decide +kernel
theorem dX11_asks_120 : decode cX11_asks 120 = .ok (.getfield 222, 3) := by decide +kernel
theorem dX11_asks_123 : decode cX11_asks 123 = .ok (.ireturn, 1) := by decide +kernel
theorem dX11_asks_124 : decode cX11_asks 124 = .ok (.aload_n 0, 1) := by decide +kernel
theorem dX11_asks_125 : decode cX11_asks 125 = .ok (.getfield 58, 3) := by decide +kernel
theorem dX11_asks_128 : decode cX11_asks 128 = .ok (.getfield 225, 3) := by decide +kernel
theorem dX11_asks_131 : decode cX11_asks 131 = .ok (.ireturn, 1) := by decide +kernel
theorem dX11_asks_132 : decode cX11_asks 132 = .ok (.aload_n 0, 1) := by decide +kernel
theorem dX11_asks_133 : decode cX11_asks 133 = .ok (.getfield 58, 3) := by decide +kernel
theorem dX11_asks_136 : decode cX11_asks 136 = .ok (.getfield 228, 3) := by decide +kernel
theorem dX11_asks_139 : decode cX11_asks 139 = .ok (.ireturn, 1) := by decide +kernel
theorem dX11_draw_0 : decode cX11_draw 0 = .ok (.aload_n 0, 1) := by decide +kernel
theorem dX11_draw_1 : decode cX11_draw 1 = .ok (.iload_n 1, 1) := by decide +kernel
theorem dX11_draw_2 : decode cX11_draw 2 = .ok (.invokevirtual 183, 3) := by decide +kernel
theorem dX11_draw_5 : decode cX11_draw 5 = .ok (.astore 5, 2) := by decide +kernel
theorem dX11_draw_7 : decode cX11_draw 7 = .ok (.aload_n 0, 1) := by decide +kernel
theorem dX11_draw_8 : decode cX11_draw 8 = .ok (.iload_n 2, 1) := by decide +kernel
theorem dX11_draw_9 : decode cX11_draw 9 = .ok (.iload_n 3, 1) := by decide +kernel
theorem dX11_draw_10 : decode cX11_draw 10 = .ok (.invokevirtual 143, 3) := by decide +kernel
theorem dX11_draw_13 : decode cX11_draw 13 = .ok (.astore 6, 2) := by decide +kernel
theorem dX11_draw_15 : decode cX11_draw 15 = .ok (.aload_n 0, 1) := by decide +kernel
theorem dX11_draw_16 : decode cX11_draw 16 = .ok (.iload 4, 2) := by decide +kernel
theorem dX11_draw_18 : decode cX11_draw 18 = .ok (.invokevirtual 121, 3) := by decide +kernel
theorem dX11_draw_21 : decode cX11_draw 21 = .ok (.astore 7, 2) := by decide +kernel
theorem dX11_draw_23 : decode cX11_draw 23 = .ok (.aload 5, 2) := by decide +kernel
theorem dX11_draw_25 : decode cX11_draw 25 = .ok (.ifnull 13, 3) := by decide +kernel
theorem dX11_draw_28 : decode cX11_draw 28 = .ok (.aload 6, 2) := by decide +kernel
theorem dX11_draw_30 : decode cX11_draw 30 = .ok (.ifnull 8, 3) := by decide +kernel
theorem dX11_draw_33 : decode cX11_draw 33 = .ok (.aload 7, 2) := by decide +kernel
theorem dX11_draw_35 : decode cX11_draw 35 = .ok (.ifnonnull 6, 3) := by decide +kernel
theorem dX11_draw_38 : decode cX11_draw 38 = .ok (.bipush (-2), 2) := by decide +kernel
theorem dX11_draw_40 : decode cX11_draw 40 = .ok (.ireturn, 1) := by decide +kernel
theorem dX11_draw_41 : decode cX11_draw 41 = .ok (.aload_n 0, 1) := by decide +kernel
theorem dX11_draw_42 : decode cX11_draw 42 = .ok (.getfield 58, 3) := by decide +kernel
theorem dX11_draw_45 : decode cX11_draw 45 = .ok (.aload 5, 2) := by decide +kernel
theorem dX11_draw_47 : decode cX11_draw 47 = .ok (.aload 5, 2) := by decide +kernel
theorem dX11_draw_49 : decode cX11_draw 49 = .ok (.getfield 194, 3) := by decide +kernel
theorem dX11_draw_52 : decode cX11_draw 52 = .ok (.aload 5, 2) := by decide +kernel
theorem dX11_draw_54 : decode cX11_draw 54 = .ok (.getfield 197, 3) := by decide +kernel
theorem dX11_draw_57 : decode cX11_draw 57 = .ok (.aload 6, 2) := by decide +kernel
theorem dX11_draw_59 : decode cX11_draw 59 = .ok (.aload_n 0, 1) := by decide +kernel
theorem dX11_draw_60 : decode cX11_draw 60 = .ok (.aload 7, 2) := by decide +kernel
theorem dX11_draw_62 : decode cX11_draw 62 = .ok (.invokevirtual 231, 3) := by decide +kernel
theorem dX11_draw_65 : decode cX11_draw 65 = .ok (.invokevirtual 235, 3) := by decide +kernel
theorem dX11_draw_68 : decode cX11_draw 68 = .ok (.istore 8, 2) := by decide +kernel
theorem dX11_draw_70 : decode cX11_draw 70 = .ok (.iload 8, 2) := by decide +kernel
theorem dX11_draw_72 : decode cX11_draw 72 = .ok (.ifCond .ge 8, 3) := by decide +kernel
theorem dX11_draw_75 : decode cX11_draw 75 = .ok (.iload 8, 2) := by decide +kernel
theorem dX11_draw_77 : decode cX11_draw 77 = .ok (.goto 13, 3) := by decide +kernel
theorem dX11_draw_80 : decode cX11_draw 80 = .ok (.aload_n 0, 1) := by decide +kernel
theorem dX11_draw_81 : decode cX11_draw 81 = .ok (.aload 5, 2) := by decide +kernel
theorem dX11_draw_83 : decode cX11_draw 83 = .ok (.aload 6, 2) := by decide +kernel
theorem dX11_draw_85 : decode cX11_draw 85 = .ok (.aload 7, 2) := by decide +kernel
theorem dX11_draw_87 : decode cX11_draw 87 = .ok (.invokevirtual 239, 3) := by decide +kernel
theorem dX11_draw_90 : decode cX11_draw 90 = .ok (.ireturn, 1) := by decide +kernel
theorem dX11_fire_0 : decode cX11_fire 0 = .ok (.aload_n 0, 1) := by decide +kernel
theorem dX11_fire_1 : decode cX11_fire 1 = .ok (.iload_n 1, 1) := by decide +kernel
theorem dX11_fire_2 : decode cX11_fire 2 = .ok (.invokevirtual 183, 3) := by decide +kernel
theorem dX11_fire_5 : decode cX11_fire 5 = .ok (.astore_n 2, 1) := by decide +kernel
theorem dX11_fire_6 : decode cX11_fire 6 = .ok (.aload_n 2, 1) := by decide +kernel
theorem dX11_fire_7 : decode cX11_fire 7 = .ok (.ifnonnull 6, 3) := by decide +kernel
theorem dX11_fire_10 : decode cX11_fire 10 = .ok (.bipush (-2), 2) := by decide +kernel
theorem dX11_fire_12 : decode cX11_fire 12 = .ok (.ireturn, 1) := by decide +kernel
theorem dX11_fire_13 : decode cX11_fire 13 = .ok (.aload_n 2, 1) := by decide +kernel
theorem dX11_fire_14 : decode cX11_fire 14 = .ok (.getfield 197, 3) := by decide +kernel
theorem dX11_fire_17 : decode cX11_fire 17 = .ok (.ifCond .ne 6, 3) := by decide +kernel
theorem dX11_fire_20 : decode cX11_fire 20 = .ok (.bipush (-4), 2) := by decide +kernel
theorem dX11_fire_22 : decode cX11_fire 22 = .ok (.ireturn, 1) := by decide +kernel
theorem dX11_fire_23 : decode cX11_fire 23 = .ok (.aload_n 2, 1) := by decide +kernel
theorem dX11_fire_24 : decode cX11_fire 24 = .ok (.getfield 206, 3) := by decide +kernel
theorem dX11_fire_27 : decode cX11_fire 27 = .ok (.aload_n 0, 1) := by decide +kernel
theorem dX11_fire_28 : decode cX11_fire 28 = .ok (.getfield 243, 3) := by decide +kernel
theorem dX11_fire_31 : decode cX11_fire 31 = .ok (.invokestatic 246, 3) := by decide +kernel
theorem dX11_fire_34 : decode cX11_fire 34 = .ok (.aload_n 0, 1) := by decide +kernel
theorem dX11_fire_35 : decode cX11_fire 35 = .ok (.getfield 10, 3) := by decide +kernel
theorem dX11_fire_38 : decode cX11_fire 38 = .ok (.getfield 252, 3) := by decide +kernel
theorem dX11_fire_41 : decode cX11_fire 41 = .ok (.iadd, 1) := by decide +kernel
theorem dX11_fire_42 : decode cX11_fire 42 = .ok (.istore_n 3, 1) := by decide +kernel
theorem dX11_fire_43 : decode cX11_fire 43 = .ok (.aload_n 2, 1) := by decide +kernel
theorem dX11_fire_44 : decode cX11_fire 44 = .ok (.iload_n 3, 1) := by decide +kernel
theorem dX11_fire_45 : decode cX11_fire 45 = .ok (.putfield 206, 3) := by decide +kernel
theorem dX11_fire_48 : decode cX11_fire 48 = .ok (.aload_n 0, 1) := by decide +kernel
theorem dX11_fire_49 : decode cX11_fire 49 = .ok (.iload_n 3, 1) := by decide +kernel
theorem dX11_fire_50 : decode cX11_fire 50 = .ok (.putfield 243, 3) := by decide +kernel
theorem dX11_fire_53 : decode cX11_fire 53 = .ok (.aload_n 2, 1) := by decide +kernel
theorem dX11_fire_54 : decode cX11_fire 54 = .ok (.iconst 0, 1) := by decide +kernel
theorem dX11_fire_55 : decode cX11_fire 55 = .ok (.putfield 197, 3) := by decide +kernel
theorem dX11_fire_58 : decode cX11_fire 58 = .ok (.aload_n 2, 1) := by decide +kernel
theorem dX11_fire_59 : decode cX11_fire 59 = .ok (.getfield 176, 3) := by decide +kernel
theorem dX11_fire_62 : decode cX11_fire 62 = .ok (.aload_n 2, 1) := by decide +kernel
theorem dX11_fire_63 : decode cX11_fire 63 = .ok (.getfield 187, 3) := by decide +kernel
theorem dX11_fire_66 : decode cX11_fire 66 = .ok (.getfield 106, 3) := by decide +kernel
theorem dX11_fire_69 : decode cX11_fire 69 = .ok (.i2l, 1) := by decide +kernel
theorem dX11_fire_70 : decode cX11_fire 70 = .ok (.lmul, 1) := by decide +kernel
theorem dX11_fire_71 : decode cX11_fire 71 = .ok (.ldc2_w 255, 3) := by decide +kernel
theorem dX11_fire_74 : decode cX11_fire 74 = .ok (.ldiv, 1) := by decide +kernel
theorem dX11_fire_75 : decode cX11_fire 75 = .ok (.lstore 4, 2) := by decide +kernel
theorem dX11_fire_77 : decode cX11_fire 77 = .ok (.aload_n 2, 1) := by decide +kernel
theorem dX11_fire_78 : decode cX11_fire 78 = .ok (.dup, 1) := by decide +kernel
theorem dX11_fire_79 : decode cX11_fire 79 = .ok (.getfield 176, 3) := by decide +kernel
theorem dX11_fire_82 : decode cX11_fire 82 = .ok (.lload 4, 2) := by decide +kernel
theorem dX11_fire_84 : decode cX11_fire 84 = .ok (.lsub, 1) := by decide +kernel
theorem dX11_fire_85 : decode cX11_fire 85 = .ok (.putfield 176, 3) := by decide +kernel
theorem dX11_fire_88 : decode cX11_fire 88 = .ok (.aload_n 0, 1) := by decide +kernel
theorem dX11_fire_89 : decode cX11_fire 89 = .ok (.dup, 1) := by decide +kernel
theorem dX11_fire_90 : decode cX11_fire 90 = .ok (.getfield 257, 3) := by decide +kernel
theorem dX11_fire_93 : decode cX11_fire 93 = .ok (.lload 4, 2) := by decide +kernel
theorem dX11_fire_95 : decode cX11_fire 95 = .ok (.ladd, 1) := by decide +kernel
theorem dX11_fire_96 : decode cX11_fire 96 = .ok (.putfield 257, 3) := by decide +kernel
theorem dX11_fire_99 : decode cX11_fire 99 = .ok (.aload_n 0, 1) := by decide +kernel
theorem dX11_fire_100 : decode cX11_fire 100 = .ok (.dup, 1) := by decide +kernel
theorem dX11_fire_101 : decode cX11_fire 101 = .ok (.getfield 260, 3) := by decide +kernel
theorem dX11_fire_104 : decode cX11_fire 104 = .ok (.iconst 1, 1) := by decide +kernel
theorem dX11_fire_105 : decode cX11_fire 105 = .ok (.iadd, 1) := by decide +kernel
theorem dX11_fire_106 : decode cX11_fire 106 = .ok (.putfield 260, 3) := by decide +kernel
theorem dX11_fire_109 : decode cX11_fire 109 = .ok (.aload_n 2, 1) := by decide +kernel
theorem dX11_fire_110 : decode cX11_fire 110 = .ok (.invokevirtual 200, 3) := by decide +kernel
theorem dX11_fire_113 : decode cX11_fire 113 = .ok (.ifCond .ne 8, 3) := by decide +kernel
theorem dX11_fire_116 : decode cX11_fire 116 = .ok (.aload_n 0, 1) := by decide +kernel
theorem dX11_fire_117 : decode cX11_fire 117 = .ok (.aload_n 2, 1) := by decide +kernel
theorem dX11_fire_118 : decode cX11_fire 118 = .ok (.invokevirtual 263, 3) := by decide +kernel
theorem dX11_fire_121 : decode cX11_fire 121 = .ok (.iload_n 3, 1) := by decide +kernel
theorem dX11_fire_122 : decode cX11_fire 122 = .ok (.ireturn, 1) := by decide +kernel
theorem dX11_part_0 : decode cX11_part 0 = .ok (.aload_n 0, 1) := by decide +kernel
theorem dX11_part_1 : decode cX11_part 1 = .ok (.iload_n 1, 1) := by decide +kernel
theorem dX11_part_2 : decode cX11_part 2 = .ok (.invokevirtual 183, 3) := by decide +kernel
theorem dX11_part_5 : decode cX11_part 5 = .ok (.astore_n 3, 1) := by decide +kernel
theorem dX11_part_6 : decode cX11_part 6 = .ok (.aload_n 3, 1) := by decide +kernel
theorem dX11_part_7 : decode cX11_part 7 = .ok (.ifnonnull 6, 3) := by decide +kernel
theorem dX11_part_10 : decode cX11_part 10 = .ok (.bipush (-2), 2) := by decide +kernel
theorem dX11_part_12 : decode cX11_part 12 = .ok (.ireturn, 1) := by decide +kernel
theorem dX11_part_13 : decode cX11_part 13 = .ok (.iload_n 2, 1) := by decide +kernel
theorem dX11_part_14 : decode cX11_part 14 = .ok (.iconst 1, 1) := by decide +kernel
theorem dX11_part_15 : decode cX11_part 15 = .ok (.aload_n 3, 1) := by decide +kernel
theorem dX11_part_16 : decode cX11_part 16 = .ok (.invokevirtual 200, 3) := by decide +kernel
theorem dX11_part_19 : decode cX11_part 19 = .ok (.iconst 1, 1) := by decide +kernel
theorem dX11_part_20 : decode cX11_part 20 = .ok (.isub, 1) := by decide +kernel
theorem dX11_part_21 : decode cX11_part 21 = .ok (.invokestatic 89, 3) := by decide +kernel
theorem dX11_part_24 : decode cX11_part 24 = .ok (.ifCond .ne 6, 3) := by decide +kernel
theorem dX11_part_27 : decode cX11_part 27 = .ok (.bipush (-3), 2) := by decide +kernel
theorem dX11_part_29 : decode cX11_part 29 = .ok (.ireturn, 1) := by decide +kernel
theorem dX11_part_30 : decode cX11_part 30 = .ok (.aload_n 0, 1) := by decide +kernel
theorem dX11_part_31 : decode cX11_part 31 = .ok (.getfield 166, 3) := by decide +kernel
theorem dX11_part_34 : decode cX11_part 34 = .ok (.aload_n 0, 1) := by decide +kernel
theorem dX11_part_35 : decode cX11_part 35 = .ok (.getfield 36, 3) := by decide +kernel
theorem dX11_part_38 : decode cX11_part 38 = .ok (.arraylength, 1) := by decide +kernel
theorem dX11_part_39 : decode cX11_part 39 = .ok (.if_icmp .lt 6, 3) := by decide +kernel
theorem dX11_part_42 : decode cX11_part 42 = .ok (.bipush (-8), 2) := by decide +kernel
theorem dX11_part_44 : decode cX11_part 44 = .ok (.ireturn, 1) := by decide +kernel
theorem dX11_part_45 : decode cX11_part 45 = .ok (.aload_n 3, 1) := by decide +kernel
theorem dX11_part_46 : decode cX11_part 46 = .ok (.iload_n 2, 1) := by decide +kernel
theorem dX11_part_47 : decode cX11_part 47 = .ok (.invokevirtual 267, 3) := by decide +kernel
theorem dX11_part_50 : decode cX11_part 50 = .ok (.lstore 4, 2) := by decide +kernel
theorem dX11_part_52 : decode cX11_part 52 = .ok (.new 34, 3) := by decide +kernel
theorem dX11_part_55 : decode cX11_part 55 = .ok (.dup, 1) := by decide +kernel
theorem dX11_part_56 : decode cX11_part 56 = .ok (.aload_n 3, 1) := by decide +kernel
theorem dX11_part_57 : decode cX11_part 57 = .ok (.getfield 187, 3) := by decide +kernel
theorem dX11_part_60 : decode cX11_part 60 = .ok (.aload_n 3, 1) := by decide +kernel
theorem dX11_part_61 : decode cX11_part 61 = .ok (.getfield 194, 3) := by decide +kernel
theorem dX11_part_64 : decode cX11_part 64 = .ok (.aload_n 3, 1) := by decide +kernel
theorem dX11_part_65 : decode cX11_part 65 = .ok (.getfield 176, 3) := by decide +kernel
theorem dX11_part_68 : decode cX11_part 68 = .ok (.lload 4, 2) := by decide +kernel
theorem dX11_part_70 : decode cX11_part 70 = .ok (.lsub, 1) := by decide +kernel
theorem dX11_part_71 : decode cX11_part 71 = .ok (.aload_n 3, 1) := by decide +kernel
theorem dX11_part_72 : decode cX11_part 72 = .ok (.getfield 209, 3) := by decide +kernel
theorem dX11_part_75 : decode cX11_part 75 = .ok (.invokespecial 169, 3) := by decide +kernel
theorem dX11_part_78 : decode cX11_part 78 = .ok (.astore 6, 2) := by decide +kernel
theorem dX11_part_80 : decode cX11_part 80 = .ok (.aload 6, 2) := by decide +kernel
theorem dX11_part_82 : decode cX11_part 82 = .ok (.aload_n 3, 1) := by decide +kernel
theorem dX11_part_83 : decode cX11_part 83 = .ok (.getfield 197, 3) := by decide +kernel
theorem dX11_part_86 : decode cX11_part 86 = .ok (.putfield 197, 3) := by decide +kernel
theorem dX11_part_89 : decode cX11_part 89 = .ok (.aload 6, 2) := by decide +kernel
theorem dX11_part_91 : decode cX11_part 91 = .ok (.aload_n 3, 1) := by decide +kernel
theorem dX11_part_92 : decode cX11_part 92 = .ok (.getfield 203, 3) := by decide +kernel
theorem dX11_part_95 : decode cX11_part 95 = .ok (.putfield 203, 3) := by decide +kernel
theorem dX11_part_98 : decode cX11_part 98 = .ok (.aload 6, 2) := by decide +kernel
theorem dX11_part_100 : decode cX11_part 100 = .ok (.aload_n 3, 1) := by decide +kernel
theorem dX11_part_101 : decode cX11_part 101 = .ok (.getfield 206, 3) := by decide +kernel
theorem dX11_part_104 : decode cX11_part 104 = .ok (.putfield 206, 3) := by decide +kernel
theorem dX11_part_107 : decode cX11_part 107 = .ok (.aload_n 3, 1) := by decide +kernel
theorem dX11_part_108 : decode cX11_part 108 = .ok (.lload 4, 2) := by decide +kernel
theorem dX11_part_110 : decode cX11_part 110 = .ok (.putfield 176, 3) := by decide +kernel
theorem dX11_part_113 : decode cX11_part 113 = .ok (.aload_n 0, 1) := by decide +kernel
theorem dX11_part_114 : decode cX11_part 114 = .ok (.aload 6, 2) := by decide +kernel
theorem dX11_part_116 : decode cX11_part 116 = .ok (.invokevirtual 179, 3) := by decide +kernel
theorem dX11_part_119 : decode cX11_part 119 = .ok (.ireturn, 1) := by decide +kernel
theorem dX11_join_0 : decode cX11_join 0 = .ok (.aload_n 0, 1) := by decide +kernel
theorem dX11_join_1 : decode cX11_join 1 = .ok (.iload_n 1, 1) := by decide +kernel
theorem dX11_join_2 : decode cX11_join 2 = .ok (.invokevirtual 183, 3) := by decide +kernel
theorem dX11_join_5 : decode cX11_join 5 = .ok (.astore_n 3, 1) := by decide +kernel
theorem dX11_join_6 : decode cX11_join 6 = .ok (.aload_n 0, 1) := by decide +kernel
theorem dX11_join_7 : decode cX11_join 7 = .ok (.iload_n 2, 1) := by decide +kernel
theorem dX11_join_8 : decode cX11_join 8 = .ok (.invokevirtual 183, 3) := by decide +kernel
theorem dX11_join_11 : decode cX11_join 11 = .ok (.astore 4, 2) := by decide +kernel
theorem dX11_join_13 : decode cX11_join 13 = .ok (.aload_n 3, 1) := by decide +kernel
theorem dX11_join_14 : decode cX11_join 14 = .ok (.ifnull 8, 3) := by decide +kernel
theorem dX11_join_17 : decode cX11_join 17 = .ok (.aload 4, 2) := by decide +kernel
theorem dX11_join_19 : decode cX11_join 19 = .ok (.ifnonnull 6, 3) := by decide +kernel
theorem dX11_join_22 : decode cX11_join 22 = .ok (.bipush (-2), 2) := by decide +kernel
theorem dX11_join_24 : decode cX11_join 24 = .ok (.ireturn, 1) := by decide +kernel
theorem dX11_join_25 : decode cX11_join 25 = .ok (.iload_n 1, 1) := by decide +kernel
theorem dX11_join_26 : decode cX11_join 26 = .ok (.iload_n 2, 1) := by decide +kernel
theorem dX11_join_27 : decode cX11_join 27 = .ok (.if_icmp .ne 6, 3) := by decide +kernel
theorem dX11_join_30 : decode cX11_join 30 = .ok (.bipush (-3), 2) := by decide +kernel
theorem dX11_join_32 : decode cX11_join 32 = .ok (.ireturn, 1) := by decide +kernel
theorem dX11_join_33 : decode cX11_join 33 = .ok (.aload_n 3, 1) := by decide +kernel
theorem dX11_join_34 : decode cX11_join 34 = .ok (.getfield 187, 3) := by decide +kernel
theorem dX11_join_37 : decode cX11_join 37 = .ok (.aload 4, 2) := by decide +kernel
theorem dX11_join_39 : decode cX11_join 39 = .ok (.getfield 187, 3) := by decide +kernel
theorem dX11_join_42 : decode cX11_join 42 = .ok (.if_acmp .ne 15, 3) := by decide +kernel
theorem dX11_join_45 : decode cX11_join 45 = .ok (.aload_n 3, 1) := by decide +kernel
theorem dX11_join_46 : decode cX11_join 46 = .ok (.getfield 194, 3) := by decide +kernel
theorem dX11_join_49 : decode cX11_join 49 = .ok (.aload 4, 2) := by decide +kernel
theorem dX11_join_51 : decode cX11_join 51 = .ok (.getfield 194, 3) := by decide +kernel
theorem dX11_join_54 : decode cX11_join 54 = .ok (.if_icmp .eq 6, 3) := by decide +kernel
theorem dX11_join_57 : decode cX11_join 57 = .ok (.bipush (-4), 2) := by decide +kernel
theorem dX11_join_59 : decode cX11_join 59 = .ok (.ireturn, 1) := by decide +kernel
theorem dX11_join_60 : decode cX11_join 60 = .ok (.aload 4, 2) := by decide +kernel
theorem dX11_join_62 : decode cX11_join 62 = .ok (.invokevirtual 200, 3) := by decide +kernel
theorem dX11_join_65 : decode cX11_join 65 = .ok (.aload_n 0, 1) := by decide +kernel
theorem dX11_join_66 : decode cX11_join 66 = .ok (.getfield 10, 3) := by decide +kernel
theorem dX11_join_69 : decode cX11_join 69 = .ok (.getfield 271, 3) := by decide +kernel
theorem dX11_join_72 : decode cX11_join 72 = .ok (.iconst 1, 1) := by decide +kernel
theorem dX11_join_73 : decode cX11_join 73 = .ok (.iadd, 1) := by decide +kernel
theorem dX11_join_74 : decode cX11_join 74 = .ok (.if_icmp .ge 6, 3) := by decide +kernel
theorem dX11_join_77 : decode cX11_join 77 = .ok (.bipush (-4), 2) := by decide +kernel
theorem dX11_join_79 : decode cX11_join 79 = .ok (.ireturn, 1) := by decide +kernel
theorem dX11_join_80 : decode cX11_join 80 = .ok (.aload 4, 2) := by decide +kernel
theorem dX11_join_82 : decode cX11_join 82 = .ok (.aload_n 0, 1) := by decide +kernel
theorem dX11_join_83 : decode cX11_join 83 = .ok (.getfield 10, 3) := by decide +kernel
theorem dX11_join_86 : decode cX11_join 86 = .ok (.getfield 271, 3) := by decide +kernel
theorem dX11_join_89 : decode cX11_join 89 = .ok (.invokevirtual 267, 3) := by decide +kernel
theorem dX11_join_92 : decode cX11_join 92 = .ok (.lstore 5, 2) := by decide +kernel
theorem dX11_join_94 : decode cX11_join 94 = .ok (.aload_n 3, 1) := by decide +kernel
theorem dX11_join_95 : decode cX11_join 95 = .ok (.dup, 1) := by decide +kernel
theorem dX11_join_96 : decode cX11_join 96 = .ok (.getfield 176, 3) := by decide +kernel
theorem dX11_join_99 : decode cX11_join 99 = .ok (.aload 4, 2) := by decide +kernel
theorem dX11_join_101 : decode cX11_join 101 = .ok (.getfield 176, 3) := by decide +kernel
theorem dX11_join_104 : decode cX11_join 104 = .ok (.lload 5, 2) := by decide +kernel
theorem dX11_join_106 : decode cX11_join 106 = .ok (.lsub, 1) := by decide +kernel
theorem dX11_join_107 : decode cX11_join 107 = .ok (.ladd, 1) := by decide +kernel
theorem dX11_join_108 : decode cX11_join 108 = .ok (.putfield 176, 3) := by decide +kernel
theorem dX11_join_111 : decode cX11_join 111 = .ok (.aload 4, 2) := by decide +kernel
theorem dX11_join_113 : decode cX11_join 113 = .ok (.lconst 0, 1) := by decide +kernel
theorem dX11_join_114 : decode cX11_join 114 = .ok (.putfield 176, 3) := by decide +kernel
theorem dX11_join_117 : decode cX11_join 117 = .ok (.aload_n 0, 1) := by decide +kernel
theorem dX11_join_118 : decode cX11_join 118 = .ok (.dup, 1) := by decide +kernel
theorem dX11_join_119 : decode cX11_join 119 = .ok (.getfield 274, 3) := by decide +kernel
theorem dX11_join_122 : decode cX11_join 122 = .ok (.lload 5, 2) := by decide +kernel
theorem dX11_join_124 : decode cX11_join 124 = .ok (.ladd, 1) := by decide +kernel
theorem dX11_join_125 : decode cX11_join 125 = .ok (.putfield 274, 3) := by decide +kernel
theorem dX11_join_128 : decode cX11_join 128 = .ok (.aload_n 3, 1) := by decide +kernel
theorem dX11_join_129 : decode cX11_join 129 = .ok (.aload_n 3, 1) := by decide +kernel
theorem dX11_join_130 : decode cX11_join 130 = .ok (.getfield 197, 3) := by decide +kernel
theorem dX11_join_133 : decode cX11_join 133 = .ok (.aload 4, 2) := by decide +kernel
theorem dX11_join_135 : decode cX11_join 135 = .ok (.getfield 197, 3) := by decide +kernel
theorem dX11_join_138 : decode cX11_join 138 = .ok (.invokestatic 246, 3) := by decide +kernel
theorem dX11_join_141 : decode cX11_join 141 = .ok (.putfield 197, 3) := by decide +kernel
theorem dX11_join_144 : decode cX11_join 144 = .ok (.aload_n 3, 1) := by decide +kernel
theorem dX11_join_145 : decode cX11_join 145 = .ok (.dup, 1) := by decide +kernel
theorem dX11_join_146 : decode cX11_join 146 = .ok (.getfield 203, 3) := by decide +kernel
theorem dX11_join_149 : decode cX11_join 149 = .ok (.aload 4, 2) := by decide +kernel
theorem dX11_join_151 : decode cX11_join 151 = .ok (.getfield 203, 3) := by decide +kernel
theorem dX11_join_154 : decode cX11_join 154 = .ok (.iconst 1, 1) := by decide +kernel
theorem dX11_join_155 : decode cX11_join 155 = .ok (.iadd, 1) := by decide +kernel
theorem dX11_join_156 : decode cX11_join 156 = .ok (.iadd, 1) := by decide +kernel
theorem dX11_join_157 : decode cX11_join 157 = .ok (.putfield 203, 3) := by decide +kernel
theorem dX11_join_160 : decode cX11_join 160 = .ok (.aload_n 3, 1) := by decide +kernel
theorem dX11_join_161 : decode cX11_join 161 = .ok (.aload_n 3, 1) := by decide +kernel
theorem dX11_join_162 : decode cX11_join 162 = .ok (.getfield 206, 3) := by decide +kernel
theorem dX11_join_165 : decode cX11_join 165 = .ok (.aload 4, 2) := by decide +kernel
theorem dX11_join_167 : decode cX11_join 167 = .ok (.getfield 206, 3) := by decide +kernel
theorem dX11_join_170 : decode cX11_join 170 = .ok (.invokestatic 246, 3) := by decide +kernel
theorem dX11_join_173 : decode cX11_join 173 = .ok (.putfield 206, 3) := by decide +kernel
theorem dX11_join_176 : decode cX11_join 176 = .ok (.aload_n 3, 1) := by decide +kernel
theorem dX11_join_177 : decode cX11_join 177 = .ok (.aload_n 3, 1) := by decide +kernel
theorem dX11_join_178 : decode cX11_join 178 = .ok (.getfield 209, 3) := by decide +kernel
theorem dX11_join_181 : decode cX11_join 181 = .ok (.ifCond .ne 11, 3) := by decide +kernel
theorem dX11_join_184 : decode cX11_join 184 = .ok (.aload 4, 2) := by decide +kernel
theorem dX11_join_186 : decode cX11_join 186 = .ok (.getfield 209, 3) := by decide +kernel
theorem dX11_join_189 : decode cX11_join 189 = .ok (.ifCond .eq 7, 3) := by decide +kernel
theorem dX11_join_192 : decode cX11_join 192 = .ok (.iconst 1, 1) := by decide +kernel
theorem dX11_join_193 : decode cX11_join 193 = .ok (.goto 4, 3) := by decide +kernel
theorem dX11_join_196 : decode cX11_join 196 = .ok (.iconst 0, 1) := by decide +kernel
theorem dX11_join_197 : decode cX11_join 197 = .ok (.putfield 209, 3) := by decide +kernel
theorem dX11_join_200 : decode cX11_join 200 = .ok (.aload_n 3, 1) := by decide +kernel
theorem dX11_join_201 : decode cX11_join 201 = .ok (.invokevirtual 200, 3) := by decide +kernel
theorem dX11_join_204 : decode cX11_join 204 = .ok (.ireturn, 1) := by decide +kernel
theorem dX11_scrap_0 : decode cX11_scrap 0 = .ok (.aload_n 0, 1) := by decide +kernel
theorem dX11_scrap_1 : decode cX11_scrap 1 = .ok (.iload_n 1, 1) := by decide +kernel
theorem dX11_scrap_2 : decode cX11_scrap 2 = .ok (.invokevirtual 183, 3) := by decide +kernel
theorem dX11_scrap_5 : decode cX11_scrap 5 = .ok (.astore_n 2, 1) := by decide +kernel
theorem dX11_scrap_6 : decode cX11_scrap 6 = .ok (.aload_n 2, 1) := by decide +kernel
theorem dX11_scrap_7 : decode cX11_scrap 7 = .ok (.ifnonnull 6, 3) := by decide +kernel
theorem dX11_scrap_10 : decode cX11_scrap 10 = .ok (.bipush (-2), 2) := by decide +kernel
theorem dX11_scrap_12 : decode cX11_scrap 12 = .ok (.ireturn, 1) := by decide +kernel
theorem dX11_scrap_13 : decode cX11_scrap 13 = .ok (.aload_n 0, 1) := by decide +kernel
theorem dX11_scrap_14 : decode cX11_scrap 14 = .ok (.aload_n 2, 1) := by decide +kernel
theorem dX11_scrap_15 : decode cX11_scrap 15 = .ok (.invokevirtual 263, 3) := by decide +kernel
theorem dX11_scrap_18 : decode cX11_scrap 18 = .ok (.iconst 1, 1) := by decide +kernel
theorem dX11_scrap_19 : decode cX11_scrap 19 = .ok (.ireturn, 1) := by decide +kernel
theorem dX11_ready_0 : decode cX11_ready 0 = .ok (.iload_n 1, 1) := by decide +kernel
theorem dX11_ready_1 : decode cX11_ready 1 = .ok (.iconst 3, 1) := by decide +kernel
theorem dX11_ready_2 : decode cX11_ready 2 = .ok (.if_icmp .ne 8, 3) := by decide +kernel
theorem dX11_ready_5 : decode cX11_ready 5 = .ok (.aload_n 0, 1) := by decide +kernel
theorem dX11_ready_6 : decode cX11_ready 6 = .ok (.getfield 243, 3) := by decide +kernel
theorem dX11_ready_9 : decode cX11_ready 9 = .ok (.ireturn, 1) := by decide +kernel
theorem dX11_ready_10 : decode cX11_ready 10 = .ok (.aload_n 0, 1) := by decide +kernel
theorem dX11_ready_11 : decode cX11_ready 11 = .ok (.iload_n 1, 1) := by decide +kernel
theorem dX11_ready_12 : decode cX11_ready 12 = .ok (.invokevirtual 121, 3) := by decide +kernel
theorem dX11_ready_15 : decode cX11_ready 15 = .ok (.astore_n 2, 1) := by decide +kernel
theorem dX11_ready_16 : decode cX11_ready 16 = .ok (.aload_n 2, 1) := by decide +kernel
theorem dX11_ready_17 : decode cX11_ready 17 = .ok (.ifnonnull 8, 3) := by decide +kernel
theorem dX11_ready_20 : decode cX11_ready 20 = .ok (.bipush (-2), 2) := by decide +kernel
theorem dX11_ready_22 : decode cX11_ready 22 = .ok (.goto 7, 3) := by decide +kernel
theorem dX11_ready_25 : decode cX11_ready 25 = .ok (.aload_n 2, 1) := by decide +kernel
theorem dX11_ready_26 : decode cX11_ready 26 = .ok (.getfield 277, 3) := by decide +kernel
theorem dX11_ready_29 : decode cX11_ready 29 = .ok (.ireturn, 1) := by decide +kernel
theorem dX11_way_0 : decode cX11_way 0 = .ok (.aload_n 0, 1) := by decide +kernel
theorem dX11_way_1 : decode cX11_way 1 = .ok (.iload_n 1, 1) := by decide +kernel
theorem dX11_way_2 : decode cX11_way 2 = .ok (.iload_n 2, 1) := by decide +kernel
theorem dX11_way_3 : decode cX11_way 3 = .ok (.iload_n 3, 1) := by decide +kernel
theorem dX11_way_4 : decode cX11_way 4 = .ok (.iload 4, 2) := by decide +kernel
theorem dX11_way_6 : decode cX11_way 6 = .ok (.iload 5, 2) := by decide +kernel
theorem dX11_way_8 : decode cX11_way 8 = .ok (.invokevirtual 278, 3) := by decide +kernel
theorem dX11_way_11 : decode cX11_way 11 = .ok (.ireturn, 1) := by decide +kernel
theorem dX11_step_0 : decode cX11_step 0 = .ok (.aload_n 0, 1) := by decide +kernel
theorem dX11_step_1 : decode cX11_step 1 = .ok (.iload_n 1, 1) := by decide +kernel
theorem dX11_step_2 : decode cX11_step 2 = .ok (.iload_n 2, 1) := by decide +kernel
theorem dX11_step_3 : decode cX11_step 3 = .ok (.iload_n 3, 1) := by decide +kernel
theorem dX11_step_4 : decode cX11_step 4 = .ok (.iload 4, 2) := by decide +kernel
theorem dX11_step_6 : decode cX11_step 6 = .ok (.iload 5, 2) := by decide +kernel
theorem dX11_step_8 : decode cX11_step 8 = .ok (.invokevirtual 278, 3) := by decide +kernel
theorem dX11_step_11 : decode cX11_step 11 = .ok (.istore 7, 2) := by decide +kernel
theorem dX11_step_13 : decode cX11_step 13 = .ok (.iload 7, 2) := by decide +kernel
theorem dX11_step_15 : decode cX11_step 15 = .ok (.bipush (-2), 2) := by decide +kernel
theorem dX11_step_17 : decode cX11_step 17 = .ok (.if_icmp .ne 6, 3) := by decide +kernel
theorem dX11_step_20 : decode cX11_step 20 = .ok (.bipush (-2), 2) := by decide +kernel
theorem dX11_step_22 : decode cX11_step 22 = .ok (.ireturn, 1) := by decide +kernel
theorem dX11_step_23 : decode cX11_step 23 = .ok (.iload 7, 2) := by decide +kernel
theorem dX11_step_25 : decode cX11_step 25 = .ok (.bipush (-3), 2) := by decide +kernel
theorem dX11_step_27 : decode cX11_step 27 = .ok (.if_icmp .eq 8, 3) := by decide +kernel
theorem dX11_step_30 : decode cX11_step 30 = .ok (.iload 6, 2) := by decide +kernel
theorem dX11_step_32 : decode cX11_step 32 = .ok (.ifCond .ge 6, 3) := by decide +kernel
theorem dX11_step_35 : decode cX11_step 35 = .ok (.bipush (-3), 2) := by decide +kernel
theorem dX11_step_37 : decode cX11_step 37 = .ok (.ireturn, 1) := by decide +kernel
theorem dX11_step_38 : decode cX11_step 38 = .ok (.iload 7, 2) := by decide +kernel
theorem dX11_step_40 : decode cX11_step 40 = .ok (.iconst (-1), 1) := by decide +kernel
theorem dX11_step_41 : decode cX11_step 41 = .ok (.if_icmp .ne 7, 3) := by decide +kernel
theorem dX11_step_44 : decode cX11_step 44 = .ok (.iconst (-1), 1) := by decide +kernel
theorem dX11_step_45 : decode cX11_step 45 = .ok (.goto 12, 3) := by decide +kernel
theorem dX11_step_48 : decode cX11_step 48 = .ok (.aload_n 0, 1) := by decide +kernel
theorem dX11_step_49 : decode cX11_step 49 = .ok (.getfield 67, 3) := by decide +kernel
theorem dX11_step_52 : decode cX11_step 52 = .ok (.iload 6, 2) := by decide +kernel
theorem dX11_step_54 : decode cX11_step 54 = .ok (.invokevirtual 282, 3) := by decide +kernel
theorem dX11_step_57 : decode cX11_step 57 = .ok (.ireturn, 1) := by decide +kernel
theorem dX11_go_0 : decode cX11_go 0 = .ok (.aload_n 0, 1) := by decide +kernel
theorem dX11_go_1 : decode cX11_go 1 = .ok (.iload_n 1, 1) := by decide +kernel
theorem dX11_go_2 : decode cX11_go 2 = .ok (.iload_n 2, 1) := by decide +kernel
theorem dX11_go_3 : decode cX11_go 3 = .ok (.iload_n 3, 1) := by decide +kernel
theorem dX11_go_4 : decode cX11_go 4 = .ok (.iload 4, 2) := by decide +kernel
theorem dX11_go_6 : decode cX11_go 6 = .ok (.iload 5, 2) := by decide +kernel
theorem dX11_go_8 : decode cX11_go 8 = .ok (.invokevirtual 278, 3) := by decide +kernel
theorem dX11_go_11 : decode cX11_go 11 = .ok (.istore 6, 2) := by decide +kernel
theorem dX11_go_13 : decode cX11_go 13 = .ok (.iload 6, 2) := by decide +kernel
theorem dX11_go_15 : decode cX11_go 15 = .ok (.ifCond .ge 17, 3) := by decide +kernel
theorem dX11_go_18 : decode cX11_go 18 = .ok (.iload 6, 2) := by decide +kernel
theorem dX11_go_20 : decode cX11_go 20 = .ok (.iconst (-1), 1) := by decide +kernel
theorem dX11_go_21 : decode cX11_go 21 = .ok (.if_icmp .ne 8, 3) := by decide +kernel
theorem dX11_go_24 : decode cX11_go 24 = .ok (.bipush (-4), 2) := by decide +kernel
theorem dX11_go_26 : decode cX11_go 26 = .ok (.goto 5, 3) := by decide +kernel
theorem dX11_go_29 : decode cX11_go 29 = .ok (.iload 6, 2) := by decide +kernel
theorem dX11_go_31 : decode cX11_go 31 = .ok (.ireturn, 1) := by decide +kernel
theorem dX11_go_32 : decode cX11_go 32 = .ok (.aload_n 0, 1) := by decide +kernel
theorem dX11_go_33 : decode cX11_go 33 = .ok (.getfield 67, 3) := by decide +kernel
theorem dX11_go_36 : decode cX11_go 36 = .ok (.getfield 285, 3) := by decide +kernel
theorem dX11_go_39 : decode cX11_go 39 = .ok (.istore 7, 2) := by decide +kernel
theorem dX11_go_41 : decode cX11_go 41 = .ok (.iconst 0, 1) := by decide +kernel
theorem dX11_go_42 : decode cX11_go 42 = .ok (.istore 8, 2) := by decide +kernel
theorem dX11_go_44 : decode cX11_go 44 = .ok (.iload 8, 2) := by decide +kernel
theorem dX11_go_46 : decode cX11_go 46 = .ok (.iload 7, 2) := by decide +kernel
theorem dX11_go_48 : decode cX11_go 48 = .ok (.if_icmp .ge 54, 3) := by decide +kernel
theorem dX11_go_51 : decode cX11_go 51 = .ok (.aload_n 0, 1) := by decide +kernel
theorem dX11_go_52 : decode cX11_go 52 = .ok (.getfield 67, 3) := by decide +kernel
theorem dX11_go_55 : decode cX11_go 55 = .ok (.iload 8, 2) := by decide +kernel
theorem dX11_go_57 : decode cX11_go 57 = .ok (.invokevirtual 282, 3) := by decide +kernel
theorem dX11_go_60 : decode cX11_go 60 = .ok (.istore 9, 2) := by decide +kernel
theorem dX11_go_62 : decode cX11_go 62 = .ok (.iload 9, 2) := by decide +kernel
theorem dX11_go_64 : decode cX11_go 64 = .ok (.bipush 8, 2) := by decide +kernel
theorem dX11_go_66 : decode cX11_go 66 = .ok (.if_icmp .ne 11, 3) := by decide +kernel
theorem dX11_go_69 : decode cX11_go 69 = .ok (.aload_n 0, 1) := by decide +kernel
theorem dX11_go_70 : decode cX11_go 70 = .ok (.iload_n 1, 1) := by decide +kernel
theorem dX11_go_71 : decode cX11_go 71 = .ok (.invokevirtual 288, 3) := by decide +kernel
theorem dX11_go_74 : decode cX11_go 74 = .ok (.goto 12, 3) := by decide +kernel
theorem dX11_go_77 : decode cX11_go 77 = .ok (.aload_n 0, 1) := by decide +kernel
theorem dX11_go_78 : decode cX11_go 78 = .ok (.iload_n 1, 1) := by decide +kernel
theorem dX11_go_79 : decode cX11_go 79 = .ok (.iload_n 2, 1) := by decide +kernel
theorem dX11_go_80 : decode cX11_go 80 = .ok (.iload 9, 2) := by decide +kernel
theorem dX11_go_82 : decode cX11_go 82 = .ok (.iload_n 3, 1) := by decide +kernel
theorem dX11_go_83 : decode cX11_go 83 = .ok (.invokevirtual 291, 3) := by decide +kernel
theorem dX11_go_86 : decode cX11_go 86 = .ok (.istore 10, 2) := by decide +kernel
theorem dX11_go_88 : decode cX11_go 88 = .ok (.iload 10, 2) := by decide +kernel
theorem dX11_go_90 : decode cX11_go 90 = .ok (.ifCond .ge 6, 3) := by decide +kernel
theorem dX11_go_93 : decode cX11_go 93 = .ok (.iload 8, 2) := by decide +kernel
theorem dX11_go_95 : decode cX11_go 95 = .ok (.ireturn, 1) := by decide +kernel
theorem dX11_go_96 : decode cX11_go 96 = .ok (.iinc 8 1, 3) := by decide +kernel
theorem dX11_go_99 : decode cX11_go 99 = .ok (.goto (-55), 3) := by decide +kernel
theorem dX11_go_102 : decode cX11_go 102 = .ok (.iload 7, 2) := by decide +kernel
theorem dX11_go_104 : decode cX11_go 104 = .ok (.ireturn, 1) := by decide +kernel
theorem dX11_order_0 : decode cX11_order 0 = .ok (.aload_n 0, 1) := by decide +kernel
theorem dX11_order_1 : decode cX11_order 1 = .ok (.iload_n 1, 1) := by decide +kernel
theorem dX11_order_2 : decode cX11_order 2 = .ok (.invokevirtual 85, 3) := by decide +kernel
theorem dX11_order_5 : decode cX11_order 5 = .ok (.astore 5, 2) := by decide +kernel
theorem dX11_order_7 : decode cX11_order 7 = .ok (.aload 5, 2) := by decide +kernel
theorem dX11_order_9 : decode cX11_order 9 = .ok (.ifnonnull 6, 3) := by decide +kernel
theorem dX11_order_12 : decode cX11_order 12 = .ok (.bipush (-2), 2) := by decide +kernel
theorem dX11_order_14 : decode cX11_order 14 = .ok (.ireturn, 1) := by decide +kernel
theorem dX11_order_15 : decode cX11_order 15 = .ok (.iload_n 2, 1) := by decide +kernel
theorem dX11_order_16 : decode cX11_order 16 = .ok (.iload_n 3, 1) := by decide +kernel
theorem dX11_order_17 : decode cX11_order 17 = .ok (.invokestatic 295, 3) := by decide +kernel
theorem dX11_order_20 : decode cX11_order 20 = .ok (.ifCond .eq 15, 3) := by decide +kernel
theorem dX11_order_23 : decode cX11_order 23 = .ok (.iload 4, 2) := by decide +kernel
theorem dX11_order_25 : decode cX11_order 25 = .ok (.iconst 1, 1) := by decide +kernel
theorem dX11_order_26 : decode cX11_order 26 = .ok (.sipush 10000, 3) := by decide +kernel
theorem dX11_order_29 : decode cX11_order 29 = .ok (.invokestatic 89, 3) := by decide +kernel
theorem dX11_order_32 : decode cX11_order 32 = .ok (.ifCond .ne 6, 3) := by decide +kernel
theorem dX11_order_35 : decode cX11_order 35 = .ok (.bipush (-3), 2) := by decide +kernel
theorem dX11_order_37 : decode cX11_order 37 = .ok (.ireturn, 1) := by decide +kernel
theorem dX11_order_38 : decode cX11_order 38 = .ok (.aload_n 0, 1) := by decide +kernel
theorem dX11_order_39 : decode cX11_order 39 = .ok (.getfield 298, 3) := by decide +kernel
theorem dX11_order_42 : decode cX11_order 42 = .ok (.ifCond .lt 15, 3) := by decide +kernel
theorem dX11_order_45 : decode cX11_order 45 = .ok (.aload_n 0, 1) := by decide +kernel
theorem dX11_order_46 : decode cX11_order 46 = .ok (.getfield 298, 3) := by decide +kernel
theorem dX11_order_49 : decode cX11_order 49 = .ok (.aload_n 0, 1) := by decide +kernel
theorem dX11_order_50 : decode cX11_order 50 = .ok (.getfield 42, 3) := by decide +kernel
theorem dX11_order_53 : decode cX11_order 53 = .ok (.arraylength, 1) := by decide +kernel
theorem dX11_order_54 : decode cX11_order 54 = .ok (.if_icmp .lt 6, 3) := by decide +kernel
theorem dX11_order_57 : decode cX11_order 57 = .ok (.bipush (-8), 2) := by decide +kernel
theorem dX11_order_59 : decode cX11_order 59 = .ok (.ireturn, 1) := by decide +kernel
theorem dX11_order_60 : decode cX11_order 60 = .ok (.aload_n 0, 1) := by decide +kernel
theorem dX11_order_61 : decode cX11_order 61 = .ok (.getfield 42, 3) := by decide +kernel
theorem dX11_order_64 : decode cX11_order 64 = .ok (.aload_n 0, 1) := by decide +kernel
theorem dX11_order_65 : decode cX11_order 65 = .ok (.getfield 298, 3) := by decide +kernel
theorem dX11_order_68 : decode cX11_order 68 = .ok (.new 40, 3) := by decide +kernel
theorem dX11_order_71 : decode cX11_order 71 = .ok (.dup, 1) := by decide +kernel
theorem dX11_order_72 : decode cX11_order 72 = .ok (.aload 5, 2) := by decide +kernel
theorem dX11_order_74 : decode cX11_order 74 = .ok (.iload_n 2, 1) := by decide +kernel
theorem dX11_order_75 : decode cX11_order 75 = .ok (.iload_n 3, 1) := by decide +kernel
theorem dX11_order_76 : decode cX11_order 76 = .ok (.iload 4, 2) := by decide +kernel
theorem dX11_order_78 : decode cX11_order 78 = .ok (.invokespecial 301, 3) := by decide +kernel
theorem dX11_order_81 : decode cX11_order 81 = .ok (.aastore, 1) := by decide +kernel
theorem dX11_order_82 : decode cX11_order 82 = .ok (.aload_n 0, 1) := by decide +kernel
theorem dX11_order_83 : decode cX11_order 83 = .ok (.dup, 1) := by decide +kernel
theorem dX11_order_84 : decode cX11_order 84 = .ok (.getfield 298, 3) := by decide +kernel
theorem dX11_order_87 : decode cX11_order 87 = .ok (.dup_x1, 1) := by decide +kernel
theorem dX11_order_88 : decode cX11_order 88 = .ok (.iconst 1, 1) := by decide +kernel
theorem dX11_order_89 : decode cX11_order 89 = .ok (.iadd, 1) := by decide +kernel
theorem dX11_order_90 : decode cX11_order 90 = .ok (.putfield 298, 3) := by decide +kernel
theorem dX11_order_93 : decode cX11_order 93 = .ok (.ireturn, 1) := by decide +kernel
theorem dX11_cutting_0 : decode cX11_cutting 0 = .ok (.aload_n 0, 1) := by decide +kernel
theorem dX11_cutting_1 : decode cX11_cutting 1 = .ok (.getfield 74, 3) := by decide +kernel
theorem dX11_cutting_4 : decode cX11_cutting 4 = .ok (.aload_n 0, 1) := by decide +kernel
theorem dX11_cutting_5 : decode cX11_cutting 5 = .ok (.getfield 36, 3) := by decide +kernel
theorem dX11_cutting_8 : decode cX11_cutting 8 = .ok (.aload_n 0, 1) := by decide +kernel
theorem dX11_cutting_9 : decode cX11_cutting 9 = .ok (.getfield 42, 3) := by decide +kernel
theorem dX11_cutting_12 : decode cX11_cutting 12 = .ok (.invokevirtual 304, 3) := by decide +kernel
theorem dX11_cutting_15 : decode cX11_cutting 15 = .ok (.aload_n 0, 1) := by decide +kernel
theorem dX11_cutting_16 : decode cX11_cutting 16 = .ok (.getfield 74, 3) := by decide +kernel
theorem dX11_cutting_19 : decode cX11_cutting 19 = .ok (.getfield 308, 3) := by decide +kernel
theorem dX11_cutting_22 : decode cX11_cutting 22 = .ok (.ireturn, 1) := by decide +kernel
theorem dX11_from_0 : decode cX11_from 0 = .ok (.aload_n 0, 1) := by decide +kernel
theorem dX11_from_1 : decode cX11_from 1 = .ok (.iload_n 1, 1) := by decide +kernel
theorem dX11_from_2 : decode cX11_from 2 = .ok (.invokevirtual 310, 3) := by decide +kernel
theorem dX11_from_5 : decode cX11_from 5 = .ok (.ifnonnull 6, 3) := by decide +kernel
theorem dX11_from_8 : decode cX11_from 8 = .ok (.bipush (-2), 2) := by decide +kernel
theorem dX11_from_10 : decode cX11_from 10 = .ok (.ireturn, 1) := by decide +kernel
theorem dX11_from_11 : decode cX11_from 11 = .ok (.aload_n 0, 1) := by decide +kernel
theorem dX11_from_12 : decode cX11_from 12 = .ok (.getfield 74, 3) := by decide +kernel
theorem dX11_from_15 : decode cX11_from 15 = .ok (.aload_n 0, 1) := by decide +kernel
theorem dX11_from_16 : decode cX11_from 16 = .ok (.getfield 36, 3) := by decide +kernel
theorem dX11_from_19 : decode cX11_from 19 = .ok (.aload_n 0, 1) := by decide +kernel
theorem dX11_from_20 : decode cX11_from 20 = .ok (.getfield 42, 3) := by decide +kernel
theorem dX11_from_23 : decode cX11_from 23 = .ok (.invokevirtual 304, 3) := by decide +kernel
theorem dX11_from_26 : decode cX11_from 26 = .ok (.aload_n 0, 1) := by decide +kernel
theorem dX11_from_27 : decode cX11_from 27 = .ok (.getfield 74, 3) := by decide +kernel
theorem dX11_from_30 : decode cX11_from 30 = .ok (.iload_n 1, 1) := by decide +kernel
theorem dX11_from_31 : decode cX11_from 31 = .ok (.invokevirtual 314, 3) := by decide +kernel
theorem dX11_from_34 : decode cX11_from 34 = .ok (.ireturn, 1) := by decide +kernel
theorem dX11_cut_0 : decode cX11_cut 0 = .ok (.aload_n 0, 1) := by decide +kernel
theorem dX11_cut_1 : decode cX11_cut 1 = .ok (.getfield 74, 3) := by decide +kernel
theorem dX11_cut_4 : decode cX11_cut 4 = .ok (.aload_n 0, 1) := by decide +kernel
theorem dX11_cut_5 : decode cX11_cut 5 = .ok (.getfield 36, 3) := by decide +kernel
theorem dX11_cut_8 : decode cX11_cut 8 = .ok (.aload_n 0, 1) := by decide +kernel
theorem dX11_cut_9 : decode cX11_cut 9 = .ok (.getfield 42, 3) := by decide +kernel
theorem dX11_cut_12 : decode cX11_cut 12 = .ok (.invokevirtual 304, 3) := by decide +kernel
theorem dX11_cut_15 : decode cX11_cut 15 = .ok (.iconst 0, 1) := by decide +kernel
theorem dX11_cut_16 : decode cX11_cut 16 = .ok (.istore_n 1, 1) := by decide +kernel
theorem dX11_cut_17 : decode cX11_cut 17 = .ok (.iconst 0, 1) := by decide +kernel
theorem dX11_cut_18 : decode cX11_cut 18 = .ok (.istore_n 2, 1) := by decide +kernel
theorem dX11_cut_19 : decode cX11_cut 19 = .ok (.iload_n 2, 1) := by decide +kernel
theorem dX11_cut_20 : decode cX11_cut 20 = .ok (.aload_n 0, 1) := by decide +kernel
theorem dX11_cut_21 : decode cX11_cut 21 = .ok (.getfield 42, 3) := by decide +kernel
theorem dX11_cut_24 : decode cX11_cut 24 = .ok (.arraylength, 1) := by decide +kernel
theorem dX11_cut_25 : decode cX11_cut 25 = .ok (.if_icmp .ge 52, 3) := by decide +kernel
theorem dX11_cut_28 : decode cX11_cut 28 = .ok (.aload_n 0, 1) := by decide +kernel
theorem dX11_cut_29 : decode cX11_cut 29 = .ok (.aload_n 0, 1) := by decide +kernel
theorem dX11_cut_30 : decode cX11_cut 30 = .ok (.getfield 74, 3) := by decide +kernel
theorem dX11_cut_33 : decode cX11_cut 33 = .ok (.iload_n 2, 1) := by decide +kernel
theorem dX11_cut_34 : decode cX11_cut 34 = .ok (.invokevirtual 314, 3) := by decide +kernel
theorem dX11_cut_37 : decode cX11_cut 37 = .ok (.invokevirtual 183, 3) := by decide +kernel
theorem dX11_cut_40 : decode cX11_cut 40 = .ok (.astore_n 3, 1) := by decide +kernel
theorem dX11_cut_41 : decode cX11_cut 41 = .ok (.aload_n 3, 1) := by decide +kernel
theorem dX11_cut_42 : decode cX11_cut 42 = .ok (.ifnull 29, 3) := by decide +kernel
theorem dX11_cut_45 : decode cX11_cut 45 = .ok (.aload_n 0, 1) := by decide +kernel
theorem dX11_cut_46 : decode cX11_cut 46 = .ok (.getfield 42, 3) := by decide +kernel
theorem dX11_cut_49 : decode cX11_cut 49 = .ok (.iload_n 2, 1) := by decide +kernel
theorem dX11_cut_50 : decode cX11_cut 50 = .ok (.aaload, 1) := by decide +kernel
theorem dX11_cut_51 : decode cX11_cut 51 = .ok (.ifnonnull 6, 3) := by decide +kernel
theorem dX11_cut_54 : decode cX11_cut 54 = .ok (.goto 17, 3) := by decide +kernel
theorem dX11_cut_57 : decode cX11_cut 57 = .ok (.aload_n 0, 1) := by decide +kernel
theorem dX11_cut_58 : decode cX11_cut 58 = .ok (.aload_n 3, 1) := by decide +kernel
theorem dX11_cut_59 : decode cX11_cut 59 = .ok (.aload_n 0, 1) := by decide +kernel
theorem dX11_cut_60 : decode cX11_cut 60 = .ok (.getfield 42, 3) := by decide +kernel
theorem dX11_cut_63 : decode cX11_cut 63 = .ok (.iload_n 2, 1) := by decide +kernel
theorem dX11_cut_64 : decode cX11_cut 64 = .ok (.aaload, 1) := by decide +kernel
theorem dX11_cut_65 : decode cX11_cut 65 = .ok (.invokevirtual 317, 3) := by decide +kernel
theorem dX11_cut_68 : decode cX11_cut 68 = .ok (.iinc 1 1, 3) := by decide +kernel
theorem dX11_cut_71 : decode cX11_cut 71 = .ok (.iinc 2 1, 3) := by decide +kernel
theorem dX11_cut_74 : decode cX11_cut 74 = .ok (.goto (-55), 3) := by decide +kernel
theorem dX11_cut_77 : decode cX11_cut 77 = .ok (.iconst 0, 1) := by decide +kernel
theorem dX11_cut_78 : decode cX11_cut 78 = .ok (.istore_n 2, 1) := by decide +kernel
theorem dX11_cut_79 : decode cX11_cut 79 = .ok (.iload_n 2, 1) := by decide +kernel
theorem dX11_cut_80 : decode cX11_cut 80 = .ok (.aload_n 0, 1) := by decide +kernel
theorem dX11_cut_81 : decode cX11_cut 81 = .ok (.getfield 36, 3) := by decide +kernel
theorem dX11_cut_84 : decode cX11_cut 84 = .ok (.arraylength, 1) := by decide +kernel
theorem dX11_cut_85 : decode cX11_cut 85 = .ok (.if_icmp .ge 58, 3) := by decide +kernel
theorem dX11_cut_88 : decode cX11_cut 88 = .ok (.aload_n 0, 1) := by decide +kernel
theorem dX11_cut_89 : decode cX11_cut 89 = .ok (.getfield 36, 3) := by decide +kernel
theorem dX11_cut_92 : decode cX11_cut 92 = .ok (.iload_n 2, 1) := by decide +kernel
theorem dX11_cut_93 : decode cX11_cut 93 = .ok (.aaload, 1) := by decide +kernel
theorem dX11_cut_94 : decode cX11_cut 94 = .ok (.ifnull 43, 3) := by decide +kernel
theorem dX11_cut_97 : decode cX11_cut 97 = .ok (.aload_n 0, 1) := by decide +kernel
theorem dX11_cut_98 : decode cX11_cut 98 = .ok (.getfield 74, 3) := by decide +kernel
theorem dX11_cut_101 : decode cX11_cut 101 = .ok (.iload_n 2, 1) := by decide +kernel
theorem dX11_cut_102 : decode cX11_cut 102 = .ok (.invokevirtual 321, 3) := by decide +kernel
theorem dX11_cut_105 : decode cX11_cut 105 = .ok (.ifCond .eq 32, 3) := by decide +kernel
theorem dX11_cut_108 : decode cX11_cut 108 = .ok (.aload_n 0, 1) := by decide +kernel
theorem dX11_cut_109 : decode cX11_cut 109 = .ok (.getfield 36, 3) := by decide +kernel
theorem dX11_cut_112 : decode cX11_cut 112 = .ok (.iload_n 2, 1) := by decide +kernel
theorem dX11_cut_113 : decode cX11_cut 113 = .ok (.aaload, 1) := by decide +kernel
theorem dX11_cut_114 : decode cX11_cut 114 = .ok (.invokevirtual 200, 3) := by decide +kernel
theorem dX11_cut_117 : decode cX11_cut 117 = .ok (.aload_n 0, 1) := by decide +kernel
theorem dX11_cut_118 : decode cX11_cut 118 = .ok (.getfield 10, 3) := by decide +kernel
theorem dX11_cut_121 : decode cX11_cut 121 = .ok (.getfield 324, 3) := by decide +kernel
theorem dX11_cut_124 : decode cX11_cut 124 = .ok (.if_icmp .ge 13, 3) := by decide +kernel
theorem dX11_cut_127 : decode cX11_cut 127 = .ok (.aload_n 0, 1) := by decide +kernel
theorem dX11_cut_128 : decode cX11_cut 128 = .ok (.aload_n 0, 1) := by decide +kernel
theorem dX11_cut_129 : decode cX11_cut 129 = .ok (.getfield 36, 3) := by decide +kernel
theorem dX11_cut_132 : decode cX11_cut 132 = .ok (.iload_n 2, 1) := by decide +kernel
theorem dX11_cut_133 : decode cX11_cut 133 = .ok (.aaload, 1) := by decide +kernel
theorem dX11_cut_134 : decode cX11_cut 134 = .ok (.invokevirtual 263, 3) := by decide +kernel
theorem dX11_cut_137 : decode cX11_cut 137 = .ok (.iinc 2 1, 3) := by decide +kernel
theorem dX11_cut_140 : decode cX11_cut 140 = .ok (.goto (-61), 3) := by decide +kernel
theorem dX11_cut_143 : decode cX11_cut 143 = .ok (.iload_n 1, 1) := by decide +kernel
theorem dX11_cut_144 : decode cX11_cut 144 = .ok (.ireturn, 1) := by decide +kernel
theorem dX11_filled_0 : decode cX11_filled 0 = .ok (.aload_n 0, 1) := by decide +kernel
theorem dX11_filled_1 : decode cX11_filled 1 = .ok (.iload_n 1, 1) := by decide +kernel
theorem dX11_filled_2 : decode cX11_filled 2 = .ok (.invokevirtual 310, 3) := by decide +kernel
theorem dX11_filled_5 : decode cX11_filled 5 = .ok (.astore_n 2, 1) := by decide +kernel
theorem dX11_filled_6 : decode cX11_filled 6 = .ok (.aload_n 2, 1) := by decide +kernel
theorem dX11_filled_7 : decode cX11_filled 7 = .ok (.ifnonnull 6, 3) := by decide +kernel
theorem dX11_filled_10 : decode cX11_filled 10 = .ok (.bipush (-2), 2) := by decide +kernel
theorem dX11_filled_12 : decode cX11_filled 12 = .ok (.ireturn, 1) := by decide +kernel
theorem dX11_filled_13 : decode cX11_filled 13 = .ok (.aload_n 2, 1) := by decide +kernel
theorem dX11_filled_14 : decode cX11_filled 14 = .ok (.getfield 327, 3) := by decide +kernel
theorem dX11_filled_17 : decode cX11_filled 17 = .ok (.ifCond .eq 7, 3) := by decide +kernel
theorem dX11_filled_20 : decode cX11_filled 20 = .ok (.iconst 1, 1) := by decide +kernel
theorem dX11_filled_21 : decode cX11_filled 21 = .ok (.goto 4, 3) := by decide +kernel
theorem dX11_filled_24 : decode cX11_filled 24 = .ok (.iconst 0, 1) := by decide +kernel
theorem dX11_filled_25 : decode cX11_filled 25 = .ok (.ireturn, 1) := by decide +kernel
theorem dX11_note_0 : decode cX11_note 0 = .ok (.iload_n 1, 1) := by decide +kernel
theorem dX11_note_1 : decode cX11_note 1 = .ok (.iconst 0, 1) := by decide +kernel
theorem dX11_note_2 : decode cX11_note 2 = .ok (.bipush 7, 2) := by decide +kernel
theorem dX11_note_4 : decode cX11_note 4 = .ok (.invokestatic 89, 3) := by decide +kernel
theorem dX11_note_7 : decode cX11_note 7 = .ok (.ifCond .ne 6, 3) := by decide +kernel
theorem dX11_note_10 : decode cX11_note 10 = .ok (.bipush (-3), 2) := by decide +kernel
theorem dX11_note_12 : decode cX11_note 12 = .ok (.ireturn, 1) := by decide +kernel
theorem dX11_note_13 : decode cX11_note 13 = .ok (.aload_n 0, 1) := by decide +kernel
theorem dX11_note_14 : decode cX11_note 14 = .ok (.getfield 49, 3) := by decide +kernel
theorem dX11_note_17 : decode cX11_note 17 = .ok (.iload_n 1, 1) := by decide +kernel
theorem dX11_note_18 : decode cX11_note 18 = .ok (.iload_n 2, 1) := by decide +kernel
theorem dX11_note_19 : decode cX11_note 19 = .ok (.invokevirtual 330, 3) := by decide +kernel
theorem dX11_note_22 : decode cX11_note 22 = .ok (.ireturn, 1) := by decide +kernel
theorem dX11_tally_0 : decode cX11_tally 0 = .ok (.iload_n 1, 1) := by decide +kernel
theorem dX11_tally_1 : decode cX11_tally 1 = .ok (.invokestatic 334, 3) := by decide +kernel
theorem dX11_tally_4 : decode cX11_tally 4 = .ok (.ifCond .ne 6, 3) := by decide +kernel
theorem dX11_tally_7 : decode cX11_tally 7 = .ok (.bipush (-2), 2) := by decide +kernel
theorem dX11_tally_9 : decode cX11_tally 9 = .ok (.ireturn, 1) := by decide +kernel
theorem dX11_tally_10 : decode cX11_tally 10 = .ok (.iload_n 2, 1) := by decide +kernel
theorem dX11_tally_11 : decode cX11_tally 11 = .ok (.iconst 0, 1) := by decide +kernel
theorem dX11_tally_12 : decode cX11_tally 12 = .ok (.iconst 3, 1) := by decide +kernel
theorem dX11_tally_13 : decode cX11_tally 13 = .ok (.invokestatic 89, 3) := by decide +kernel
theorem dX11_tally_16 : decode cX11_tally 16 = .ok (.ifCond .eq 15, 3) := by decide +kernel
theorem dX11_tally_19 : decode cX11_tally 19 = .ok (.aload_n 0, 1) := by decide +kernel
theorem dX11_tally_20 : decode cX11_tally 20 = .ok (.getfield 49, 3) := by decide +kernel
theorem dX11_tally_23 : decode cX11_tally 23 = .ok (.iload_n 1, 1) := by decide +kernel
theorem dX11_tally_24 : decode cX11_tally 24 = .ok (.iload_n 2, 1) := by decide +kernel
theorem dX11_tally_25 : decode cX11_tally 25 = .ok (.invokevirtual 337, 3) := by decide +kernel
theorem dX11_tally_28 : decode cX11_tally 28 = .ok (.goto 5, 3) := by decide +kernel
theorem dX11_tally_31 : decode cX11_tally 31 = .ok (.bipush (-3), 2) := by decide +kernel
theorem dX11_tally_33 : decode cX11_tally 33 = .ok (.ireturn, 1) := by decide +kernel
theorem dX11_by_0 : decode cX11_by 0 = .ok (.iload_n 1, 1) := by decide +kernel
theorem dX11_by_1 : decode cX11_by 1 = .ok (.invokestatic 334, 3) := by decide +kernel
theorem dX11_by_4 : decode cX11_by 4 = .ok (.ifCond .eq 12, 3) := by decide +kernel
theorem dX11_by_7 : decode cX11_by 7 = .ok (.iload_n 2, 1) := by decide +kernel
theorem dX11_by_8 : decode cX11_by 8 = .ok (.iconst 0, 1) := by decide +kernel
theorem dX11_by_9 : decode cX11_by 9 = .ok (.iconst 1, 1) := by decide +kernel
theorem dX11_by_10 : decode cX11_by 10 = .ok (.invokestatic 89, 3) := by decide +kernel
theorem dX11_by_13 : decode cX11_by 13 = .ok (.ifCond .ne 7, 3) := by decide +kernel
theorem dX11_by_16 : decode cX11_by 16 = .ok (.ldc_w 340, 3) := by decide +kernel
theorem dX11_by_19 : decode cX11_by 19 = .ok (.ireturn, 1) := by decide +kernel
theorem dX11_by_20 : decode cX11_by 20 = .ok (.aload_n 0, 1) := by decide +kernel
theorem dX11_by_21 : decode cX11_by 21 = .ok (.getfield 49, 3) := by decide +kernel
theorem dX11_by_24 : decode cX11_by 24 = .ok (.iload_n 1, 1) := by decide +kernel
theorem dX11_by_25 : decode cX11_by 25 = .ok (.invokevirtual 341, 3) := by decide +kernel
theorem dX11_by_28 : decode cX11_by 28 = .ok (.istore_n 3, 1) := by decide +kernel
theorem dX11_by_29 : decode cX11_by 29 = .ok (.iload_n 3, 1) := by decide +kernel
theorem dX11_by_30 : decode cX11_by 30 = .ok (.ifCond .ne 7, 3) := by decide +kernel
theorem dX11_by_33 : decode cX11_by 33 = .ok (.ldc_w 340, 3) := by decide +kernel
theorem dX11_by_36 : decode cX11_by 36 = .ok (.ireturn, 1) := by decide +kernel
theorem dX11_by_37 : decode cX11_by 37 = .ok (.aload_n 0, 1) := by decide +kernel
theorem dX11_by_38 : decode cX11_by 38 = .ok (.getfield 49, 3) := by decide +kernel
theorem dX11_by_41 : decode cX11_by 41 = .ok (.iload_n 1, 1) := by decide +kernel
theorem dX11_by_42 : decode cX11_by 42 = .ok (.invokevirtual 344, 3) := by decide +kernel
theorem dX11_by_45 : decode cX11_by 45 = .ok (.istore 4, 2) := by decide +kernel
theorem dX11_by_47 : decode cX11_by 47 = .ok (.iload_n 2, 1) := by decide +kernel
theorem dX11_by_48 : decode cX11_by 48 = .ok (.ifCond .ne 9, 3) := by decide +kernel
theorem dX11_by_51 : decode cX11_by 51 = .ok (.iload 4, 2) := by decide +kernel
theorem dX11_by_53 : decode cX11_by 53 = .ok (.i2l, 1) := by decide +kernel
theorem dX11_by_54 : decode cX11_by 54 = .ok (.goto 5, 3) := by decide +kernel
theorem dX11_by_57 : decode cX11_by 57 = .ok (.iload_n 3, 1) := by decide +kernel
theorem dX11_by_58 : decode cX11_by 58 = .ok (.i2l, 1) := by decide +kernel
theorem dX11_by_59 : decode cX11_by 59 = .ok (.iload 4, 2) := by decide +kernel
theorem dX11_by_61 : decode cX11_by 61 = .ok (.invokestatic 347, 3) := by decide +kernel
theorem dX11_by_64 : decode cX11_by 64 = .ok (.iload_n 3, 1) := by decide +kernel
theorem dX11_by_65 : decode cX11_by 65 = .ok (.invokestatic 350, 3) := by decide +kernel
theorem dX11_by_68 : decode cX11_by 68 = .ok (.i2l, 1) := by decide +kernel
theorem dX11_by_69 : decode cX11_by 69 = .ok (.invokestatic 353, 3) := by decide +kernel
theorem dX11_by_72 : decode cX11_by 72 = .ok (.l2i, 1) := by decide +kernel
theorem dX11_by_73 : decode cX11_by 73 = .ok (.ireturn, 1) := by decide +kernel
theorem dX11_chance_0 : decode cX11_chance 0 = .ok (.iload_n 1, 1) := by decide +kernel
theorem dX11_chance_1 : decode cX11_chance 1 = .ok (.invokestatic 334, 3) := by decide +kernel
theorem dX11_chance_4 : decode cX11_chance 4 = .ok (.ifCond .ne 6, 3) := by decide +kernel
theorem dX11_chance_7 : decode cX11_chance 7 = .ok (.bipush (-2), 2) := by decide +kernel
theorem dX11_chance_9 : decode cX11_chance 9 = .ok (.ireturn, 1) := by decide +kernel
theorem dX11_chance_10 : decode cX11_chance 10 = .ok (.aload_n 0, 1) := by decide +kernel
theorem dX11_chance_11 : decode cX11_chance 11 = .ok (.getfield 49, 3) := by decide +kernel
theorem dX11_chance_14 : decode cX11_chance 14 = .ok (.iload_n 1, 1) := by decide +kernel
theorem dX11_chance_15 : decode cX11_chance 15 = .ok (.invokevirtual 357, 3) := by decide +kernel
theorem dX11_chance_18 : decode cX11_chance 18 = .ok (.ifCond .eq 7, 3) := by decide +kernel
theorem dX11_chance_21 : decode cX11_chance 21 = .ok (.iconst 1, 1) := by decide +kernel
theorem dX11_chance_22 : decode cX11_chance 22 = .ok (.goto 4, 3) := by decide +kernel
theorem dX11_chance_25 : decode cX11_chance 25 = .ok (.iconst 0, 1) := by decide +kernel
theorem dX11_chance_26 : decode cX11_chance 26 = .ok (.ireturn, 1) := by decide +kernel
theorem dX11_cause_0 : decode cX11_cause 0 = .ok (.iconst (-1), 1) := by decide +kernel
theorem dX11_cause_1 : decode cX11_cause 1 = .ok (.istore_n 1, 1) := by decide +kernel
theorem dX11_cause_2 : decode cX11_cause 2 = .ok (.iconst 0, 1) := by decide +kernel
theorem dX11_cause_3 : decode cX11_cause 3 = .ok (.istore_n 2, 1) := by decide +kernel
theorem dX11_cause_4 : decode cX11_cause 4 = .ok (.iload_n 2, 1) := by decide +kernel
theorem dX11_cause_5 : decode cX11_cause 5 = .ok (.iconst 3, 1) := by decide +kernel
theorem dX11_cause_6 : decode cX11_cause 6 = .ok (.if_icmp .ge 39, 3) := by decide +kernel
theorem dX11_cause_9 : decode cX11_cause 9 = .ok (.aload_n 0, 1) := by decide +kernel
theorem dX11_cause_10 : decode cX11_cause 10 = .ok (.getfield 49, 3) := by decide +kernel
theorem dX11_cause_13 : decode cX11_cause 13 = .ok (.iload_n 2, 1) := by decide +kernel
theorem dX11_cause_14 : decode cX11_cause 14 = .ok (.invokevirtual 357, 3) := by decide +kernel
theorem dX11_cause_17 : decode cX11_cause 17 = .ok (.ifCond .eq 22, 3) := by decide +kernel
theorem dX11_cause_20 : decode cX11_cause 20 = .ok (.iload_n 1, 1) := by decide +kernel
theorem dX11_cause_21 : decode cX11_cause 21 = .ok (.iconst (-1), 1) := by decide +kernel
theorem dX11_cause_22 : decode cX11_cause 22 = .ok (.if_icmp .eq 15, 3) := by decide +kernel
theorem dX11_cause_25 : decode cX11_cause 25 = .ok (.aload_n 0, 1) := by decide +kernel
theorem dX11_cause_26 : decode cX11_cause 26 = .ok (.getfield 49, 3) := by decide +kernel
theorem dX11_cause_29 : decode cX11_cause 29 = .ok (.iload_n 2, 1) := by decide +kernel
theorem dX11_cause_30 : decode cX11_cause 30 = .ok (.iload_n 1, 1) := by decide +kernel
theorem dX11_cause_31 : decode cX11_cause 31 = .ok (.invokevirtual 360, 3) := by decide +kernel
theorem dX11_cause_34 : decode cX11_cause 34 = .ok (.ifCond .eq 5, 3) := by decide +kernel
theorem dX11_cause_37 : decode cX11_cause 37 = .ok (.iload_n 2, 1) := by decide +kernel
theorem dX11_cause_38 : decode cX11_cause 38 = .ok (.istore_n 1, 1) := by decide +kernel
theorem dX11_cause_39 : decode cX11_cause 39 = .ok (.iinc 2 1, 3) := by decide +kernel
theorem dX11_cause_42 : decode cX11_cause 42 = .ok (.goto (-38), 3) := by decide +kernel
theorem dX11_cause_45 : decode cX11_cause 45 = .ok (.iload_n 1, 1) := by decide +kernel
theorem dX11_cause_46 : decode cX11_cause 46 = .ok (.ireturn, 1) := by decide +kernel
theorem dX11_account_0 : decode cX11_account 0 = .ok (.iload_n 1, 1) := by decide +kernel
theorem dX11_account_1 : decode cX11_account 1 = .ok (.tableswitch 60 0 4 #[35, 40, 45, 50, 55], 35) := by decide +kernel
theorem dX11_account_36 : decode cX11_account 36 = .ok (.aload_n 0, 1) := by decide +kernel
theorem dX11_account_37 : decode cX11_account 37 = .ok (.getfield 172, 3) := by decide +kernel
theorem dX11_account_40 : decode cX11_account 40 = .ok (.lreturn, 1) := by decide +kernel
theorem dX11_account_41 : decode cX11_account 41 = .ok (.aload_n 0, 1) := by decide +kernel
theorem dX11_account_42 : decode cX11_account 42 = .ok (.invokevirtual 363, 3) := by decide +kernel
theorem dX11_account_45 : decode cX11_account 45 = .ok (.lreturn, 1) := by decide +kernel
theorem dX11_account_46 : decode cX11_account 46 = .ok (.aload_n 0, 1) := by decide +kernel
theorem dX11_account_47 : decode cX11_account 47 = .ok (.getfield 367, 3) := by decide +kernel
theorem dX11_account_50 : decode cX11_account 50 = .ok (.lreturn, 1) := by decide +kernel
theorem dX11_account_51 : decode cX11_account 51 = .ok (.aload_n 0, 1) := by decide +kernel
theorem dX11_account_52 : decode cX11_account 52 = .ok (.getfield 274, 3) := by decide +kernel
theorem dX11_account_55 : decode cX11_account 55 = .ok (.lreturn, 1) := by decide +kernel
theorem dX11_account_56 : decode cX11_account 56 = .ok (.aload_n 0, 1) := by decide +kernel
theorem dX11_account_57 : decode cX11_account 57 = .ok (.getfield 257, 3) := by decide +kernel
theorem dX11_account_60 : decode cX11_account 60 = .ok (.lreturn, 1) := by decide +kernel
theorem dX11_account_61 : decode cX11_account 61 = .ok (.ldc2_w 370, 3) := by decide +kernel
theorem dX11_account_64 : decode cX11_account 64 = .ok (.lreturn, 1) := by decide +kernel
theorem dX11_count_0 : decode cX11_count 0 = .ok (.iload_n 1, 1) := by decide +kernel
theorem dX11_count_1 : decode cX11_count 1 = .ok (.tableswitch 81 0 6 #[43, 48, 53, 58, 63, 71, 76], 43) := by decide +kernel
theorem dX11_count_44 : decode cX11_count 44 = .ok (.aload_n 0, 1) := by decide +kernel
theorem dX11_count_45 : decode cX11_count 45 = .ok (.getfield 166, 3) := by decide +kernel
theorem dX11_count_48 : decode cX11_count 48 = .ok (.ireturn, 1) := by decide +kernel
theorem dX11_count_49 : decode cX11_count 49 = .ok (.aload_n 0, 1) := by decide +kernel
theorem dX11_count_50 : decode cX11_count 50 = .ok (.invokevirtual 372, 3) := by decide +kernel
theorem dX11_count_53 : decode cX11_count 53 = .ok (.ireturn, 1) := by decide +kernel
theorem dX11_count_54 : decode cX11_count 54 = .ok (.aload_n 0, 1) := by decide +kernel
theorem dX11_count_55 : decode cX11_count 55 = .ok (.getfield 298, 3) := by decide +kernel
theorem dX11_count_58 : decode cX11_count 58 = .ok (.ireturn, 1) := by decide +kernel
theorem dX11_count_59 : decode cX11_count 59 = .ok (.aload_n 0, 1) := by decide +kernel
theorem dX11_count_60 : decode cX11_count 60 = .ok (.invokevirtual 375, 3) := by decide +kernel
theorem dX11_count_63 : decode cX11_count 63 = .ok (.ireturn, 1) := by decide +kernel
theorem dX11_count_64 : decode cX11_count 64 = .ok (.aload_n 0, 1) := by decide +kernel
theorem dX11_count_65 : decode cX11_count 65 = .ok (.getfield 49, 3) := by decide +kernel
theorem dX11_count_68 : decode cX11_count 68 = .ok (.getfield 378, 3) := by decide +kernel
theorem dX11_count_71 : decode cX11_count 71 = .ok (.ireturn, 1) := by decide +kernel
theorem dX11_count_72 : decode cX11_count 72 = .ok (.aload_n 0, 1) := by decide +kernel
theorem dX11_count_73 : decode cX11_count 73 = .ok (.getfield 379, 3) := by decide +kernel
theorem dX11_count_76 : decode cX11_count 76 = .ok (.ireturn, 1) := by decide +kernel
theorem dX11_count_77 : decode cX11_count 77 = .ok (.aload_n 0, 1) := by decide +kernel
theorem dX11_count_78 : decode cX11_count 78 = .ok (.getfield 260, 3) := by decide +kernel
theorem dX11_count_81 : decode cX11_count 81 = .ok (.ireturn, 1) := by decide +kernel
theorem dX11_count_82 : decode cX11_count 82 = .ok (.bipush (-3), 2) := by decide +kernel
theorem dX11_count_84 : decode cX11_count 84 = .ok (.ireturn, 1) := by decide +kernel
theorem dX11_metalAt_0 : decode cX11_metalAt 0 = .ok (.iload_n 1, 1) := by decide +kernel
theorem dX11_metalAt_1 : decode cX11_metalAt 1 = .ok (.ifCond .lt 12, 3) := by decide +kernel
theorem dX11_metalAt_4 : decode cX11_metalAt 4 = .ok (.iload_n 1, 1) := by decide +kernel
theorem dX11_metalAt_5 : decode cX11_metalAt 5 = .ok (.aload_n 0, 1) := by decide +kernel
theorem dX11_metalAt_6 : decode cX11_metalAt 6 = .ok (.getfield 18, 3) := by decide +kernel
theorem dX11_metalAt_9 : decode cX11_metalAt 9 = .ok (.arraylength, 1) := by decide +kernel
theorem dX11_metalAt_10 : decode cX11_metalAt 10 = .ok (.if_icmp .lt 7, 3) := by decide +kernel
theorem dX11_metalAt_13 : decode cX11_metalAt 13 = .ok (.aconst_null, 1) := by decide +kernel
theorem dX11_metalAt_14 : decode cX11_metalAt 14 = .ok (.goto 9, 3) := by decide +kernel
theorem dX11_metalAt_17 : decode cX11_metalAt 17 = .ok (.aload_n 0, 1) := by decide +kernel
theorem dX11_metalAt_18 : decode cX11_metalAt 18 = .ok (.getfield 18, 3) := by decide +kernel
theorem dX11_metalAt_21 : decode cX11_metalAt 21 = .ok (.iload_n 1, 1) := by decide +kernel
theorem dX11_metalAt_22 : decode cX11_metalAt 22 = .ok (.aaload, 1) := by decide +kernel
theorem dX11_metalAt_23 : decode cX11_metalAt 23 = .ok (.areturn, 1) := by decide +kernel
theorem dX11_pullerAt_0 : decode cX11_pullerAt 0 = .ok (.iload_n 1, 1) := by decide +kernel
theorem dX11_pullerAt_1 : decode cX11_pullerAt 1 = .ok (.ifCond .lt 12, 3) := by decide +kernel
theorem dX11_pullerAt_4 : decode cX11_pullerAt 4 = .ok (.iload_n 1, 1) := by decide +kernel
theorem dX11_pullerAt_5 : decode cX11_pullerAt 5 = .ok (.aload_n 0, 1) := by decide +kernel
theorem dX11_pullerAt_6 : decode cX11_pullerAt 6 = .ok (.getfield 24, 3) := by decide +kernel
theorem dX11_pullerAt_9 : decode cX11_pullerAt 9 = .ok (.arraylength, 1) := by decide +kernel
theorem dX11_pullerAt_10 : decode cX11_pullerAt 10 = .ok (.if_icmp .lt 7, 3) := by decide +kernel
theorem dX11_pullerAt_13 : decode cX11_pullerAt 13 = .ok (.aconst_null, 1) := by decide +kernel
theorem dX11_pullerAt_14 : decode cX11_pullerAt 14 = .ok (.goto 9, 3) := by decide +kernel
theorem dX11_pullerAt_17 : decode cX11_pullerAt 17 = .ok (.aload_n 0, 1) := by decide +kernel
theorem dX11_pullerAt_18 : decode cX11_pullerAt 18 = .ok (.getfield 24, 3) := by decide +kernel
theorem dX11_pullerAt_21 : decode cX11_pullerAt 21 = .ok (.iload_n 1, 1) := by decide +kernel
theorem dX11_pullerAt_22 : decode cX11_pullerAt 22 = .ok (.aaload, 1) := by decide +kernel
theorem dX11_pullerAt_23 : decode cX11_pullerAt 23 = .ok (.areturn, 1) := by decide +kernel
theorem dX11_plateAt_0 : decode cX11_plateAt 0 = .ok (.iload_n 1, 1) := by decide +kernel
theorem dX11_plateAt_1 : decode cX11_plateAt 1 = .ok (.ifCond .lt 12, 3) := by decide +kernel
theorem dX11_plateAt_4 : decode cX11_plateAt 4 = .ok (.iload_n 1, 1) := by decide +kernel
theorem dX11_plateAt_5 : decode cX11_plateAt 5 = .ok (.aload_n 0, 1) := by decide +kernel
theorem dX11_plateAt_6 : decode cX11_plateAt 6 = .ok (.getfield 30, 3) := by decide +kernel
theorem dX11_plateAt_9 : decode cX11_plateAt 9 = .ok (.arraylength, 1) := by decide +kernel
theorem dX11_plateAt_10 : decode cX11_plateAt 10 = .ok (.if_icmp .lt 7, 3) := by decide +kernel
theorem dX11_plateAt_13 : decode cX11_plateAt 13 = .ok (.aconst_null, 1) := by decide +kernel
theorem dX11_plateAt_14 : decode cX11_plateAt 14 = .ok (.goto 9, 3) := by decide +kernel
theorem dX11_plateAt_17 : decode cX11_plateAt 17 = .ok (.aload_n 0, 1) := by decide +kernel
theorem dX11_plateAt_18 : decode cX11_plateAt 18 = .ok (.getfield 30, 3) := by decide +kernel
theorem dX11_plateAt_21 : decode cX11_plateAt 21 = .ok (.iload_n 1, 1) := by decide +kernel
theorem dX11_plateAt_22 : decode cX11_plateAt 22 = .ok (.aaload, 1) := by decide +kernel
theorem dX11_plateAt_23 : decode cX11_plateAt 23 = .ok (.areturn, 1) := by decide +kernel
theorem dX11_holeAt_0 : decode cX11_holeAt 0 = .ok (.aload_n 0, 1) := by decide +kernel
theorem dX11_holeAt_1 : decode cX11_holeAt 1 = .ok (.iload_n 1, 1) := by decide +kernel
theorem dX11_holeAt_2 : decode cX11_holeAt 2 = .ok (.invokevirtual 132, 3) := by decide +kernel
theorem dX11_holeAt_5 : decode cX11_holeAt 5 = .ok (.astore_n 3, 1) := by decide +kernel
theorem dX11_holeAt_6 : decode cX11_holeAt 6 = .ok (.aload_n 3, 1) := by decide +kernel
theorem dX11_holeAt_7 : decode cX11_holeAt 7 = .ok (.ifnonnull 7, 3) := by decide +kernel
theorem dX11_holeAt_10 : decode cX11_holeAt 10 = .ok (.aconst_null, 1) := by decide +kernel
theorem dX11_holeAt_11 : decode cX11_holeAt 11 = .ok (.goto 8, 3) := by decide +kernel
theorem dX11_holeAt_14 : decode cX11_holeAt 14 = .ok (.aload_n 3, 1) := by decide +kernel
theorem dX11_holeAt_15 : decode cX11_holeAt 15 = .ok (.iload_n 2, 1) := by decide +kernel
theorem dX11_holeAt_16 : decode cX11_holeAt 16 = .ok (.invokevirtual 382, 3) := by decide +kernel
theorem dX11_holeAt_19 : decode cX11_holeAt 19 = .ok (.areturn, 1) := by decide +kernel
theorem dX11_coilAt_0 : decode cX11_coilAt 0 = .ok (.iload_n 1, 1) := by decide +kernel
theorem dX11_coilAt_1 : decode cX11_coilAt 1 = .ok (.ifCond .lt 12, 3) := by decide +kernel
theorem dX11_coilAt_4 : decode cX11_coilAt 4 = .ok (.iload_n 1, 1) := by decide +kernel
theorem dX11_coilAt_5 : decode cX11_coilAt 5 = .ok (.aload_n 0, 1) := by decide +kernel
theorem dX11_coilAt_6 : decode cX11_coilAt 6 = .ok (.getfield 36, 3) := by decide +kernel
theorem dX11_coilAt_9 : decode cX11_coilAt 9 = .ok (.arraylength, 1) := by decide +kernel
theorem dX11_coilAt_10 : decode cX11_coilAt 10 = .ok (.if_icmp .lt 5, 3) := by decide +kernel
theorem dX11_coilAt_13 : decode cX11_coilAt 13 = .ok (.aconst_null, 1) := by decide +kernel
theorem dX11_coilAt_14 : decode cX11_coilAt 14 = .ok (.areturn, 1) := by decide +kernel
theorem dX11_coilAt_15 : decode cX11_coilAt 15 = .ok (.aload_n 0, 1) := by decide +kernel
theorem dX11_coilAt_16 : decode cX11_coilAt 16 = .ok (.getfield 36, 3) := by decide +kernel
theorem dX11_coilAt_19 : decode cX11_coilAt 19 = .ok (.iload_n 1, 1) := by decide +kernel
theorem dX11_coilAt_20 : decode cX11_coilAt 20 = .ok (.aaload, 1) := by decide +kernel
theorem dX11_coilAt_21 : decode cX11_coilAt 21 = .ok (.astore_n 2, 1) := by decide +kernel
theorem dX11_coilAt_22 : decode cX11_coilAt 22 = .ok (.aload_n 2, 1) := by decide +kernel
theorem dX11_coilAt_23 : decode cX11_coilAt 23 = .ok (.ifnull 10, 3) := by decide +kernel
theorem dX11_coilAt_26 : decode cX11_coilAt 26 = .ok (.aload_n 2, 1) := by decide +kernel
theorem dX11_coilAt_27 : decode cX11_coilAt 27 = .ok (.invokevirtual 385, 3) := by decide +kernel
theorem dX11_coilAt_30 : decode cX11_coilAt 30 = .ok (.ifCond .eq 7, 3) := by decide +kernel
theorem dX11_coilAt_33 : decode cX11_coilAt 33 = .ok (.aconst_null, 1) := by decide +kernel
theorem dX11_coilAt_34 : decode cX11_coilAt 34 = .ok (.goto 4, 3) := by decide +kernel
theorem dX11_coilAt_37 : decode cX11_coilAt 37 = .ok (.aload_n 2, 1) := by decide +kernel
theorem dX11_coilAt_38 : decode cX11_coilAt 38 = .ok (.areturn, 1) := by decide +kernel
theorem dX11_orderAt_0 : decode cX11_orderAt 0 = .ok (.iload_n 1, 1) := by decide +kernel
theorem dX11_orderAt_1 : decode cX11_orderAt 1 = .ok (.ifCond .lt 12, 3) := by decide +kernel
theorem dX11_orderAt_4 : decode cX11_orderAt 4 = .ok (.iload_n 1, 1) := by decide +kernel
theorem dX11_orderAt_5 : decode cX11_orderAt 5 = .ok (.aload_n 0, 1) := by decide +kernel
theorem dX11_orderAt_6 : decode cX11_orderAt 6 = .ok (.getfield 42, 3) := by decide +kernel
theorem dX11_orderAt_9 : decode cX11_orderAt 9 = .ok (.arraylength, 1) := by decide +kernel
theorem dX11_orderAt_10 : decode cX11_orderAt 10 = .ok (.if_icmp .lt 7, 3) := by decide +kernel
theorem dX11_orderAt_13 : decode cX11_orderAt 13 = .ok (.aconst_null, 1) := by decide +kernel
theorem dX11_orderAt_14 : decode cX11_orderAt 14 = .ok (.goto 9, 3) := by decide +kernel
theorem dX11_orderAt_17 : decode cX11_orderAt 17 = .ok (.aload_n 0, 1) := by decide +kernel
theorem dX11_orderAt_18 : decode cX11_orderAt 18 = .ok (.getfield 42, 3) := by decide +kernel
theorem dX11_orderAt_21 : decode cX11_orderAt 21 = .ok (.iload_n 1, 1) := by decide +kernel
theorem dX11_orderAt_22 : decode cX11_orderAt 22 = .ok (.aaload, 1) := by decide +kernel
theorem dX11_orderAt_23 : decode cX11_orderAt 23 = .ok (.areturn, 1) := by decide +kernel
theorem dX11_addCoil_0 : decode cX11_addCoil 0 = .ok (.aload_n 0, 1) := by decide +kernel
theorem dX11_addCoil_1 : decode cX11_addCoil 1 = .ok (.getfield 166, 3) := by decide +kernel
theorem dX11_addCoil_4 : decode cX11_addCoil 4 = .ok (.ifCond .lt 15, 3) := by decide +kernel
theorem dX11_addCoil_7 : decode cX11_addCoil 7 = .ok (.aload_n 0, 1) := by decide +kernel
theorem dX11_addCoil_8 : decode cX11_addCoil 8 = .ok (.getfield 166, 3) := by decide +kernel
theorem dX11_addCoil_11 : decode cX11_addCoil 11 = .ok (.aload_n 0, 1) := by decide +kernel
theorem dX11_addCoil_12 : decode cX11_addCoil 12 = .ok (.getfield 36, 3) := by decide +kernel
theorem dX11_addCoil_15 : decode cX11_addCoil 15 = .ok (.arraylength, 1) := by decide +kernel
theorem dX11_addCoil_16 : decode cX11_addCoil 16 = .ok (.if_icmp .lt 6, 3) := by decide +kernel
theorem dX11_addCoil_19 : decode cX11_addCoil 19 = .ok (.bipush (-8), 2) := by decide +kernel
theorem dX11_addCoil_21 : decode cX11_addCoil 21 = .ok (.ireturn, 1) := by decide +kernel
theorem dX11_addCoil_22 : decode cX11_addCoil 22 = .ok (.aload_n 0, 1) := by decide +kernel
theorem dX11_addCoil_23 : decode cX11_addCoil 23 = .ok (.getfield 36, 3) := by decide +kernel
theorem dX11_addCoil_26 : decode cX11_addCoil 26 = .ok (.aload_n 0, 1) := by decide +kernel
theorem dX11_addCoil_27 : decode cX11_addCoil 27 = .ok (.getfield 166, 3) := by decide +kernel
theorem dX11_addCoil_30 : decode cX11_addCoil 30 = .ok (.aload_n 1, 1) := by decide +kernel
theorem dX11_addCoil_31 : decode cX11_addCoil 31 = .ok (.aastore, 1) := by decide +kernel
theorem dX11_addCoil_32 : decode cX11_addCoil 32 = .ok (.aload_n 0, 1) := by decide +kernel
theorem dX11_addCoil_33 : decode cX11_addCoil 33 = .ok (.dup, 1) := by decide +kernel
theorem dX11_addCoil_34 : decode cX11_addCoil 34 = .ok (.getfield 166, 3) := by decide +kernel
theorem dX11_addCoil_37 : decode cX11_addCoil 37 = .ok (.dup_x1, 1) := by decide +kernel
theorem dX11_addCoil_38 : decode cX11_addCoil 38 = .ok (.iconst 1, 1) := by decide +kernel
theorem dX11_addCoil_39 : decode cX11_addCoil 39 = .ok (.iadd, 1) := by decide +kernel
theorem dX11_addCoil_40 : decode cX11_addCoil 40 = .ok (.putfield 166, 3) := by decide +kernel
theorem dX11_addCoil_43 : decode cX11_addCoil 43 = .ok (.ireturn, 1) := by decide +kernel
theorem dX11_pullThrough_0 : decode cX11_pullThrough 0 = .ok (.aload_n 1, 1) := by decide +kernel
theorem dX11_pullThrough_1 : decode cX11_pullThrough 1 = .ok (.getfield 197, 3) := by decide +kernel
theorem dX11_pullThrough_4 : decode cX11_pullThrough 4 = .ok (.istore 4, 2) := by decide +kernel
theorem dX11_pullThrough_6 : decode cX11_pullThrough 6 = .ok (.aload_n 1, 1) := by decide +kernel
theorem dX11_pullThrough_7 : decode cX11_pullThrough 7 = .ok (.aload_n 2, 1) := by decide +kernel
theorem dX11_pullThrough_8 : decode cX11_pullThrough 8 = .ok (.invokevirtual 155, 3) := by decide +kernel
theorem dX11_pullThrough_11 : decode cX11_pullThrough 11 = .ok (.putfield 194, 3) := by decide +kernel
theorem dX11_pullThrough_14 : decode cX11_pullThrough 14 = .ok (.aload_n 1, 1) := by decide +kernel
theorem dX11_pullThrough_15 : decode cX11_pullThrough 15 = .ok (.aload_n 0, 1) := by decide +kernel
theorem dX11_pullThrough_16 : decode cX11_pullThrough 16 = .ok (.getfield 58, 3) := by decide +kernel
theorem dX11_pullThrough_19 : decode cX11_pullThrough 19 = .ok (.getfield 225, 3) := by decide +kernel
theorem dX11_pullThrough_22 : decode cX11_pullThrough 22 = .ok (.putfield 197, 3) := by decide +kernel
theorem dX11_pullThrough_25 : decode cX11_pullThrough 25 = .ok (.aload_n 1, 1) := by decide +kernel
theorem dX11_pullThrough_26 : decode cX11_pullThrough 26 = .ok (.invokevirtual 200, 3) := by decide +kernel
theorem dX11_pullThrough_29 : decode cX11_pullThrough 29 = .ok (.istore 5, 2) := by decide +kernel
theorem dX11_pullThrough_31 : decode cX11_pullThrough 31 = .ok (.aload_n 2, 1) := by decide +kernel
theorem dX11_pullThrough_32 : decode cX11_pullThrough 32 = .ok (.dup, 1) := by decide +kernel
theorem dX11_pullThrough_33 : decode cX11_pullThrough 33 = .ok (.getfield 152, 3) := by decide +kernel
theorem dX11_pullThrough_36 : decode cX11_pullThrough 36 = .ok (.iload 5, 2) := by decide +kernel
theorem dX11_pullThrough_38 : decode cX11_pullThrough 38 = .ok (.i2l, 1) := by decide +kernel
theorem dX11_pullThrough_39 : decode cX11_pullThrough 39 = .ok (.aload_n 1, 1) := by decide +kernel
theorem dX11_pullThrough_40 : decode cX11_pullThrough 40 = .ok (.getfield 187, 3) := by decide +kernel
theorem dX11_pullThrough_43 : decode cX11_pullThrough 43 = .ok (.getfield 103, 3) := by decide +kernel
theorem dX11_pullThrough_46 : decode cX11_pullThrough 46 = .ok (.i2l, 1) := by decide +kernel
theorem dX11_pullThrough_47 : decode cX11_pullThrough 47 = .ok (.lmul, 1) := by decide +kernel
theorem dX11_pullThrough_48 : decode cX11_pullThrough 48 = .ok (.bipush 100, 2) := by decide +kernel
theorem dX11_pullThrough_50 : decode cX11_pullThrough 50 = .ok (.iload 4, 2) := by decide +kernel
theorem dX11_pullThrough_52 : decode cX11_pullThrough 52 = .ok (.iadd, 1) := by decide +kernel
theorem dX11_pullThrough_53 : decode cX11_pullThrough 53 = .ok (.i2l, 1) := by decide +kernel
theorem dX11_pullThrough_54 : decode cX11_pullThrough 54 = .ok (.lmul, 1) := by decide +kernel
theorem dX11_pullThrough_55 : decode cX11_pullThrough 55 = .ok (.ldc2_w 388, 3) := by decide +kernel
theorem dX11_pullThrough_58 : decode cX11_pullThrough 58 = .ok (.ldiv, 1) := by decide +kernel
theorem dX11_pullThrough_59 : decode cX11_pullThrough 59 = .ok (.l2i, 1) := by decide +kernel
theorem dX11_pullThrough_60 : decode cX11_pullThrough 60 = .ok (.iadd, 1) := by decide +kernel
theorem dX11_pullThrough_61 : decode cX11_pullThrough 61 = .ok (.putfield 152, 3) := by decide +kernel
theorem dX11_pullThrough_64 : decode cX11_pullThrough 64 = .ok (.aload_n 1, 1) := by decide +kernel
theorem dX11_pullThrough_65 : decode cX11_pullThrough 65 = .ok (.getfield 206, 3) := by decide +kernel
theorem dX11_pullThrough_68 : decode cX11_pullThrough 68 = .ok (.aload_n 3, 1) := by decide +kernel
theorem dX11_pullThrough_69 : decode cX11_pullThrough 69 = .ok (.getfield 277, 3) := by decide +kernel
theorem dX11_pullThrough_72 : decode cX11_pullThrough 72 = .ok (.invokestatic 246, 3) := by decide +kernel
theorem dX11_pullThrough_75 : decode cX11_pullThrough 75 = .ok (.aload_n 3, 1) := by decide +kernel
theorem dX11_pullThrough_76 : decode cX11_pullThrough 76 = .ok (.iload 5, 2) := by decide +kernel
theorem dX11_pullThrough_78 : decode cX11_pullThrough 78 = .ok (.invokevirtual 390, 3) := by decide +kernel
theorem dX11_pullThrough_81 : decode cX11_pullThrough 81 = .ok (.iadd, 1) := by decide +kernel
theorem dX11_pullThrough_82 : decode cX11_pullThrough 82 = .ok (.istore 6, 2) := by decide +kernel
theorem dX11_pullThrough_84 : decode cX11_pullThrough 84 = .ok (.aload_n 1, 1) := by decide +kernel
theorem dX11_pullThrough_85 : decode cX11_pullThrough 85 = .ok (.iload 6, 2) := by decide +kernel
theorem dX11_pullThrough_87 : decode cX11_pullThrough 87 = .ok (.putfield 206, 3) := by decide +kernel
theorem dX11_pullThrough_90 : decode cX11_pullThrough 90 = .ok (.aload_n 3, 1) := by decide +kernel
theorem dX11_pullThrough_91 : decode cX11_pullThrough 91 = .ok (.iload 6, 2) := by decide +kernel
theorem dX11_pullThrough_93 : decode cX11_pullThrough 93 = .ok (.putfield 277, 3) := by decide +kernel
theorem dX11_pullThrough_96 : decode cX11_pullThrough 96 = .ok (.aload_n 0, 1) := by decide +kernel
theorem dX11_pullThrough_97 : decode cX11_pullThrough 97 = .ok (.dup, 1) := by decide +kernel
theorem dX11_pullThrough_98 : decode cX11_pullThrough 98 = .ok (.getfield 379, 3) := by decide +kernel
theorem dX11_pullThrough_101 : decode cX11_pullThrough 101 = .ok (.iconst 1, 1) := by decide +kernel
theorem dX11_pullThrough_102 : decode cX11_pullThrough 102 = .ok (.iadd, 1) := by decide +kernel
theorem dX11_pullThrough_103 : decode cX11_pullThrough 103 = .ok (.putfield 379, 3) := by decide +kernel
theorem dX11_pullThrough_106 : decode cX11_pullThrough 106 = .ok (.iload 5, 2) := by decide +kernel
theorem dX11_pullThrough_108 : decode cX11_pullThrough 108 = .ok (.ireturn, 1) := by decide +kernel
theorem dX11_throwAway_0 : decode cX11_throwAway 0 = .ok (.aload_n 0, 1) := by decide +kernel
theorem dX11_throwAway_1 : decode cX11_throwAway 1 = .ok (.dup, 1) := by decide +kernel
theorem dX11_throwAway_2 : decode cX11_throwAway 2 = .ok (.getfield 274, 3) := by decide +kernel
theorem dX11_throwAway_5 : decode cX11_throwAway 5 = .ok (.aload_n 1, 1) := by decide +kernel
theorem dX11_throwAway_6 : decode cX11_throwAway 6 = .ok (.getfield 176, 3) := by decide +kernel
theorem dX11_throwAway_9 : decode cX11_throwAway 9 = .ok (.ladd, 1) := by decide +kernel
theorem dX11_throwAway_10 : decode cX11_throwAway 10 = .ok (.putfield 274, 3) := by decide +kernel
theorem dX11_throwAway_13 : decode cX11_throwAway 13 = .ok (.aload_n 1, 1) := by decide +kernel
theorem dX11_throwAway_14 : decode cX11_throwAway 14 = .ok (.lconst 0, 1) := by decide +kernel
theorem dX11_throwAway_15 : decode cX11_throwAway 15 = .ok (.putfield 176, 3) := by decide +kernel
theorem dX11_throwAway_18 : decode cX11_throwAway 18 = .ok (.return_, 1) := by decide +kernel
theorem dX11_deliver_0 : decode cX11_deliver 0 = .ok (.aload_n 1, 1) := by decide +kernel
theorem dX11_deliver_1 : decode cX11_deliver 1 = .ok (.aload_n 2, 1) := by decide +kernel
theorem dX11_deliver_2 : decode cX11_deliver 2 = .ok (.getfield 393, 3) := by decide +kernel
theorem dX11_deliver_5 : decode cX11_deliver 5 = .ok (.invokevirtual 267, 3) := by decide +kernel
theorem dX11_deliver_8 : decode cX11_deliver 8 = .ok (.lstore_n 3, 1) := by decide +kernel
theorem dX11_deliver_9 : decode cX11_deliver 9 = .ok (.aload_n 1, 1) := by decide +kernel
theorem dX11_deliver_10 : decode cX11_deliver 10 = .ok (.dup, 1) := by decide +kernel
theorem dX11_deliver_11 : decode cX11_deliver 11 = .ok (.getfield 176, 3) := by decide +kernel
theorem dX11_deliver_14 : decode cX11_deliver 14 = .ok (.lload_n 3, 1) := by decide +kernel
theorem dX11_deliver_15 : decode cX11_deliver 15 = .ok (.lsub, 1) := by decide +kernel
theorem dX11_deliver_16 : decode cX11_deliver 16 = .ok (.putfield 176, 3) := by decide +kernel
theorem dX11_deliver_19 : decode cX11_deliver 19 = .ok (.aload_n 0, 1) := by decide +kernel
theorem dX11_deliver_20 : decode cX11_deliver 20 = .ok (.dup, 1) := by decide +kernel
theorem dX11_deliver_21 : decode cX11_deliver 21 = .ok (.getfield 367, 3) := by decide +kernel
theorem dX11_deliver_24 : decode cX11_deliver 24 = .ok (.lload_n 3, 1) := by decide +kernel
theorem dX11_deliver_25 : decode cX11_deliver 25 = .ok (.ladd, 1) := by decide +kernel
theorem dX11_deliver_26 : decode cX11_deliver 26 = .ok (.putfield 367, 3) := by decide +kernel
theorem dX11_deliver_29 : decode cX11_deliver 29 = .ok (.aload_n 2, 1) := by decide +kernel
theorem dX11_deliver_30 : decode cX11_deliver 30 = .ok (.iconst 1, 1) := by decide +kernel
theorem dX11_deliver_31 : decode cX11_deliver 31 = .ok (.putfield 327, 3) := by decide +kernel
theorem dX11_deliver_34 : decode cX11_deliver 34 = .ok (.return_, 1) := by decide +kernel
theorem dX11_pullOf_0 : decode cX11_pullOf 0 = .ok (.aload_n 1, 1) := by decide +kernel
theorem dX11_pullOf_1 : decode cX11_pullOf 1 = .ok (.getfield 394, 3) := by decide +kernel
theorem dX11_pullOf_4 : decode cX11_pullOf 4 = .ok (.ifCond .eq 25, 3) := by decide +kernel
theorem dX11_pullOf_7 : decode cX11_pullOf 7 = .ok (.aload_n 1, 1) := by decide +kernel
theorem dX11_pullOf_8 : decode cX11_pullOf 8 = .ok (.getfield 126, 3) := by decide +kernel
theorem dX11_pullOf_11 : decode cX11_pullOf 11 = .ok (.i2l, 1) := by decide +kernel
theorem dX11_pullOf_12 : decode cX11_pullOf 12 = .ok (.aload_n 0, 1) := by decide +kernel
theorem dX11_pullOf_13 : decode cX11_pullOf 13 = .ok (.getfield 10, 3) := by decide +kernel
theorem dX11_pullOf_16 : decode cX11_pullOf 16 = .ok (.getfield 397, 3) := by decide +kernel
theorem dX11_pullOf_19 : decode cX11_pullOf 19 = .ok (.i2l, 1) := by decide +kernel
theorem dX11_pullOf_20 : decode cX11_pullOf 20 = .ok (.lmul, 1) := by decide +kernel
theorem dX11_pullOf_21 : decode cX11_pullOf 21 = .ok (.ldc2_w 400, 3) := by decide +kernel
theorem dX11_pullOf_24 : decode cX11_pullOf 24 = .ok (.ldiv, 1) := by decide +kernel
theorem dX11_pullOf_25 : decode cX11_pullOf 25 = .ok (.l2i, 1) := by decide +kernel
theorem dX11_pullOf_26 : decode cX11_pullOf 26 = .ok (.goto 7, 3) := by decide +kernel
theorem dX11_pullOf_29 : decode cX11_pullOf 29 = .ok (.aload_n 1, 1) := by decide +kernel
theorem dX11_pullOf_30 : decode cX11_pullOf 30 = .ok (.getfield 126, 3) := by decide +kernel
theorem dX11_pullOf_33 : decode cX11_pullOf 33 = .ok (.ireturn, 1) := by decide +kernel
theorem dX11_seekWay_0 : decode cX11_seekWay 0 = .ok (.aload_n 0, 1) := by decide +kernel
theorem dX11_seekWay_1 : decode cX11_seekWay 1 = .ok (.iload_n 1, 1) := by decide +kernel
theorem dX11_seekWay_2 : decode cX11_seekWay 2 = .ok (.invokevirtual 183, 3) := by decide +kernel
theorem dX11_seekWay_5 : decode cX11_seekWay 5 = .ok (.astore 6, 2) := by decide +kernel
theorem dX11_seekWay_7 : decode cX11_seekWay 7 = .ok (.aload_n 0, 1) := by decide +kernel
theorem dX11_seekWay_8 : decode cX11_seekWay 8 = .ok (.iload_n 2, 1) := by decide +kernel
theorem dX11_seekWay_9 : decode cX11_seekWay 9 = .ok (.invokevirtual 132, 3) := by decide +kernel
theorem dX11_seekWay_12 : decode cX11_seekWay 12 = .ok (.astore 7, 2) := by decide +kernel
theorem dX11_seekWay_14 : decode cX11_seekWay 14 = .ok (.aload_n 0, 1) := by decide +kernel
theorem dX11_seekWay_15 : decode cX11_seekWay 15 = .ok (.iload_n 3, 1) := by decide +kernel
theorem dX11_seekWay_16 : decode cX11_seekWay 16 = .ok (.invokevirtual 121, 3) := by decide +kernel
theorem dX11_seekWay_19 : decode cX11_seekWay 19 = .ok (.astore 8, 2) := by decide +kernel
theorem dX11_seekWay_21 : decode cX11_seekWay 21 = .ok (.aload 6, 2) := by decide +kernel
theorem dX11_seekWay_23 : decode cX11_seekWay 23 = .ok (.ifnull 13, 3) := by decide +kernel
theorem dX11_seekWay_26 : decode cX11_seekWay 26 = .ok (.aload 7, 2) := by decide +kernel
theorem dX11_seekWay_28 : decode cX11_seekWay 28 = .ok (.ifnull 8, 3) := by decide +kernel
theorem dX11_seekWay_31 : decode cX11_seekWay 31 = .ok (.aload 8, 2) := by decide +kernel
theorem dX11_seekWay_33 : decode cX11_seekWay 33 = .ok (.ifnonnull 6, 3) := by decide +kernel
theorem dX11_seekWay_36 : decode cX11_seekWay 36 = .ok (.bipush (-2), 2) := by decide +kernel
theorem dX11_seekWay_38 : decode cX11_seekWay 38 = .ok (.ireturn, 1) := by decide +kernel
theorem dX11_seekWay_39 : decode cX11_seekWay 39 = .ok (.iload 4, 2) := by decide +kernel
theorem dX11_seekWay_41 : decode cX11_seekWay 41 = .ok (.iload 5, 2) := by decide +kernel
theorem dX11_seekWay_43 : decode cX11_seekWay 43 = .ok (.invokestatic 295, 3) := by decide +kernel
theorem dX11_seekWay_46 : decode cX11_seekWay 46 = .ok (.ifCond .ne 6, 3) := by decide +kernel
theorem dX11_seekWay_49 : decode cX11_seekWay 49 = .ok (.bipush (-3), 2) := by decide +kernel
theorem dX11_seekWay_51 : decode cX11_seekWay 51 = .ok (.ireturn, 1) := by decide +kernel
theorem dX11_seekWay_52 : decode cX11_seekWay 52 = .ok (.aload_n 0, 1) := by decide +kernel
theorem dX11_seekWay_53 : decode cX11_seekWay 53 = .ok (.getfield 67, 3) := by decide +kernel
theorem dX11_seekWay_56 : decode cX11_seekWay 56 = .ok (.aload 6, 2) := by decide +kernel
theorem dX11_seekWay_58 : decode cX11_seekWay 58 = .ok (.aload 7, 2) := by decide +kernel
theorem dX11_seekWay_60 : decode cX11_seekWay 60 = .ok (.aload_n 0, 1) := by decide +kernel
theorem dX11_seekWay_61 : decode cX11_seekWay 61 = .ok (.aload 8, 2) := by decide +kernel
theorem dX11_seekWay_63 : decode cX11_seekWay 63 = .ok (.invokevirtual 231, 3) := by decide +kernel
theorem dX11_seekWay_66 : decode cX11_seekWay 66 = .ok (.iload 4, 2) := by decide +kernel
theorem dX11_seekWay_68 : decode cX11_seekWay 68 = .ok (.iload 5, 2) := by decide +kernel
theorem dX11_seekWay_70 : decode cX11_seekWay 70 = .ok (.invokevirtual 402, 3) := by decide +kernel
theorem dX11_seekWay_73 : decode cX11_seekWay 73 = .ok (.ireturn, 1) := by decide +kernel
theorem dX11_stuffInCoils_0 : decode cX11_stuffInCoils 0 = .ok (.lconst 0, 1) := by decide +kernel
theorem dX11_stuffInCoils_1 : decode cX11_stuffInCoils 1 = .ok (.lstore_n 1, 1) := by decide +kernel
theorem dX11_stuffInCoils_2 : decode cX11_stuffInCoils 2 = .ok (.iconst 0, 1) := by decide +kernel
theorem dX11_stuffInCoils_3 : decode cX11_stuffInCoils 3 = .ok (.istore_n 3, 1) := by decide +kernel
theorem dX11_stuffInCoils_4 : decode cX11_stuffInCoils 4 = .ok (.iload_n 3, 1) := by decide +kernel
theorem dX11_stuffInCoils_5 : decode cX11_stuffInCoils 5 = .ok (.aload_n 0, 1) := by decide +kernel
theorem dX11_stuffInCoils_6 : decode cX11_stuffInCoils 6 = .ok (.getfield 36, 3) := by decide +kernel
theorem dX11_stuffInCoils_9 : decode cX11_stuffInCoils 9 = .ok (.arraylength, 1) := by decide +kernel
theorem dX11_stuffInCoils_10 : decode cX11_stuffInCoils 10 = .ok (.if_icmp .ge 30, 3) := by decide +kernel
theorem dX11_stuffInCoils_13 : decode cX11_stuffInCoils 13 = .ok (.aload_n 0, 1) := by decide +kernel
theorem dX11_stuffInCoils_14 : decode cX11_stuffInCoils 14 = .ok (.getfield 36, 3) := by decide +kernel
theorem dX11_stuffInCoils_17 : decode cX11_stuffInCoils 17 = .ok (.iload_n 3, 1) := by decide +kernel
theorem dX11_stuffInCoils_18 : decode cX11_stuffInCoils 18 = .ok (.aaload, 1) := by decide +kernel
theorem dX11_stuffInCoils_19 : decode cX11_stuffInCoils 19 = .ok (.ifnull 15, 3) := by decide +kernel
theorem dX11_stuffInCoils_22 : decode cX11_stuffInCoils 22 = .ok (.lload_n 1, 1) := by decide +kernel
theorem dX11_stuffInCoils_23 : decode cX11_stuffInCoils 23 = .ok (.aload_n 0, 1) := by decide +kernel
theorem dX11_stuffInCoils_24 : decode cX11_stuffInCoils 24 = .ok (.getfield 36, 3) := by decide +kernel
theorem dX11_stuffInCoils_27 : decode cX11_stuffInCoils 27 = .ok (.iload_n 3, 1) := by decide +kernel
theorem dX11_stuffInCoils_28 : decode cX11_stuffInCoils 28 = .ok (.aaload, 1) := by decide +kernel
theorem dX11_stuffInCoils_29 : decode cX11_stuffInCoils 29 = .ok (.getfield 176, 3) := by decide +kernel
theorem dX11_stuffInCoils_32 : decode cX11_stuffInCoils 32 = .ok (.ladd, 1) := by decide +kernel
theorem dX11_stuffInCoils_33 : decode cX11_stuffInCoils 33 = .ok (.lstore_n 1, 1) := by decide +kernel
theorem dX11_stuffInCoils_34 : decode cX11_stuffInCoils 34 = .ok (.iinc 3 1, 3) := by decide +kernel
theorem dX11_stuffInCoils_37 : decode cX11_stuffInCoils 37 = .ok (.goto (-33), 3) := by decide +kernel
theorem dX11_stuffInCoils_40 : decode cX11_stuffInCoils 40 = .ok (.lload_n 1, 1) := by decide +kernel
theorem dX11_stuffInCoils_41 : decode cX11_stuffInCoils 41 = .ok (.lreturn, 1) := by decide +kernel
theorem dX11_coilsLeft_0 : decode cX11_coilsLeft 0 = .ok (.iconst 0, 1) := by decide +kernel
theorem dX11_coilsLeft_1 : decode cX11_coilsLeft 1 = .ok (.istore_n 1, 1) := by decide +kernel
theorem dX11_coilsLeft_2 : decode cX11_coilsLeft 2 = .ok (.iconst 0, 1) := by decide +kernel
theorem dX11_coilsLeft_3 : decode cX11_coilsLeft 3 = .ok (.istore_n 2, 1) := by decide +kernel
theorem dX11_coilsLeft_4 : decode cX11_coilsLeft 4 = .ok (.iload_n 2, 1) := by decide +kernel
theorem dX11_coilsLeft_5 : decode cX11_coilsLeft 5 = .ok (.aload_n 0, 1) := by decide +kernel
theorem dX11_coilsLeft_6 : decode cX11_coilsLeft 6 = .ok (.getfield 36, 3) := by decide +kernel
theorem dX11_coilsLeft_9 : decode cX11_coilsLeft 9 = .ok (.arraylength, 1) := by decide +kernel
theorem dX11_coilsLeft_10 : decode cX11_coilsLeft 10 = .ok (.if_icmp .ge 20, 3) := by decide +kernel
theorem dX11_coilsLeft_13 : decode cX11_coilsLeft 13 = .ok (.aload_n 0, 1) := by decide +kernel
theorem dX11_coilsLeft_14 : decode cX11_coilsLeft 14 = .ok (.iload_n 2, 1) := by decide +kernel
theorem dX11_coilsLeft_15 : decode cX11_coilsLeft 15 = .ok (.invokevirtual 183, 3) := by decide +kernel
theorem dX11_coilsLeft_18 : decode cX11_coilsLeft 18 = .ok (.ifnull 6, 3) := by decide +kernel
theorem dX11_coilsLeft_21 : decode cX11_coilsLeft 21 = .ok (.iinc 1 1, 3) := by decide +kernel
theorem dX11_coilsLeft_24 : decode cX11_coilsLeft 24 = .ok (.iinc 2 1, 3) := by decide +kernel
theorem dX11_coilsLeft_27 : decode cX11_coilsLeft 27 = .ok (.goto (-23), 3) := by decide +kernel
theorem dX11_coilsLeft_30 : decode cX11_coilsLeft 30 = .ok (.iload_n 1, 1) := by decide +kernel
theorem dX11_coilsLeft_31 : decode cX11_coilsLeft 31 = .ok (.ireturn, 1) := by decide +kernel
theorem dX11_ordersFilled_0 : decode cX11_ordersFilled 0 = .ok (.iconst 0, 1) := by decide +kernel
theorem dX11_ordersFilled_1 : decode cX11_ordersFilled 1 = .ok (.istore_n 1, 1) := by decide +kernel
theorem dX11_ordersFilled_2 : decode cX11_ordersFilled 2 = .ok (.iconst 0, 1) := by decide +kernel
theorem dX11_ordersFilled_3 : decode cX11_ordersFilled 3 = .ok (.istore_n 2, 1) := by decide +kernel
theorem dX11_ordersFilled_4 : decode cX11_ordersFilled 4 = .ok (.iload_n 2, 1) := by decide +kernel
theorem dX11_ordersFilled_5 : decode cX11_ordersFilled 5 = .ok (.aload_n 0, 1) := by decide +kernel
theorem dX11_ordersFilled_6 : decode cX11_ordersFilled 6 = .ok (.getfield 42, 3) := by decide +kernel
theorem dX11_ordersFilled_9 : decode cX11_ordersFilled 9 = .ok (.arraylength, 1) := by decide +kernel
theorem dX11_ordersFilled_10 : decode cX11_ordersFilled 10 = .ok (.if_icmp .ge 33, 3) := by decide +kernel
theorem dX11_ordersFilled_13 : decode cX11_ordersFilled 13 = .ok (.aload_n 0, 1) := by decide +kernel
theorem dX11_ordersFilled_14 : decode cX11_ordersFilled 14 = .ok (.getfield 42, 3) := by decide +kernel
theorem dX11_ordersFilled_17 : decode cX11_ordersFilled 17 = .ok (.iload_n 2, 1) := by decide +kernel
theorem dX11_ordersFilled_18 : decode cX11_ordersFilled 18 = .ok (.aaload, 1) := by decide +kernel
theorem dX11_ordersFilled_19 : decode cX11_ordersFilled 19 = .ok (.ifnull 18, 3) := by decide +kernel
theorem dX11_ordersFilled_22 : decode cX11_ordersFilled 22 = .ok (.aload_n 0, 1) := by decide +kernel
theorem dX11_ordersFilled_23 : decode cX11_ordersFilled 23 = .ok (.getfield 42, 3) := by decide +kernel
theorem dX11_ordersFilled_26 : decode cX11_ordersFilled 26 = .ok (.iload_n 2, 1) := by decide +kernel
theorem dX11_ordersFilled_27 : decode cX11_ordersFilled 27 = .ok (.aaload, 1) := by decide +kernel
theorem dX11_ordersFilled_28 : decode cX11_ordersFilled 28 = .ok (.getfield 327, 3) := by decide +kernel
theorem dX11_ordersFilled_31 : decode cX11_ordersFilled 31 = .ok (.ifCond .eq 6, 3) := by decide +kernel
theorem dX11_ordersFilled_34 : decode cX11_ordersFilled 34 = .ok (.iinc 1 1, 3) := by decide +kernel
theorem dX11_ordersFilled_37 : decode cX11_ordersFilled 37 = .ok (.iinc 2 1, 3) := by decide +kernel
theorem dX11_ordersFilled_40 : decode cX11_ordersFilled 40 = .ok (.goto (-36), 3) := by decide +kernel
theorem dX11_ordersFilled_43 : decode cX11_ordersFilled 43 = .ok (.iload_n 1, 1) := by decide +kernel
theorem dX11_ordersFilled_44 : decode cX11_ordersFilled 44 = .ok (.ireturn, 1) := by decide +kernel
theorem dX11_isWithin_0 : decode cX11_isWithin 0 = .ok (.iload_n 0, 1) := by decide +kernel
theorem dX11_isWithin_1 : decode cX11_isWithin 1 = .ok (.iload_n 1, 1) := by decide +kernel
theorem dX11_isWithin_2 : decode cX11_isWithin 2 = .ok (.if_icmp .lt 12, 3) := by decide +kernel
theorem dX11_isWithin_5 : decode cX11_isWithin 5 = .ok (.iload_n 0, 1) := by decide +kernel
theorem dX11_isWithin_6 : decode cX11_isWithin 6 = .ok (.iload_n 2, 1) := by decide +kernel
theorem dX11_isWithin_7 : decode cX11_isWithin 7 = .ok (.if_icmp .gt 7, 3) := by decide +kernel
theorem dX11_isWithin_10 : decode cX11_isWithin 10 = .ok (.iconst 1, 1) := by decide +kernel
theorem dX11_isWithin_11 : decode cX11_isWithin 11 = .ok (.goto 4, 3) := by decide +kernel
theorem dX11_isWithin_14 : decode cX11_isWithin 14 = .ok (.iconst 0, 1) := by decide +kernel
theorem dX11_isWithin_15 : decode cX11_isWithin 15 = .ok (.ireturn, 1) := by decide +kernel
theorem dX11_isSize_0 : decode cX11_isSize 0 = .ok (.iload_n 0, 1) := by decide +kernel
theorem dX11_isSize_1 : decode cX11_isSize 1 = .ok (.bipush 20, 2) := by decide +kernel
theorem dX11_isSize_3 : decode cX11_isSize 3 = .ok (.sipush 1000, 3) := by decide +kernel
theorem dX11_isSize_6 : decode cX11_isSize 6 = .ok (.invokestatic 89, 3) := by decide +kernel
theorem dX11_isSize_9 : decode cX11_isSize 9 = .ok (.ireturn, 1) := by decide +kernel
theorem dX11_isRange_0 : decode cX11_isRange 0 = .ok (.iload_n 0, 1) := by decide +kernel
theorem dX11_isRange_1 : decode cX11_isRange 1 = .ok (.invokestatic 136, 3) := by decide +kernel
theorem dX11_isRange_4 : decode cX11_isRange 4 = .ok (.ifCond .eq 19, 3) := by decide +kernel
theorem dX11_isRange_7 : decode cX11_isRange 7 = .ok (.iload_n 1, 1) := by decide +kernel
theorem dX11_isRange_8 : decode cX11_isRange 8 = .ok (.invokestatic 136, 3) := by decide +kernel
theorem dX11_isRange_11 : decode cX11_isRange 11 = .ok (.ifCond .eq 12, 3) := by decide +kernel
theorem dX11_isRange_14 : decode cX11_isRange 14 = .ok (.iload_n 0, 1) := by decide +kernel
theorem dX11_isRange_15 : decode cX11_isRange 15 = .ok (.iload_n 1, 1) := by decide +kernel
theorem dX11_isRange_16 : decode cX11_isRange 16 = .ok (.if_icmp .gt 7, 3) := by decide +kernel
theorem dX11_isRange_19 : decode cX11_isRange 19 = .ok (.iconst 1, 1) := by decide +kernel
theorem dX11_isRange_20 : decode cX11_isRange 20 = .ok (.goto 4, 3) := by decide +kernel
theorem dX11_isRange_23 : decode cX11_isRange 23 = .ok (.iconst 0, 1) := by decide +kernel
theorem dX11_isRange_24 : decode cX11_isRange 24 = .ok (.ireturn, 1) := by decide +kernel
theorem dX11_isCause_0 : decode cX11_isCause 0 = .ok (.iload_n 0, 1) := by decide +kernel
theorem dX11_isCause_1 : decode cX11_isCause 1 = .ok (.iconst 0, 1) := by decide +kernel
theorem dX11_isCause_2 : decode cX11_isCause 2 = .ok (.iconst 2, 1) := by decide +kernel
theorem dX11_isCause_3 : decode cX11_isCause 3 = .ok (.invokestatic 89, 3) := by decide +kernel
theorem dX11_isCause_6 : decode cX11_isCause 6 = .ok (.ireturn, 1) := by decide +kernel
theorem dX11_quotient_0 : decode cX11_quotient 0 = .ok (.lload_n 2, 1) := by decide +kernel
theorem dX11_quotient_1 : decode cX11_quotient 1 = .ok (.lconst 0, 1) := by decide +kernel
theorem dX11_quotient_2 : decode cX11_quotient 2 = .ok (.lcmp, 1) := by decide +kernel
theorem dX11_quotient_3 : decode cX11_quotient 3 = .ok (.ifCond .ne 7, 3) := by decide +kernel
theorem dX11_quotient_6 : decode cX11_quotient 6 = .ok (.lconst 0, 1) := by decide +kernel
theorem dX11_quotient_7 : decode cX11_quotient 7 = .ok (.goto 6, 3) := by decide +kernel
theorem dX11_quotient_10 : decode cX11_quotient 10 = .ok (.lload_n 0, 1) := by decide +kernel
theorem dX11_quotient_11 : decode cX11_quotient 11 = .ok (.lload_n 2, 1) := by decide +kernel
theorem dX11_quotient_12 : decode cX11_quotient 12 = .ok (.ldiv, 1) := by decide +kernel
theorem dX11_quotient_13 : decode cX11_quotient 13 = .ok (.lreturn, 1) := by decide +kernel
theorem dX11_commonDivisor_0 : decode cX11_commonDivisor 0 = .ok (.iload_n 0, 1) := by decide +kernel
theorem dX11_commonDivisor_1 : decode cX11_commonDivisor 1 = .ok (.istore_n 2, 1) := by decide +kernel
theorem dX11_commonDivisor_2 : decode cX11_commonDivisor 2 = .ok (.iload_n 1, 1) := by decide +kernel
theorem dX11_commonDivisor_3 : decode cX11_commonDivisor 3 = .ok (.istore_n 3, 1) := by decide +kernel
theorem dX11_commonDivisor_4 : decode cX11_commonDivisor 4 = .ok (.iconst 0, 1) := by decide +kernel
theorem dX11_commonDivisor_5 : decode cX11_commonDivisor 5 = .ok (.istore 4, 2) := by decide +kernel
theorem dX11_commonDivisor_7 : decode cX11_commonDivisor 7 = .ok (.iload 4, 2) := by decide +kernel
theorem dX11_commonDivisor_9 : decode cX11_commonDivisor 9 = .ok (.bipush 64, 2) := by decide +kernel
theorem dX11_commonDivisor_11 : decode cX11_commonDivisor 11 = .ok (.if_icmp .ge 23, 3) := by decide +kernel
theorem dX11_commonDivisor_14 : decode cX11_commonDivisor 14 = .ok (.iload_n 3, 1) := by decide +kernel
theorem dX11_commonDivisor_15 : decode cX11_commonDivisor 15 = .ok (.ifCond .eq 19, 3) := by decide +kernel
theorem dX11_commonDivisor_18 : decode cX11_commonDivisor 18 = .ok (.iload_n 2, 1) := by decide +kernel
theorem dX11_commonDivisor_19 : decode cX11_commonDivisor 19 = .ok (.iload_n 3, 1) := by decide +kernel
theorem dX11_commonDivisor_20 : decode cX11_commonDivisor 20 = .ok (.irem, 1) := by decide +kernel
theorem dX11_commonDivisor_21 : decode cX11_commonDivisor 21 = .ok (.istore 5, 2) := by decide +kernel
theorem dX11_commonDivisor_23 : decode cX11_commonDivisor 23 = .ok (.iload_n 3, 1) := by decide +kernel
theorem dX11_commonDivisor_24 : decode cX11_commonDivisor 24 = .ok (.istore_n 2, 1) := by decide +kernel
theorem dX11_commonDivisor_25 : decode cX11_commonDivisor 25 = .ok (.iload 5, 2) := by decide +kernel
theorem dX11_commonDivisor_27 : decode cX11_commonDivisor 27 = .ok (.istore_n 3, 1) := by decide +kernel
theorem dX11_commonDivisor_28 : decode cX11_commonDivisor 28 = .ok (.iinc 4 1, 3) := by decide +kernel
theorem dX11_commonDivisor_31 : decode cX11_commonDivisor 31 = .ok (.goto (-24), 3) := by decide +kernel
theorem dX11_commonDivisor_34 : decode cX11_commonDivisor 34 = .ok (.iload_n 2, 1) := by decide +kernel
theorem dX11_commonDivisor_35 : decode cX11_commonDivisor 35 = .ok (.ireturn, 1) := by decide +kernel
theorem dX11_choices_0 : decode cX11_choices 0 = .ok (.iload_n 1, 1) := by decide +kernel
theorem dX11_choices_1 : decode cX11_choices 1 = .ok (.ifCond .lt 8, 3) := by decide +kernel
theorem dX11_choices_4 : decode cX11_choices 4 = .ok (.iload_n 1, 1) := by decide +kernel
theorem dX11_choices_5 : decode cX11_choices 5 = .ok (.iload_n 0, 1) := by decide +kernel
theorem dX11_choices_6 : decode cX11_choices 6 = .ok (.if_icmp .le 5, 3) := by decide +kernel
theorem dX11_choices_9 : decode cX11_choices 9 = .ok (.lconst 0, 1) := by decide +kernel
theorem dX11_choices_10 : decode cX11_choices 10 = .ok (.lreturn, 1) := by decide +kernel
theorem dX11_choices_11 : decode cX11_choices 11 = .ok (.iload_n 1, 1) := by decide +kernel
theorem dX11_choices_12 : decode cX11_choices 12 = .ok (.iload_n 0, 1) := by decide +kernel
theorem dX11_choices_13 : decode cX11_choices 13 = .ok (.iload_n 1, 1) := by decide +kernel
theorem dX11_choices_14 : decode cX11_choices 14 = .ok (.isub, 1) := by decide +kernel
theorem dX11_choices_15 : decode cX11_choices 15 = .ok (.invokestatic 405, 3) := by decide +kernel
theorem dX11_choices_18 : decode cX11_choices 18 = .ok (.istore_n 2, 1) := by decide +kernel
theorem dX11_choices_19 : decode cX11_choices 19 = .ok (.lconst 1, 1) := by decide +kernel
theorem dX11_choices_20 : decode cX11_choices 20 = .ok (.lstore_n 3, 1) := by decide +kernel
theorem dX11_choices_21 : decode cX11_choices 21 = .ok (.iconst 0, 1) := by decide +kernel
theorem dX11_choices_22 : decode cX11_choices 22 = .ok (.istore 5, 2) := by decide +kernel
theorem dX11_choices_24 : decode cX11_choices 24 = .ok (.iload 5, 2) := by decide +kernel
theorem dX11_choices_26 : decode cX11_choices 26 = .ok (.iload_n 2, 1) := by decide +kernel
theorem dX11_choices_27 : decode cX11_choices 27 = .ok (.if_icmp .ge 23, 3) := by decide +kernel
theorem dX11_choices_30 : decode cX11_choices 30 = .ok (.lload_n 3, 1) := by decide +kernel
theorem dX11_choices_31 : decode cX11_choices 31 = .ok (.iload_n 0, 1) := by decide +kernel
theorem dX11_choices_32 : decode cX11_choices 32 = .ok (.iload 5, 2) := by decide +kernel
theorem dX11_choices_34 : decode cX11_choices 34 = .ok (.isub, 1) := by decide +kernel
theorem dX11_choices_35 : decode cX11_choices 35 = .ok (.i2l, 1) := by decide +kernel
theorem dX11_choices_36 : decode cX11_choices 36 = .ok (.lmul, 1) := by decide +kernel
theorem dX11_choices_37 : decode cX11_choices 37 = .ok (.iload 5, 2) := by decide +kernel
theorem dX11_choices_39 : decode cX11_choices 39 = .ok (.iconst 1, 1) := by decide +kernel
theorem dX11_choices_40 : decode cX11_choices 40 = .ok (.iadd, 1) := by decide +kernel
theorem dX11_choices_41 : decode cX11_choices 41 = .ok (.i2l, 1) := by decide +kernel
theorem dX11_choices_42 : decode cX11_choices 42 = .ok (.ldiv, 1) := by decide +kernel
theorem dX11_choices_43 : decode cX11_choices 43 = .ok (.lstore_n 3, 1) := by decide +kernel
theorem dX11_choices_44 : decode cX11_choices 44 = .ok (.iinc 5 1, 3) := by decide +kernel
theorem dX11_choices_47 : decode cX11_choices 47 = .ok (.goto (-23), 3) := by decide +kernel
theorem dX11_choices_50 : decode cX11_choices 50 = .ok (.lload_n 3, 1) := by decide +kernel
theorem dX11_choices_51 : decode cX11_choices 51 = .ok (.lreturn, 1) := by decide +kernel
theorem dX12_init_0 : decode cX12_init 0 = .ok (.aload_n 0, 1) := by decide +kernel
theorem dX12_init_1 : decode cX12_init 1 = .ok (.invokespecial 1, 3) := by decide +kernel
theorem dX12_init_4 : decode cX12_init 4 = .ok (.aload_n 0, 1) := by decide +kernel
theorem dX12_init_5 : decode cX12_init 5 = .ok (.iconst 4, 1) := by decide +kernel
theorem dX12_init_6 : decode cX12_init 6 = .ok (.newarray .int, 2) := by decide +kernel
theorem dX12_init_8 : decode cX12_init 8 = .ok (.putfield 7, 3) := by decide +kernel
theorem dX12_init_11 : decode cX12_init 11 = .ok (.aload_n 0, 1) := by decide +kernel
theorem dX12_init_12 : decode cX12_init 12 = .ok (.iconst 4, 1) := by decide +kernel
theorem dX12_init_13 : decode cX12_init 13 = .ok (.newarray .int, 2) := by decide +kernel
theorem dX12_init_15 : decode cX12_init 15 = .ok (.putfield 13, 3) := by decide +kernel
theorem dX12_init_18 : decode cX12_init 18 = .ok (.aload_n 0, 1) := by decide +kernel
theorem dX12_init_19 : decode cX12_init 19 = .ok (.iconst 4, 1) := by decide +kernel
theorem dX12_init_20 : decode cX12_init 20 = .ok (.newarray .int, 2) := by decide +kernel
theorem dX12_init_22 : decode cX12_init 22 = .ok (.putfield 16, 3) := by decide +kernel
theorem dX12_init_25 : decode cX12_init 25 = .ok (.aload_n 0, 1) := by decide +kernel
theorem dX12_init_26 : decode cX12_init 26 = .ok (.iconst 4, 1) := by decide +kernel
theorem dX12_init_27 : decode cX12_init 27 = .ok (.newarray .int, 2) := by decide +kernel
