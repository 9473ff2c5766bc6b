theorem dX7_spans_18 : decode cX7_spans 18 = .ok (.getfield 17, 3) := by decide +kernel
theorem dX7_spans_21 : decode cX7_spans 21 = .ok (.iload_n 2, 1) := by decide +kernel
theorem dX7_spans_22 : decode cX7_spans 22 = .ok (.isub, 1) := by decide +kernel
theorem dX7_spans_23 : decode cX7_spans 23 = .ok (.if_icmp .gt 7, 3) := by decide +kernel
theorem dX7_spans_26 : decode cX7_spans 26 = .ok (.iconst 1, 1) := by decide +kernel
theorem dX7_spans_27 : decode cX7_spans 27 = .ok (.goto 4, 3) := by decide +kernel
theorem dX7_spans_30 : decode cX7_spans 30 = .ok (.iconst 0, 1) := by decide +kernel
theorem dX7_spans_31 : decode cX7_spans 31 = .ok (.ireturn, 1) := by decide +kernel
theorem dX7_cut_0 : decode cX7_cut 0 = .ok (.aload_n 0, 1) := by decide +kernel
theorem dX7_cut_1 : decode cX7_cut 1 = .ok (.getfield 13, 3) := by decide +kernel
theorem dX7_cut_4 : decode cX7_cut 4 = .ok (.tableswitch 62 0 4 #[36, 41, 46, 62, 50], 36) := by decide +kernel
theorem dX7_cut_40 : decode cX7_cut 40 = .ok (.lload_n 1, 1) := by decide +kernel
theorem dX7_cut_41 : decode cX7_cut 41 = .ok (.l2i, 1) := by decide +kernel
theorem dX7_cut_42 : decode cX7_cut 42 = .ok (.i2b, 1) := by decide +kernel
theorem dX7_cut_43 : decode cX7_cut 43 = .ok (.i2l, 1) := by decide +kernel
theorem dX7_cut_44 : decode cX7_cut 44 = .ok (.lreturn, 1) := by decide +kernel
theorem dX7_cut_45 : decode cX7_cut 45 = .ok (.lload_n 1, 1) := by decide +kernel
theorem dX7_cut_46 : decode cX7_cut 46 = .ok (.l2i, 1) := by decide +kernel
theorem dX7_cut_47 : decode cX7_cut 47 = .ok (.i2s, 1) := by decide +kernel
theorem dX7_cut_48 : decode cX7_cut 48 = .ok (.i2l, 1) := by decide +kernel
theorem dX7_cut_49 : decode cX7_cut 49 = .ok (.lreturn, 1) := by decide +kernel
theorem dX7_cut_50 : decode cX7_cut 50 = .ok (.lload_n 1, 1) := by decide +kernel
theorem dX7_cut_51 : decode cX7_cut 51 = .ok (.l2i, 1) := by decide +kernel
theorem dX7_cut_52 : decode cX7_cut 52 = .ok (.i2l, 1) := by decide +kernel
theorem dX7_cut_53 : decode cX7_cut 53 = .ok (.lreturn, 1) := by decide +kernel
theorem dX7_cut_54 : decode cX7_cut 54 = .ok (.lload_n 1, 1) := by decide +kernel
theorem dX7_cut_55 : decode cX7_cut 55 = .ok (.lconst 0, 1) := by decide +kernel
theorem dX7_cut_56 : decode cX7_cut 56 = .ok (.lcmp, 1) := by decide +kernel
theorem dX7_cut_57 : decode cX7_cut 57 = .ok (.ifCond .eq 7, 3) := by decide +kernel
theorem dX7_cut_60 : decode cX7_cut 60 = .ok (.lconst 1, 1) := by decide +kernel
theorem dX7_cut_61 : decode cX7_cut 61 = .ok (.goto 4, 3) := by decide +kernel
theorem dX7_cut_64 : decode cX7_cut 64 = .ok (.lconst 0, 1) := by decide +kernel
theorem dX7_cut_65 : decode cX7_cut 65 = .ok (.lreturn, 1) := by decide +kernel
theorem dX7_cut_66 : decode cX7_cut 66 = .ok (.lload_n 1, 1) := by decide +kernel
theorem dX7_cut_67 : decode cX7_cut 67 = .ok (.lreturn, 1) := by decide +kernel
theorem dX8_init_0 : decode cX8_init 0 = .ok (.aload_n 0, 1) := by decide +kernel
theorem dX8_init_1 : decode cX8_init 1 = .ok (.invokespecial 3, 3) := by decide +kernel
theorem dX8_init_4 : decode cX8_init 4 = .ok (.aload_n 0, 1) := by decide +kernel
theorem dX8_init_5 : decode cX8_init 5 = .ok (.bipush 21, 2) := by decide +kernel
theorem dX8_init_7 : decode cX8_init 7 = .ok (.newarray .long, 2) := by decide +kernel
theorem dX8_init_9 : decode cX8_init 9 = .ok (.putfield 11, 3) := by decide +kernel
theorem dX8_init_12 : decode cX8_init 12 = .ok (.return_, 1) := by decide +kernel
theorem dX8_stride_0 : decode cX8_stride 0 = .ok (.bipush (-5), 2) := by decide +kernel
theorem dX8_stride_2 : decode cX8_stride 2 = .ok (.istore_n 3, 1) := by decide +kernel
theorem dX8_stride_3 : decode cX8_stride 3 = .ok (.iconst 0, 1) := by decide +kernel
theorem dX8_stride_4 : decode cX8_stride 4 = .ok (.istore 4, 2) := by decide +kernel
theorem dX8_stride_6 : decode cX8_stride 6 = .ok (.iload 4, 2) := by decide +kernel
theorem dX8_stride_8 : decode cX8_stride 8 = .ok (.aload_n 1, 1) := by decide +kernel
theorem dX8_stride_9 : decode cX8_stride 9 = .ok (.getfield 15, 3) := by decide +kernel
theorem dX8_stride_12 : decode cX8_stride 12 = .ok (.if_icmp .ge 40, 3) := by decide +kernel
theorem dX8_stride_15 : decode cX8_stride 15 = .ok (.iload_n 3, 1) := by decide +kernel
theorem dX8_stride_16 : decode cX8_stride 16 = .ok (.bipush (-5), 2) := by decide +kernel
theorem dX8_stride_18 : decode cX8_stride 18 = .ok (.if_icmp .ne 34, 3) := by decide +kernel
theorem dX8_stride_21 : decode cX8_stride 21 = .ok (.aload_n 1, 1) := by decide +kernel
theorem dX8_stride_22 : decode cX8_stride 22 = .ok (.iload 4, 2) := by decide +kernel
theorem dX8_stride_24 : decode cX8_stride 24 = .ok (.invokevirtual 21, 3) := by decide +kernel
theorem dX8_stride_27 : decode cX8_stride 27 = .ok (.istore 5, 2) := by decide +kernel
theorem dX8_stride_29 : decode cX8_stride 29 = .ok (.iload 5, 2) := by decide +kernel
theorem dX8_stride_31 : decode cX8_stride 31 = .ok (.ifCond .lt 15, 3) := by decide +kernel
theorem dX8_stride_34 : decode cX8_stride 34 = .ok (.aload_n 1, 1) := by decide +kernel
theorem dX8_stride_35 : decode cX8_stride 35 = .ok (.getfield 25, 3) := by decide +kernel
theorem dX8_stride_38 : decode cX8_stride 38 = .ok (.iload 4, 2) := by decide +kernel
theorem dX8_stride_40 : decode cX8_stride 40 = .ok (.iload 5, 2) := by decide +kernel
theorem dX8_stride_42 : decode cX8_stride 42 = .ok (.iastore, 1) := by decide +kernel
theorem dX8_stride_43 : decode cX8_stride 43 = .ok (.iload 4, 2) := by decide +kernel
theorem dX8_stride_45 : decode cX8_stride 45 = .ok (.istore_n 3, 1) := by decide +kernel
theorem dX8_stride_46 : decode cX8_stride 46 = .ok (.iinc 4 1, 3) := by decide +kernel
theorem dX8_stride_49 : decode cX8_stride 49 = .ok (.goto (-43), 3) := by decide +kernel
theorem dX8_stride_52 : decode cX8_stride 52 = .ok (.iconst 0, 1) := by decide +kernel
theorem dX8_stride_53 : decode cX8_stride 53 = .ok (.istore 4, 2) := by decide +kernel
theorem dX8_stride_55 : decode cX8_stride 55 = .ok (.iconst 0, 1) := by decide +kernel
theorem dX8_stride_56 : decode cX8_stride 56 = .ok (.istore 5, 2) := by decide +kernel
theorem dX8_stride_58 : decode cX8_stride 58 = .ok (.iload 5, 2) := by decide +kernel
theorem dX8_stride_60 : decode cX8_stride 60 = .ok (.aload_n 1, 1) := by decide +kernel
theorem dX8_stride_61 : decode cX8_stride 61 = .ok (.getfield 29, 3) := by decide +kernel
theorem dX8_stride_64 : decode cX8_stride 64 = .ok (.if_icmp .ge 24, 3) := by decide +kernel
theorem dX8_stride_67 : decode cX8_stride 67 = .ok (.iload_n 2, 1) := by decide +kernel
theorem dX8_stride_68 : decode cX8_stride 68 = .ok (.ifCond .eq 20, 3) := by decide +kernel
theorem dX8_stride_71 : decode cX8_stride 71 = .ok (.iload 4, 2) := by decide +kernel
theorem dX8_stride_73 : decode cX8_stride 73 = .ok (.aload_n 1, 1) := by decide +kernel
theorem dX8_stride_74 : decode cX8_stride 74 = .ok (.iload 5, 2) := by decide +kernel
theorem dX8_stride_76 : decode cX8_stride 76 = .ok (.invokevirtual 32, 3) := by decide +kernel
theorem dX8_stride_79 : decode cX8_stride 79 = .ok (.iadd, 1) := by decide +kernel
theorem dX8_stride_80 : decode cX8_stride 80 = .ok (.istore 4, 2) := by decide +kernel
theorem dX8_stride_82 : decode cX8_stride 82 = .ok (.iinc 5 1, 3) := by decide +kernel
theorem dX8_stride_85 : decode cX8_stride 85 = .ok (.goto (-27), 3) := by decide +kernel
theorem dX8_stride_88 : decode cX8_stride 88 = .ok (.iload_n 3, 1) := by decide +kernel
theorem dX8_stride_89 : decode cX8_stride 89 = .ok (.bipush (-5), 2) := by decide +kernel
theorem dX8_stride_91 : decode cX8_stride 91 = .ok (.if_icmp .ne 13, 3) := by decide +kernel
theorem dX8_stride_94 : decode cX8_stride 94 = .ok (.iload 4, 2) := by decide +kernel
theorem dX8_stride_96 : decode cX8_stride 96 = .ok (.ifCond .ne 8, 3) := by decide +kernel
theorem dX8_stride_99 : decode cX8_stride 99 = .ok (.bipush (-6), 2) := by decide +kernel
theorem dX8_stride_101 : decode cX8_stride 101 = .ok (.goto 4, 3) := by decide +kernel
theorem dX8_stride_104 : decode cX8_stride 104 = .ok (.iload_n 3, 1) := by decide +kernel
theorem dX8_stride_105 : decode cX8_stride 105 = .ok (.ireturn, 1) := by decide +kernel
theorem dX8_strideOn_0 : decode cX8_strideOn 0 = .ok (.aload_n 0, 1) := by decide +kernel
theorem dX8_strideOn_1 : decode cX8_strideOn 1 = .ok (.getfield 11, 3) := by decide +kernel
theorem dX8_strideOn_4 : decode cX8_strideOn 4 = .ok (.iconst 0, 1) := by decide +kernel
theorem dX8_strideOn_5 : decode cX8_strideOn 5 = .ok (.aload_n 1, 1) := by decide +kernel
theorem dX8_strideOn_6 : decode cX8_strideOn 6 = .ok (.invokevirtual 35, 3) := by decide +kernel
theorem dX8_strideOn_9 : decode cX8_strideOn 9 = .ok (.lastore, 1) := by decide +kernel
theorem dX8_strideOn_10 : decode cX8_strideOn 10 = .ok (.iconst 1, 1) := by decide +kernel
theorem dX8_strideOn_11 : decode cX8_strideOn 11 = .ok (.istore_n 3, 1) := by decide +kernel
theorem dX8_strideOn_12 : decode cX8_strideOn 12 = .ok (.iload_n 3, 1) := by decide +kernel
theorem dX8_strideOn_13 : decode cX8_strideOn 13 = .ok (.bipush 20, 2) := by decide +kernel
theorem dX8_strideOn_15 : decode cX8_strideOn 15 = .ok (.if_icmp .gt 74, 3) := by decide +kernel
theorem dX8_strideOn_18 : decode cX8_strideOn 18 = .ok (.aload_n 0, 1) := by decide +kernel
theorem dX8_strideOn_19 : decode cX8_strideOn 19 = .ok (.aload_n 1, 1) := by decide +kernel
theorem dX8_strideOn_20 : decode cX8_strideOn 20 = .ok (.iload_n 2, 1) := by decide +kernel
theorem dX8_strideOn_21 : decode cX8_strideOn 21 = .ok (.invokevirtual 39, 3) := by decide +kernel
theorem dX8_strideOn_24 : decode cX8_strideOn 24 = .ok (.bipush (-6), 2) := by decide +kernel
theorem dX8_strideOn_26 : decode cX8_strideOn 26 = .ok (.if_icmp .ne 7, 3) := by decide +kernel
theorem dX8_strideOn_29 : decode cX8_strideOn 29 = .ok (.iload_n 3, 1) := by decide +kernel
theorem dX8_strideOn_30 : decode cX8_strideOn 30 = .ok (.iconst 1, 1) := by decide +kernel
theorem dX8_strideOn_31 : decode cX8_strideOn 31 = .ok (.isub, 1) := by decide +kernel
theorem dX8_strideOn_32 : decode cX8_strideOn 32 = .ok (.ireturn, 1) := by decide +kernel
theorem dX8_strideOn_33 : decode cX8_strideOn 33 = .ok (.aload_n 0, 1) := by decide +kernel
theorem dX8_strideOn_34 : decode cX8_strideOn 34 = .ok (.getfield 11, 3) := by decide +kernel
theorem dX8_strideOn_37 : decode cX8_strideOn 37 = .ok (.iload_n 3, 1) := by decide +kernel
theorem dX8_strideOn_38 : decode cX8_strideOn 38 = .ok (.aload_n 1, 1) := by decide +kernel
theorem dX8_strideOn_39 : decode cX8_strideOn 39 = .ok (.invokevirtual 35, 3) := by decide +kernel
theorem dX8_strideOn_42 : decode cX8_strideOn 42 = .ok (.lastore, 1) := by decide +kernel
theorem dX8_strideOn_43 : decode cX8_strideOn 43 = .ok (.iconst 1, 1) := by decide +kernel
theorem dX8_strideOn_44 : decode cX8_strideOn 44 = .ok (.istore 4, 2) := by decide +kernel
theorem dX8_strideOn_46 : decode cX8_strideOn 46 = .ok (.iload 4, 2) := by decide +kernel
theorem dX8_strideOn_48 : decode cX8_strideOn 48 = .ok (.iload_n 3, 1) := by decide +kernel
theorem dX8_strideOn_49 : decode cX8_strideOn 49 = .ok (.if_icmp .gt 34, 3) := by decide +kernel
theorem dX8_strideOn_52 : decode cX8_strideOn 52 = .ok (.aload_n 0, 1) := by decide +kernel
theorem dX8_strideOn_53 : decode cX8_strideOn 53 = .ok (.getfield 11, 3) := by decide +kernel
theorem dX8_strideOn_56 : decode cX8_strideOn 56 = .ok (.iload_n 3, 1) := by decide +kernel
theorem dX8_strideOn_57 : decode cX8_strideOn 57 = .ok (.iload 4, 2) := by decide +kernel
theorem dX8_strideOn_59 : decode cX8_strideOn 59 = .ok (.isub, 1) := by decide +kernel
theorem dX8_strideOn_60 : decode cX8_strideOn 60 = .ok (.laload, 1) := by decide +kernel
theorem dX8_strideOn_61 : decode cX8_strideOn 61 = .ok (.aload_n 0, 1) := by decide +kernel
theorem dX8_strideOn_62 : decode cX8_strideOn 62 = .ok (.getfield 11, 3) := by decide +kernel
theorem dX8_strideOn_65 : decode cX8_strideOn 65 = .ok (.iload_n 3, 1) := by decide +kernel
theorem dX8_strideOn_66 : decode cX8_strideOn 66 = .ok (.laload, 1) := by decide +kernel
theorem dX8_strideOn_67 : decode cX8_strideOn 67 = .ok (.lcmp, 1) := by decide +kernel
theorem dX8_strideOn_68 : decode cX8_strideOn 68 = .ok (.ifCond .ne 9, 3) := by decide +kernel
theorem dX8_strideOn_71 : decode cX8_strideOn 71 = .ok (.bipush 100, 2) := by decide +kernel
theorem dX8_strideOn_73 : decode cX8_strideOn 73 = .ok (.iload 4, 2) := by decide +kernel
theorem dX8_strideOn_75 : decode cX8_strideOn 75 = .ok (.iadd, 1) := by decide +kernel
theorem dX8_strideOn_76 : decode cX8_strideOn 76 = .ok (.ireturn, 1) := by decide +kernel
theorem dX8_strideOn_77 : decode cX8_strideOn 77 = .ok (.iinc 4 1, 3) := by decide +kernel
theorem dX8_strideOn_80 : decode cX8_strideOn 80 = .ok (.goto (-34), 3) := by decide +kernel
theorem dX8_strideOn_83 : decode cX8_strideOn 83 = .ok (.iinc 3 1, 3) := by decide +kernel
theorem dX8_strideOn_86 : decode cX8_strideOn 86 = .ok (.goto (-74), 3) := by decide +kernel
theorem dX8_strideOn_89 : decode cX8_strideOn 89 = .ok (.sipush 200, 3) := by decide +kernel
theorem dX8_strideOn_92 : decode cX8_strideOn 92 = .ok (.ireturn, 1) := by decide +kernel
theorem dX9_init_0 : decode cX9_init 0 = .ok (.aload_n 0, 1) := by decide +kernel
theorem dX9_init_1 : decode cX9_init 1 = .ok (.invokespecial 3, 3) := by decide +kernel
theorem dX9_init_4 : decode cX9_init 4 = .ok (.aload_n 0, 1) := by decide +kernel
theorem dX9_init_5 : decode cX9_init 5 = .ok (.new 9, 3) := by decide +kernel
theorem dX9_init_8 : decode cX9_init 8 = .ok (.dup, 1) := by decide +kernel
theorem dX9_init_9 : decode cX9_init 9 = .ok (.new 11, 3) := by decide +kernel
theorem dX9_init_12 : decode cX9_init 12 = .ok (.dup, 1) := by decide +kernel
theorem dX9_init_13 : decode cX9_init 13 = .ok (.invokespecial 13, 3) := by decide +kernel
theorem dX9_init_16 : decode cX9_init 16 = .ok (.invokespecial 14, 3) := by decide +kernel
theorem dX9_init_19 : decode cX9_init 19 = .ok (.putfield 17, 3) := by decide +kernel
theorem dX9_init_22 : decode cX9_init 22 = .ok (.aload_n 0, 1) := by decide +kernel
theorem dX9_init_23 : decode cX9_init 23 = .ok (.new 9, 3) := by decide +kernel
theorem dX9_init_26 : decode cX9_init 26 = .ok (.dup, 1) := by decide +kernel
theorem dX9_init_27 : decode cX9_init 27 = .ok (.aload_n 0, 1) := by decide +kernel
theorem dX9_init_28 : decode cX9_init 28 = .ok (.getfield 17, 3) := by decide +kernel
theorem dX9_init_31 : decode cX9_init 31 = .ok (.getfield 23, 3) := by decide +kernel
theorem dX9_init_34 : decode cX9_init 34 = .ok (.invokespecial 14, 3) := by decide +kernel
theorem dX9_init_37 : decode cX9_init 37 = .ok (.putfield 27, 3) := by decide +kernel
theorem dX9_init_40 : decode cX9_init 40 = .ok (.aload_n 0, 1) := by decide +kernel
theorem dX9_init_41 : decode cX9_init 41 = .ok (.new 9, 3) := by decide +kernel
theorem dX9_init_44 : decode cX9_init 44 = .ok (.dup, 1) := by decide +kernel
theorem dX9_init_45 : decode cX9_init 45 = .ok (.aload_n 0, 1) := by decide +kernel
theorem dX9_init_46 : decode cX9_init 46 = .ok (.getfield 17, 3) := by decide +kernel
theorem dX9_init_49 : decode cX9_init 49 = .ok (.getfield 23, 3) := by decide +kernel
theorem dX9_init_52 : decode cX9_init 52 = .ok (.invokespecial 14, 3) := by decide +kernel
theorem dX9_init_55 : decode cX9_init 55 = .ok (.putfield 30, 3) := by decide +kernel
theorem dX9_init_58 : decode cX9_init 58 = .ok (.aload_n 0, 1) := by decide +kernel
theorem dX9_init_59 : decode cX9_init 59 = .ok (.new 11, 3) := by decide +kernel
theorem dX9_init_62 : decode cX9_init 62 = .ok (.dup, 1) := by decide +kernel
theorem dX9_init_63 : decode cX9_init 63 = .ok (.invokespecial 13, 3) := by decide +kernel
theorem dX9_init_66 : decode cX9_init 66 = .ok (.putfield 33, 3) := by decide +kernel
theorem dX9_init_69 : decode cX9_init 69 = .ok (.aload_n 0, 1) := by decide +kernel
theorem dX9_init_70 : decode cX9_init 70 = .ok (.new 36, 3) := by decide +kernel
theorem dX9_init_73 : decode cX9_init 73 = .ok (.dup, 1) := by decide +kernel
theorem dX9_init_74 : decode cX9_init 74 = .ok (.invokespecial 38, 3) := by decide +kernel
theorem dX9_init_77 : decode cX9_init 77 = .ok (.putfield 39, 3) := by decide +kernel
theorem dX9_init_80 : decode cX9_init 80 = .ok (.aload_n 0, 1) := by decide +kernel
theorem dX9_init_81 : decode cX9_init 81 = .ok (.new 43, 3) := by decide +kernel
theorem dX9_init_84 : decode cX9_init 84 = .ok (.dup, 1) := by decide +kernel
theorem dX9_init_85 : decode cX9_init 85 = .ok (.invokespecial 45, 3) := by decide +kernel
theorem dX9_init_88 : decode cX9_init 88 = .ok (.putfield 46, 3) := by decide +kernel
theorem dX9_init_91 : decode cX9_init 91 = .ok (.aload_n 0, 1) := by decide +kernel
theorem dX9_init_92 : decode cX9_init 92 = .ok (.new 50, 3) := by decide +kernel
theorem dX9_init_95 : decode cX9_init 95 = .ok (.dup, 1) := by decide +kernel
theorem dX9_init_96 : decode cX9_init 96 = .ok (.invokespecial 52, 3) := by decide +kernel
theorem dX9_init_99 : decode cX9_init 99 = .ok (.putfield 53, 3) := by decide +kernel
theorem dX9_init_102 : decode cX9_init 102 = .ok (.aload_n 0, 1) := by decide +kernel
theorem dX9_init_103 : decode cX9_init 103 = .ok (.new 57, 3) := by decide +kernel
theorem dX9_init_106 : decode cX9_init 106 = .ok (.dup, 1) := by decide +kernel
theorem dX9_init_107 : decode cX9_init 107 = .ok (.invokespecial 59, 3) := by decide +kernel
theorem dX9_init_110 : decode cX9_init 110 = .ok (.putfield 60, 3) := by decide +kernel
theorem dX9_init_113 : decode cX9_init 113 = .ok (.aload_n 0, 1) := by decide +kernel
theorem dX9_init_114 : decode cX9_init 114 = .ok (.new 64, 3) := by decide +kernel
theorem dX9_init_117 : decode cX9_init 117 = .ok (.dup, 1) := by decide +kernel
theorem dX9_init_118 : decode cX9_init 118 = .ok (.invokespecial 66, 3) := by decide +kernel
theorem dX9_init_121 : decode cX9_init 121 = .ok (.putfield 67, 3) := by decide +kernel
theorem dX9_init_124 : decode cX9_init 124 = .ok (.aload_n 0, 1) := by decide +kernel
theorem dX9_init_125 : decode cX9_init 125 = .ok (.iconst 4, 1) := by decide +kernel
theorem dX9_init_126 : decode cX9_init 126 = .ok (.anewarray 71, 3) := by decide +kernel
theorem dX9_init_129 : decode cX9_init 129 = .ok (.putfield 73, 3) := by decide +kernel
theorem dX9_init_132 : decode cX9_init 132 = .ok (.aload_n 0, 1) := by decide +kernel
theorem dX9_init_133 : decode cX9_init 133 = .ok (.bipush 6, 2) := by decide +kernel
theorem dX9_init_135 : decode cX9_init 135 = .ok (.anewarray 77, 3) := by decide +kernel
theorem dX9_init_138 : decode cX9_init 138 = .ok (.putfield 79, 3) := by decide +kernel
theorem dX9_init_141 : decode cX9_init 141 = .ok (.iconst 0, 1) := by decide +kernel
theorem dX9_init_142 : decode cX9_init 142 = .ok (.istore_n 1, 1) := by decide +kernel
theorem dX9_init_143 : decode cX9_init 143 = .ok (.iload_n 1, 1) := by decide +kernel
theorem dX9_init_144 : decode cX9_init 144 = .ok (.bipush 6, 2) := by decide +kernel
theorem dX9_init_146 : decode cX9_init 146 = .ok (.if_icmp .ge 22, 3) := by decide +kernel
theorem dX9_init_149 : decode cX9_init 149 = .ok (.aload_n 0, 1) := by decide +kernel
theorem dX9_init_150 : decode cX9_init 150 = .ok (.getfield 79, 3) := by decide +kernel
theorem dX9_init_153 : decode cX9_init 153 = .ok (.iload_n 1, 1) := by decide +kernel
theorem dX9_init_154 : decode cX9_init 154 = .ok (.new 77, 3) := by decide +kernel
theorem dX9_init_157 : decode cX9_init 157 = .ok (.dup, 1) := by decide +kernel
theorem dX9_init_158 : decode cX9_init 158 = .ok (.invokespecial 83, 3) := by decide +kernel
theorem dX9_init_161 : decode cX9_init 161 = .ok (.aastore, 1) := by decide +kernel
theorem dX9_init_162 : decode cX9_init 162 = .ok (.iinc 1 1, 3) := by decide +kernel
theorem dX9_init_165 : decode cX9_init 165 = .ok (.goto (-22), 3) := by decide +kernel
theorem dX9_init_168 : decode cX9_init 168 = .ok (.return_, 1) := by decide +kernel
theorem dX9_town_0 : decode cX9_town 0 = .ok (.iload_n 1, 1) := by decide +kernel
theorem dX9_town_1 : decode cX9_town 1 = .ok (.iconst 1, 1) := by decide +kernel
theorem dX9_town_2 : decode cX9_town 2 = .ok (.bipush 8, 2) := by decide +kernel
theorem dX9_town_4 : decode cX9_town 4 = .ok (.invokestatic 84, 3) := by decide +kernel
theorem dX9_town_7 : decode cX9_town 7 = .ok (.ifCond .ne 6, 3) := by decide +kernel
theorem dX9_town_10 : decode cX9_town 10 = .ok (.bipush (-2), 2) := by decide +kernel
theorem dX9_town_12 : decode cX9_town 12 = .ok (.ireturn, 1) := by decide +kernel
theorem dX9_town_13 : decode cX9_town 13 = .ok (.aload_n 0, 1) := by decide +kernel
theorem dX9_town_14 : decode cX9_town 14 = .ok (.getfield 17, 3) := by decide +kernel
theorem dX9_town_17 : decode cX9_town 17 = .ok (.getfield 88, 3) := by decide +kernel
theorem dX9_town_20 : decode cX9_town 20 = .ok (.iconst 4, 1) := by decide +kernel
theorem dX9_town_21 : decode cX9_town 21 = .ok (.if_icmp .lt 6, 3) := by decide +kernel
theorem dX9_town_24 : decode cX9_town 24 = .ok (.bipush (-4), 2) := by decide +kernel
theorem dX9_town_26 : decode cX9_town 26 = .ok (.ireturn, 1) := by decide +kernel
theorem dX9_town_27 : decode cX9_town 27 = .ok (.aload_n 0, 1) := by decide +kernel
theorem dX9_town_28 : decode cX9_town 28 = .ok (.getfield 17, 3) := by decide +kernel
theorem dX9_town_31 : decode cX9_town 31 = .ok (.getfield 92, 3) := by decide +kernel
theorem dX9_town_34 : decode cX9_town 34 = .ok (.aload_n 0, 1) := by decide +kernel
theorem dX9_town_35 : decode cX9_town 35 = .ok (.getfield 17, 3) := by decide +kernel
theorem dX9_town_38 : decode cX9_town 38 = .ok (.getfield 88, 3) := by decide +kernel
theorem dX9_town_41 : decode cX9_town 41 = .ok (.iload_n 1, 1) := by decide +kernel
theorem dX9_town_42 : decode cX9_town 42 = .ok (.iastore, 1) := by decide +kernel
theorem dX9_town_43 : decode cX9_town 43 = .ok (.aload_n 0, 1) := by decide +kernel
theorem dX9_town_44 : decode cX9_town 44 = .ok (.getfield 17, 3) := by decide +kernel
theorem dX9_town_47 : decode cX9_town 47 = .ok (.dup, 1) := by decide +kernel
theorem dX9_town_48 : decode cX9_town 48 = .ok (.getfield 88, 3) := by decide +kernel
theorem dX9_town_51 : decode cX9_town 51 = .ok (.dup_x1, 1) := by decide +kernel
theorem dX9_town_52 : decode cX9_town 52 = .ok (.iconst 1, 1) := by decide +kernel
theorem dX9_town_53 : decode cX9_town 53 = .ok (.iadd, 1) := by decide +kernel
theorem dX9_town_54 : decode cX9_town 54 = .ok (.putfield 88, 3) := by decide +kernel
theorem dX9_town_57 : decode cX9_town 57 = .ok (.ireturn, 1) := by decide +kernel
theorem dX9_family_0 : decode cX9_family 0 = .ok (.aload_n 0, 1) := by decide +kernel
theorem dX9_family_1 : decode cX9_family 1 = .ok (.iload_n 3, 1) := by decide +kernel
theorem dX9_family_2 : decode cX9_family 2 = .ok (.invokevirtual 96, 3) := by decide +kernel
theorem dX9_family_5 : decode cX9_family 5 = .ok (.ifCond .ne 5, 3) := by decide +kernel
theorem dX9_family_8 : decode cX9_family 8 = .ok (.iconst (-1), 1) := by decide +kernel
theorem dX9_family_9 : decode cX9_family 9 = .ok (.ireturn, 1) := by decide +kernel
theorem dX9_family_10 : decode cX9_family 10 = .ok (.iload_n 1, 1) := by decide +kernel
theorem dX9_family_11 : decode cX9_family 11 = .ok (.iconst 0, 1) := by decide +kernel
theorem dX9_family_12 : decode cX9_family 12 = .ok (.iconst 3, 1) := by decide +kernel
theorem dX9_family_13 : decode cX9_family 13 = .ok (.invokestatic 84, 3) := by decide +kernel
theorem dX9_family_16 : decode cX9_family 16 = .ok (.ifCond .eq 13, 3) := by decide +kernel
theorem dX9_family_19 : decode cX9_family 19 = .ok (.iload_n 2, 1) := by decide +kernel
theorem dX9_family_20 : decode cX9_family 20 = .ok (.iconst 1, 1) := by decide +kernel
theorem dX9_family_21 : decode cX9_family 21 = .ok (.bipush 99, 2) := by decide +kernel
theorem dX9_family_23 : decode cX9_family 23 = .ok (.invokestatic 84, 3) := by decide +kernel
theorem dX9_family_26 : decode cX9_family 26 = .ok (.ifCond .ne 6, 3) := by decide +kernel
theorem dX9_family_29 : decode cX9_family 29 = .ok (.bipush (-2), 2) := by decide +kernel
theorem dX9_family_31 : decode cX9_family 31 = .ok (.ireturn, 1) := by decide +kernel
theorem dX9_family_32 : decode cX9_family 32 = .ok (.aload_n 0, 1) := by decide +kernel
theorem dX9_family_33 : decode cX9_family 33 = .ok (.getfield 17, 3) := by decide +kernel
theorem dX9_family_36 : decode cX9_family 36 = .ok (.iload_n 3, 1) := by decide +kernel
theorem dX9_family_37 : decode cX9_family 37 = .ok (.invokevirtual 100, 3) := by decide +kernel
theorem dX9_family_40 : decode cX9_family 40 = .ok (.ifCond .eq 16, 3) := by decide +kernel
theorem dX9_family_43 : decode cX9_family 43 = .ok (.aload_n 0, 1) := by decide +kernel
theorem dX9_family_44 : decode cX9_family 44 = .ok (.getfield 17, 3) := by decide +kernel
theorem dX9_family_47 : decode cX9_family 47 = .ok (.iload_n 1, 1) := by decide +kernel
theorem dX9_family_48 : decode cX9_family 48 = .ok (.iload_n 2, 1) := by decide +kernel
theorem dX9_family_49 : decode cX9_family 49 = .ok (.iload_n 3, 1) := by decide +kernel
theorem dX9_family_50 : decode cX9_family 50 = .ok (.invokevirtual 103, 3) := by decide +kernel
theorem dX9_family_53 : decode cX9_family 53 = .ok (.goto 5, 3) := by decide +kernel
theorem dX9_family_56 : decode cX9_family 56 = .ok (.bipush (-3), 2) := by decide +kernel
theorem dX9_family_58 : decode cX9_family 58 = .ok (.ireturn, 1) := by decide +kernel
theorem dX9_put_0 : decode cX9_put 0 = .ok (.aload_n 0, 1) := by decide +kernel
theorem dX9_put_1 : decode cX9_put 1 = .ok (.iload_n 1, 1) := by decide +kernel
theorem dX9_put_2 : decode cX9_put 2 = .ok (.invokevirtual 96, 3) := by decide +kernel
theorem dX9_put_5 : decode cX9_put 5 = .ok (.ifCond .eq 12, 3) := by decide +kernel
theorem dX9_put_8 : decode cX9_put 8 = .ok (.iload_n 2, 1) := by decide +kernel
theorem dX9_put_9 : decode cX9_put 9 = .ok (.iconst 0, 1) := by decide +kernel
theorem dX9_put_10 : decode cX9_put 10 = .ok (.iconst 5, 1) := by decide +kernel
theorem dX9_put_11 : decode cX9_put 11 = .ok (.invokestatic 84, 3) := by decide +kernel
theorem dX9_put_14 : decode cX9_put 14 = .ok (.ifCond .ne 5, 3) := by decide +kernel
theorem dX9_put_17 : decode cX9_put 17 = .ok (.iconst (-1), 1) := by decide +kernel
theorem dX9_put_18 : decode cX9_put 18 = .ok (.ireturn, 1) := by decide +kernel
theorem dX9_put_19 : decode cX9_put 19 = .ok (.iload_n 2, 1) := by decide +kernel
theorem dX9_put_20 : decode cX9_put 20 = .ok (.iconst 3, 1) := by decide +kernel
theorem dX9_put_21 : decode cX9_put 21 = .ok (.if_icmp .ge 34, 3) := by decide +kernel
theorem dX9_put_24 : decode cX9_put 24 = .ok (.iload_n 3, 1) := by decide +kernel
theorem dX9_put_25 : decode cX9_put 25 = .ok (.iconst 0, 1) := by decide +kernel
theorem dX9_put_26 : decode cX9_put 26 = .ok (.iconst 5, 1) := by decide +kernel
theorem dX9_put_27 : decode cX9_put 27 = .ok (.invokestatic 84, 3) := by decide +kernel
theorem dX9_put_30 : decode cX9_put 30 = .ok (.ifCond .eq 22, 3) := by decide +kernel
theorem dX9_put_33 : decode cX9_put 33 = .ok (.aload_n 0, 1) := by decide +kernel
theorem dX9_put_34 : decode cX9_put 34 = .ok (.getfield 17, 3) := by decide +kernel
theorem dX9_put_37 : decode cX9_put 37 = .ok (.getfield 107, 3) := by decide +kernel
theorem dX9_put_40 : decode cX9_put 40 = .ok (.iload_n 1, 1) := by decide +kernel
theorem dX9_put_41 : decode cX9_put 41 = .ok (.iconst 3, 1) := by decide +kernel
theorem dX9_put_42 : decode cX9_put 42 = .ok (.imul, 1) := by decide +kernel
theorem dX9_put_43 : decode cX9_put 43 = .ok (.iload_n 2, 1) := by decide +kernel
theorem dX9_put_44 : decode cX9_put 44 = .ok (.iadd, 1) := by decide +kernel
theorem dX9_put_45 : decode cX9_put 45 = .ok (.iload_n 3, 1) := by decide +kernel
theorem dX9_put_46 : decode cX9_put 46 = .ok (.invokestatic 110, 3) := by decide +kernel
theorem dX9_put_49 : decode cX9_put 49 = .ok (.goto 5, 3) := by decide +kernel
theorem dX9_put_52 : decode cX9_put 52 = .ok (.bipush (-2), 2) := by decide +kernel
theorem dX9_put_54 : decode cX9_put 54 = .ok (.ireturn, 1) := by decide +kernel
theorem dX9_put_55 : decode cX9_put 55 = .ok (.iload_n 2, 1) := by decide +kernel
theorem dX9_put_56 : decode cX9_put 56 = .ok (.iconst 4, 1) := by decide +kernel
theorem dX9_put_57 : decode cX9_put 57 = .ok (.if_icmp .ne 31, 3) := by decide +kernel
theorem dX9_put_60 : decode cX9_put 60 = .ok (.iload_n 3, 1) := by decide +kernel
theorem dX9_put_61 : decode cX9_put 61 = .ok (.iconst 0, 1) := by decide +kernel
theorem dX9_put_62 : decode cX9_put 62 = .ok (.bipush 99, 2) := by decide +kernel
theorem dX9_put_64 : decode cX9_put 64 = .ok (.invokestatic 84, 3) := by decide +kernel
theorem dX9_put_67 : decode cX9_put 67 = .ok (.ifCond .eq 18, 3) := by decide +kernel
theorem dX9_put_70 : decode cX9_put 70 = .ok (.aload_n 0, 1) := by decide +kernel
theorem dX9_put_71 : decode cX9_put 71 = .ok (.getfield 17, 3) := by decide +kernel
theorem dX9_put_74 : decode cX9_put 74 = .ok (.getfield 114, 3) := by decide +kernel
theorem dX9_put_77 : decode cX9_put 77 = .ok (.iload_n 1, 1) := by decide +kernel
theorem dX9_put_78 : decode cX9_put 78 = .ok (.iload_n 3, 1) := by decide +kernel
theorem dX9_put_79 : decode cX9_put 79 = .ok (.invokestatic 110, 3) := by decide +kernel
theorem dX9_put_82 : decode cX9_put 82 = .ok (.goto 5, 3) := by decide +kernel
theorem dX9_put_85 : decode cX9_put 85 = .ok (.bipush (-2), 2) := by decide +kernel
theorem dX9_put_87 : decode cX9_put 87 = .ok (.ireturn, 1) := by decide +kernel
theorem dX9_put_88 : decode cX9_put 88 = .ok (.iload_n 3, 1) := by decide +kernel
theorem dX9_put_89 : decode cX9_put 89 = .ok (.iconst 0, 1) := by decide +kernel
theorem dX9_put_90 : decode cX9_put 90 = .ok (.sipush 999, 3) := by decide +kernel
theorem dX9_put_93 : decode cX9_put 93 = .ok (.invokestatic 84, 3) := by decide +kernel
theorem dX9_put_96 : decode cX9_put 96 = .ok (.ifCond .ne 6, 3) := by decide +kernel
theorem dX9_put_99 : decode cX9_put 99 = .ok (.bipush (-2), 2) := by decide +kernel
theorem dX9_put_101 : decode cX9_put 101 = .ok (.ireturn, 1) := by decide +kernel
theorem dX9_put_102 : decode cX9_put 102 = .ok (.iload_n 2, 1) := by decide +kernel
theorem dX9_put_103 : decode cX9_put 103 = .ok (.iconst 3, 1) := by decide +kernel
theorem dX9_put_104 : decode cX9_put 104 = .ok (.if_icmp .ne 13, 3) := by decide +kernel
theorem dX9_put_107 : decode cX9_put 107 = .ok (.aload_n 0, 1) := by decide +kernel
theorem dX9_put_108 : decode cX9_put 108 = .ok (.getfield 17, 3) := by decide +kernel
theorem dX9_put_111 : decode cX9_put 111 = .ok (.getfield 117, 3) := by decide +kernel
theorem dX9_put_114 : decode cX9_put 114 = .ok (.goto 10, 3) := by decide +kernel
theorem dX9_put_117 : decode cX9_put 117 = .ok (.aload_n 0, 1) := by decide +kernel
theorem dX9_put_118 : decode cX9_put 118 = .ok (.getfield 17, 3) := by decide +kernel
theorem dX9_put_121 : decode cX9_put 121 = .ok (.getfield 120, 3) := by decide +kernel
theorem dX9_put_124 : decode cX9_put 124 = .ok (.iload_n 1, 1) := by decide +kernel
theorem dX9_put_125 : decode cX9_put 125 = .ok (.iload_n 3, 1) := by decide +kernel
theorem dX9_put_126 : decode cX9_put 126 = .ok (.invokestatic 110, 3) := by decide +kernel
theorem dX9_put_129 : decode cX9_put 129 = .ok (.ireturn, 1) := by decide +kernel
theorem dX9_of_0 : decode cX9_of 0 = .ok (.aload_n 0, 1) := by decide +kernel
theorem dX9_of_1 : decode cX9_of 1 = .ok (.iload_n 1, 1) := by decide +kernel
theorem dX9_of_2 : decode cX9_of 2 = .ok (.invokevirtual 123, 3) := by decide +kernel
theorem dX9_of_5 : decode cX9_of 5 = .ok (.ifCond .ne 7, 3) := by decide +kernel
theorem dX9_of_8 : decode cX9_of 8 = .ok (.ldc2_w 126, 3) := by decide +kernel
theorem dX9_of_11 : decode cX9_of 11 = .ok (.lreturn, 1) := by decide +kernel
theorem dX9_of_12 : decode cX9_of 12 = .ok (.aload_n 0, 1) := by decide +kernel
theorem dX9_of_13 : decode cX9_of 13 = .ok (.getfield 17, 3) := by decide +kernel
theorem dX9_of_16 : decode cX9_of 16 = .ok (.getfield 128, 3) := by decide +kernel
theorem dX9_of_19 : decode cX9_of 19 = .ok (.iload_n 1, 1) := by decide +kernel
theorem dX9_of_20 : decode cX9_of 20 = .ok (.iaload, 1) := by decide +kernel
theorem dX9_of_21 : decode cX9_of 21 = .ok (.istore_n 3, 1) := by decide +kernel
theorem dX9_of_22 : decode cX9_of 22 = .ok (.iload_n 2, 1) := by decide +kernel
theorem dX9_of_23 : decode cX9_of 23 = .ok (.tableswitch 95 0 5 #[37, 48, 59, 62, 73, 84], 37) := by decide +kernel
theorem dX9_of_60 : decode cX9_of 60 = .ok (.aload_n 0, 1) := by decide +kernel
theorem dX9_of_61 : decode cX9_of 61 = .ok (.getfield 17, 3) := by decide +kernel
theorem dX9_of_64 : decode cX9_of 64 = .ok (.getfield 131, 3) := by decide +kernel
theorem dX9_of_67 : decode cX9_of 67 = .ok (.iload_n 1, 1) := by decide +kernel
theorem dX9_of_68 : decode cX9_of 68 = .ok (.iaload, 1) := by decide +kernel
theorem dX9_of_69 : decode cX9_of 69 = .ok (.i2l, 1) := by decide +kernel
theorem dX9_of_70 : decode cX9_of 70 = .ok (.lreturn, 1) := by decide +kernel
theorem dX9_of_71 : decode cX9_of 71 = .ok (.aload_n 0, 1) := by decide +kernel
theorem dX9_of_72 : decode cX9_of 72 = .ok (.getfield 17, 3) := by decide +kernel
theorem dX9_of_75 : decode cX9_of 75 = .ok (.getfield 134, 3) := by decide +kernel
theorem dX9_of_78 : decode cX9_of 78 = .ok (.iload_n 1, 1) := by decide +kernel
theorem dX9_of_79 : decode cX9_of 79 = .ok (.iaload, 1) := by decide +kernel
theorem dX9_of_80 : decode cX9_of 80 = .ok (.i2l, 1) := by decide +kernel
theorem dX9_of_81 : decode cX9_of 81 = .ok (.lreturn, 1) := by decide +kernel
theorem dX9_of_82 : decode cX9_of 82 = .ok (.iload_n 3, 1) := by decide +kernel
theorem dX9_of_83 : decode cX9_of 83 = .ok (.i2l, 1) := by decide +kernel
theorem dX9_of_84 : decode cX9_of 84 = .ok (.lreturn, 1) := by decide +kernel
theorem dX9_of_85 : decode cX9_of 85 = .ok (.aload_n 0, 1) := by decide +kernel
theorem dX9_of_86 : decode cX9_of 86 = .ok (.getfield 17, 3) := by decide +kernel
theorem dX9_of_89 : decode cX9_of 89 = .ok (.getfield 137, 3) := by decide +kernel
theorem dX9_of_92 : decode cX9_of 92 = .ok (.iload_n 1, 1) := by decide +kernel
theorem dX9_of_93 : decode cX9_of 93 = .ok (.iaload, 1) := by decide +kernel
theorem dX9_of_94 : decode cX9_of 94 = .ok (.i2l, 1) := by decide +kernel
theorem dX9_of_95 : decode cX9_of 95 = .ok (.lreturn, 1) := by decide +kernel
theorem dX9_of_96 : decode cX9_of 96 = .ok (.aload_n 0, 1) := by decide +kernel
theorem dX9_of_97 : decode cX9_of 97 = .ok (.getfield 17, 3) := by decide +kernel
theorem dX9_of_100 : decode cX9_of 100 = .ok (.iload_n 1, 1) := by decide +kernel
theorem dX9_of_101 : decode cX9_of 101 = .ok (.iload_n 3, 1) := by decide +kernel
theorem dX9_of_102 : decode cX9_of 102 = .ok (.invokevirtual 140, 3) := by decide +kernel
theorem dX9_of_105 : decode cX9_of 105 = .ok (.i2l, 1) := by decide +kernel
theorem dX9_of_106 : decode cX9_of 106 = .ok (.lreturn, 1) := by decide +kernel
theorem dX9_of_107 : decode cX9_of 107 = .ok (.aload_n 0, 1) := by decide +kernel
theorem dX9_of_108 : decode cX9_of 108 = .ok (.getfield 17, 3) := by decide +kernel
theorem dX9_of_111 : decode cX9_of 111 = .ok (.iload_n 1, 1) := by decide +kernel
theorem dX9_of_112 : decode cX9_of 112 = .ok (.iload_n 3, 1) := by decide +kernel
theorem dX9_of_113 : decode cX9_of 113 = .ok (.invokevirtual 144, 3) := by decide +kernel
theorem dX9_of_116 : decode cX9_of 116 = .ok (.i2l, 1) := by decide +kernel
theorem dX9_of_117 : decode cX9_of 117 = .ok (.lreturn, 1) := by decide +kernel
theorem dX9_of_118 : decode cX9_of 118 = .ok (.ldc2_w 126, 3) := by decide +kernel
theorem dX9_of_121 : decode cX9_of 121 = .ok (.lreturn, 1) := by decide +kernel
theorem dX9_has_0 : decode cX9_has 0 = .ok (.aload_n 0, 1) := by decide +kernel
theorem dX9_has_1 : decode cX9_has 1 = .ok (.iload_n 1, 1) := by decide +kernel
theorem dX9_has_2 : decode cX9_has 2 = .ok (.invokevirtual 96, 3) := by decide +kernel
theorem dX9_has_5 : decode cX9_has 5 = .ok (.ifCond .ne 5, 3) := by decide +kernel
theorem dX9_has_8 : decode cX9_has 8 = .ok (.iconst (-1), 1) := by decide +kernel
theorem dX9_has_9 : decode cX9_has 9 = .ok (.ireturn, 1) := by decide +kernel
theorem dX9_has_10 : decode cX9_has 10 = .ok (.iload_n 2, 1) := by decide +kernel
theorem dX9_has_11 : decode cX9_has 11 = .ok (.tableswitch 123 0 8 #[49, 59, 68, 77, 77, 77, 93, 103, 113], 49) := by decide +kernel
theorem dX9_has_60 : decode cX9_has 60 = .ok (.aload_n 0, 1) := by decide +kernel
theorem dX9_has_61 : decode cX9_has 61 = .ok (.getfield 17, 3) := by decide +kernel
theorem dX9_has_64 : decode cX9_has 64 = .ok (.getfield 92, 3) := by decide +kernel
theorem dX9_has_67 : decode cX9_has 67 = .ok (.iload_n 1, 1) := by decide +kernel
theorem dX9_has_68 : decode cX9_has 68 = .ok (.iaload, 1) := by decide +kernel
theorem dX9_has_69 : decode cX9_has 69 = .ok (.ireturn, 1) := by decide +kernel
theorem dX9_has_70 : decode cX9_has 70 = .ok (.aload_n 0, 1) := by decide +kernel
theorem dX9_has_71 : decode cX9_has 71 = .ok (.getfield 17, 3) := by decide +kernel
theorem dX9_has_74 : decode cX9_has 74 = .ok (.iload_n 1, 1) := by decide +kernel
theorem dX9_has_75 : decode cX9_has 75 = .ok (.invokevirtual 147, 3) := by decide +kernel
theorem dX9_has_78 : decode cX9_has 78 = .ok (.ireturn, 1) := by decide +kernel
theorem dX9_has_79 : decode cX9_has 79 = .ok (.aload_n 0, 1) := by decide +kernel
theorem dX9_has_80 : decode cX9_has 80 = .ok (.getfield 17, 3) := by decide +kernel
theorem dX9_has_83 : decode cX9_has 83 = .ok (.iload_n 1, 1) := by decide +kernel
theorem dX9_has_84 : decode cX9_has 84 = .ok (.invokevirtual 151, 3) := by decide +kernel
theorem dX9_has_87 : decode cX9_has 87 = .ok (.ireturn, 1) := by decide +kernel
theorem dX9_has_88 : decode cX9_has 88 = .ok (.aload_n 0, 1) := by decide +kernel
theorem dX9_has_89 : decode cX9_has 89 = .ok (.getfield 17, 3) := by decide +kernel
theorem dX9_has_92 : decode cX9_has 92 = .ok (.getfield 107, 3) := by decide +kernel
theorem dX9_has_95 : decode cX9_has 95 = .ok (.iload_n 1, 1) := by decide +kernel
theorem dX9_has_96 : decode cX9_has 96 = .ok (.iconst 3, 1) := by decide +kernel
theorem dX9_has_97 : decode cX9_has 97 = .ok (.imul, 1) := by decide +kernel
theorem dX9_has_98 : decode cX9_has 98 = .ok (.iload_n 2, 1) := by decide +kernel
theorem dX9_has_99 : decode cX9_has 99 = .ok (.iadd, 1) := by decide +kernel
theorem dX9_has_100 : decode cX9_has 100 = .ok (.iconst 3, 1) := by decide +kernel
theorem dX9_has_101 : decode cX9_has 101 = .ok (.isub, 1) := by decide +kernel
theorem dX9_has_102 : decode cX9_has 102 = .ok (.iaload, 1) := by decide +kernel
theorem dX9_has_103 : decode cX9_has 103 = .ok (.ireturn, 1) := by decide +kernel
theorem dX9_has_104 : decode cX9_has 104 = .ok (.aload_n 0, 1) := by decide +kernel
theorem dX9_has_105 : decode cX9_has 105 = .ok (.getfield 17, 3) := by decide +kernel
theorem dX9_has_108 : decode cX9_has 108 = .ok (.getfield 117, 3) := by decide +kernel
theorem dX9_has_111 : decode cX9_has 111 = .ok (.iload_n 1, 1) := by decide +kernel
theorem dX9_has_112 : decode cX9_has 112 = .ok (.iaload, 1) := by decide +kernel
theorem dX9_has_113 : decode cX9_has 113 = .ok (.ireturn, 1) := by decide +kernel
theorem dX9_has_114 : decode cX9_has 114 = .ok (.aload_n 0, 1) := by decide +kernel
theorem dX9_has_115 : decode cX9_has 115 = .ok (.getfield 17, 3) := by decide +kernel
theorem dX9_has_118 : decode cX9_has 118 = .ok (.getfield 114, 3) := by decide +kernel
theorem dX9_has_121 : decode cX9_has 121 = .ok (.iload_n 1, 1) := by decide +kernel
theorem dX9_has_122 : decode cX9_has 122 = .ok (.iaload, 1) := by decide +kernel
theorem dX9_has_123 : decode cX9_has 123 = .ok (.ireturn, 1) := by decide +kernel
theorem dX9_has_124 : decode cX9_has 124 = .ok (.aload_n 0, 1) := by decide +kernel
theorem dX9_has_125 : decode cX9_has 125 = .ok (.getfield 17, 3) := by decide +kernel
theorem dX9_has_128 : decode cX9_has 128 = .ok (.getfield 120, 3) := by decide +kernel
theorem dX9_has_131 : decode cX9_has 131 = .ok (.iload_n 1, 1) := by decide +kernel
theorem dX9_has_132 : decode cX9_has 132 = .ok (.iaload, 1) := by decide +kernel
theorem dX9_has_133 : decode cX9_has 133 = .ok (.ireturn, 1) := by decide +kernel
theorem dX9_has_134 : decode cX9_has 134 = .ok (.iconst (-1), 1) := by decide +kernel
theorem dX9_has_135 : decode cX9_has 135 = .ok (.ireturn, 1) := by decide +kernel
theorem dX9_feed_0 : decode cX9_feed 0 = .ok (.iload_n 2, 1) := by decide +kernel
theorem dX9_feed_1 : decode cX9_feed 1 = .ok (.iconst 0, 1) := by decide +kernel
theorem dX9_feed_2 : decode cX9_feed 2 = .ok (.iconst 4, 1) := by decide +kernel
theorem dX9_feed_3 : decode cX9_feed 3 = .ok (.invokestatic 84, 3) := by decide +kernel
theorem dX9_feed_6 : decode cX9_feed 6 = .ok (.ifCond .ne 6, 3) := by decide +kernel
theorem dX9_feed_9 : decode cX9_feed 9 = .ok (.bipush (-2), 2) := by decide +kernel
theorem dX9_feed_11 : decode cX9_feed 11 = .ok (.ireturn, 1) := by decide +kernel
theorem dX9_feed_12 : decode cX9_feed 12 = .ok (.aload_n 0, 1) := by decide +kernel
theorem dX9_feed_13 : decode cX9_feed 13 = .ok (.getfield 39, 3) := by decide +kernel
theorem dX9_feed_16 : decode cX9_feed 16 = .ok (.getfield 154, 3) := by decide +kernel
theorem dX9_feed_19 : decode cX9_feed 19 = .ok (.iload_n 2, 1) := by decide +kernel
theorem dX9_feed_20 : decode cX9_feed 20 = .ok (.iadd, 1) := by decide +kernel
theorem dX9_feed_21 : decode cX9_feed 21 = .ok (.bipush 120, 2) := by decide +kernel
theorem dX9_feed_23 : decode cX9_feed 23 = .ok (.if_icmp .le 6, 3) := by decide +kernel
theorem dX9_feed_26 : decode cX9_feed 26 = .ok (.bipush (-4), 2) := by decide +kernel
theorem dX9_feed_28 : decode cX9_feed 28 = .ok (.ireturn, 1) := by decide +kernel
theorem dX9_feed_29 : decode cX9_feed 29 = .ok (.iload_n 2, 1) := by decide +kernel
theorem dX9_feed_30 : decode cX9_feed 30 = .ok (.iconst 1, 1) := by decide +kernel
theorem dX9_feed_31 : decode cX9_feed 31 = .ok (.isub, 1) := by decide +kernel
theorem dX9_feed_32 : decode cX9_feed 32 = .ok (.istore_n 3, 1) := by decide +kernel
theorem dX9_feed_33 : decode cX9_feed 33 = .ok (.iload_n 3, 1) := by decide +kernel
theorem dX9_feed_34 : decode cX9_feed 34 = .ok (.ifCond .lt 27, 3) := by decide +kernel
theorem dX9_feed_37 : decode cX9_feed 37 = .ok (.aload_n 0, 1) := by decide +kernel
theorem dX9_feed_38 : decode cX9_feed 38 = .ok (.getfield 39, 3) := by decide +kernel
theorem dX9_feed_41 : decode cX9_feed 41 = .ok (.iload_n 1, 1) := by decide +kernel
theorem dX9_feed_42 : decode cX9_feed 42 = .ok (.bipush 8, 2) := by decide +kernel
theorem dX9_feed_44 : decode cX9_feed 44 = .ok (.iload_n 3, 1) := by decide +kernel
theorem dX9_feed_45 : decode cX9_feed 45 = .ok (.imul, 1) := by decide +kernel
theorem dX9_feed_46 : decode cX9_feed 46 = .ok (.ishr, 1) := by decide +kernel
theorem dX9_feed_47 : decode cX9_feed 47 = .ok (.sipush 255, 3) := by decide +kernel
theorem dX9_feed_50 : decode cX9_feed 50 = .ok (.iand, 1) := by decide +kernel
theorem dX9_feed_51 : decode cX9_feed 51 = .ok (.i2c, 1) := by decide +kernel
theorem dX9_feed_52 : decode cX9_feed 52 = .ok (.invokevirtual 157, 3) := by decide +kernel
theorem dX9_feed_55 : decode cX9_feed 55 = .ok (.iinc 3 (-1), 3) := by decide +kernel
theorem dX9_feed_58 : decode cX9_feed 58 = .ok (.goto (-25), 3) := by decide +kernel
theorem dX9_feed_61 : decode cX9_feed 61 = .ok (.aload_n 0, 1) := by decide +kernel
theorem dX9_feed_62 : decode cX9_feed 62 = .ok (.getfield 39, 3) := by decide +kernel
theorem dX9_feed_65 : decode cX9_feed 65 = .ok (.getfield 154, 3) := by decide +kernel
theorem dX9_feed_68 : decode cX9_feed 68 = .ok (.ireturn, 1) := by decide +kernel
theorem dX9_land_0 : decode cX9_land 0 = .ok (.aload_n 0, 1) := by decide +kernel
theorem dX9_land_1 : decode cX9_land 1 = .ok (.getfield 39, 3) := by decide +kernel
theorem dX9_land_4 : decode cX9_land 4 = .ok (.aload_n 0, 1) := by decide +kernel
theorem dX9_land_5 : decode cX9_land 5 = .ok (.getfield 33, 3) := by decide +kernel
theorem dX9_land_8 : decode cX9_land 8 = .ok (.invokevirtual 161, 3) := by decide +kernel
theorem dX9_land_11 : decode cX9_land 11 = .ok (.istore_n 1, 1) := by decide +kernel
theorem dX9_land_12 : decode cX9_land 12 = .ok (.aload_n 0, 1) := by decide +kernel
theorem dX9_land_13 : decode cX9_land 13 = .ok (.getfield 39, 3) := by decide +kernel
theorem dX9_land_16 : decode cX9_land 16 = .ok (.iconst 0, 1) := by decide +kernel
theorem dX9_land_17 : decode cX9_land 17 = .ok (.putfield 154, 3) := by decide +kernel
theorem dX9_land_20 : decode cX9_land 20 = .ok (.iload_n 1, 1) := by decide +kernel
theorem dX9_land_21 : decode cX9_land 21 = .ok (.iconst (-1), 1) := by decide +kernel
theorem dX9_land_22 : decode cX9_land 22 = .ok (.if_icmp .eq 8, 3) := by decide +kernel
theorem dX9_land_25 : decode cX9_land 25 = .ok (.bipush (-10), 2) := by decide +kernel
theorem dX9_land_27 : decode cX9_land 27 = .ok (.iload_n 1, 1) := by decide +kernel
theorem dX9_land_28 : decode cX9_land 28 = .ok (.isub, 1) := by decide +kernel
theorem dX9_land_29 : decode cX9_land 29 = .ok (.ireturn, 1) := by decide +kernel
theorem dX9_land_30 : decode cX9_land 30 = .ok (.aload_n 0, 1) := by decide +kernel
theorem dX9_land_31 : decode cX9_land 31 = .ok (.getfield 17, 3) := by decide +kernel
theorem dX9_land_34 : decode cX9_land 34 = .ok (.getfield 23, 3) := by decide +kernel
theorem dX9_land_37 : decode cX9_land 37 = .ok (.astore_n 2, 1) := by decide +kernel
theorem dX9_land_38 : decode cX9_land 38 = .ok (.aload_n 0, 1) := by decide +kernel
theorem dX9_land_39 : decode cX9_land 39 = .ok (.getfield 17, 3) := by decide +kernel
theorem dX9_land_42 : decode cX9_land 42 = .ok (.aload_n 0, 1) := by decide +kernel
theorem dX9_land_43 : decode cX9_land 43 = .ok (.getfield 33, 3) := by decide +kernel
theorem dX9_land_46 : decode cX9_land 46 = .ok (.putfield 23, 3) := by decide +kernel
theorem dX9_land_49 : decode cX9_land 49 = .ok (.aload_n 0, 1) := by decide +kernel
theorem dX9_land_50 : decode cX9_land 50 = .ok (.aload_n 2, 1) := by decide +kernel
theorem dX9_land_51 : decode cX9_land 51 = .ok (.putfield 33, 3) := by decide +kernel
theorem dX9_land_54 : decode cX9_land 54 = .ok (.aload_n 0, 1) := by decide +kernel
theorem dX9_land_55 : decode cX9_land 55 = .ok (.dup, 1) := by decide +kernel
theorem dX9_land_56 : decode cX9_land 56 = .ok (.getfield 165, 3) := by decide +kernel
theorem dX9_land_59 : decode cX9_land 59 = .ok (.iconst 1, 1) := by decide +kernel
theorem dX9_land_60 : decode cX9_land 60 = .ok (.iadd, 1) := by decide +kernel
theorem dX9_land_61 : decode cX9_land 61 = .ok (.dup_x1, 1) := by decide +kernel
theorem dX9_land_62 : decode cX9_land 62 = .ok (.putfield 165, 3) := by decide +kernel
theorem dX9_land_65 : decode cX9_land 65 = .ok (.ireturn, 1) := by decide +kernel
theorem dX9_worth_0 : decode cX9_worth 0 = .ok (.aload_n 0, 1) := by decide +kernel
theorem dX9_worth_1 : decode cX9_worth 1 = .ok (.iload_n 1, 1) := by decide +kernel
theorem dX9_worth_2 : decode cX9_worth 2 = .ok (.invokevirtual 123, 3) := by decide +kernel
theorem dX9_worth_5 : decode cX9_worth 5 = .ok (.ifCond .eq 24, 3) := by decide +kernel
theorem dX9_worth_8 : decode cX9_worth 8 = .ok (.aload_n 0, 1) := by decide +kernel
theorem dX9_worth_9 : decode cX9_worth 9 = .ok (.iload_n 2, 1) := by decide +kernel
theorem dX9_worth_10 : decode cX9_worth 10 = .ok (.invokevirtual 96, 3) := by decide +kernel
theorem dX9_worth_13 : decode cX9_worth 13 = .ok (.ifCond .eq 16, 3) := by decide +kernel
theorem dX9_worth_16 : decode cX9_worth 16 = .ok (.aload_n 0, 1) := by decide +kernel
theorem dX9_worth_17 : decode cX9_worth 17 = .ok (.getfield 17, 3) := by decide +kernel
theorem dX9_worth_20 : decode cX9_worth 20 = .ok (.iload_n 1, 1) := by decide +kernel
theorem dX9_worth_21 : decode cX9_worth 21 = .ok (.iload_n 2, 1) := by decide +kernel
theorem dX9_worth_22 : decode cX9_worth 22 = .ok (.invokevirtual 144, 3) := by decide +kernel
theorem dX9_worth_25 : decode cX9_worth 25 = .ok (.i2l, 1) := by decide +kernel
theorem dX9_worth_26 : decode cX9_worth 26 = .ok (.goto 6, 3) := by decide +kernel
theorem dX9_worth_29 : decode cX9_worth 29 = .ok (.ldc2_w 126, 3) := by decide +kernel
theorem dX9_worth_32 : decode cX9_worth 32 = .ok (.lreturn, 1) := by decide +kernel
theorem dX9_choice_0 : decode cX9_choice 0 = .ok (.aload_n 0, 1) := by decide +kernel
theorem dX9_choice_1 : decode cX9_choice 1 = .ok (.iload_n 1, 1) := by decide +kernel
theorem dX9_choice_2 : decode cX9_choice 2 = .ok (.invokevirtual 96, 3) := by decide +kernel
theorem dX9_choice_5 : decode cX9_choice 5 = .ok (.ifCond .eq 24, 3) := by decide +kernel
theorem dX9_choice_8 : decode cX9_choice 8 = .ok (.iload_n 2, 1) := by decide +kernel
theorem dX9_choice_9 : decode cX9_choice 9 = .ok (.iconst 0, 1) := by decide +kernel
theorem dX9_choice_10 : decode cX9_choice 10 = .ok (.iconst 2, 1) := by decide +kernel
theorem dX9_choice_11 : decode cX9_choice 11 = .ok (.invokestatic 84, 3) := by decide +kernel
theorem dX9_choice_14 : decode cX9_choice 14 = .ok (.ifCond .eq 15, 3) := by decide +kernel
theorem dX9_choice_17 : decode cX9_choice 17 = .ok (.aload_n 0, 1) := by decide +kernel
theorem dX9_choice_18 : decode cX9_choice 18 = .ok (.getfield 17, 3) := by decide +kernel
theorem dX9_choice_21 : decode cX9_choice 21 = .ok (.iload_n 1, 1) := by decide +kernel
theorem dX9_choice_22 : decode cX9_choice 22 = .ok (.iload_n 2, 1) := by decide +kernel
theorem dX9_choice_23 : decode cX9_choice 23 = .ok (.invokevirtual 168, 3) := by decide +kernel
theorem dX9_choice_26 : decode cX9_choice 26 = .ok (.goto 4, 3) := by decide +kernel
theorem dX9_choice_29 : decode cX9_choice 29 = .ok (.iconst (-1), 1) := by decide +kernel
theorem dX9_choice_30 : decode cX9_choice 30 = .ok (.ireturn, 1) := by decide +kernel
theorem dX9_choose_0 : decode cX9_choose 0 = .ok (.aload_n 0, 1) := by decide +kernel
theorem dX9_choose_1 : decode cX9_choose 1 = .ok (.iload_n 1, 1) := by decide +kernel
theorem dX9_choose_2 : decode cX9_choose 2 = .ok (.invokevirtual 96, 3) := by decide +kernel
theorem dX9_choose_5 : decode cX9_choose 5 = .ok (.ifCond .eq 14, 3) := by decide +kernel
theorem dX9_choose_8 : decode cX9_choose 8 = .ok (.aload_n 0, 1) := by decide +kernel
theorem dX9_choose_9 : decode cX9_choose 9 = .ok (.getfield 17, 3) := by decide +kernel
theorem dX9_choose_12 : decode cX9_choose 12 = .ok (.iload_n 1, 1) := by decide +kernel
theorem dX9_choose_13 : decode cX9_choose 13 = .ok (.invokevirtual 171, 3) := by decide +kernel
theorem dX9_choose_16 : decode cX9_choose 16 = .ok (.goto 4, 3) := by decide +kernel
theorem dX9_choose_19 : decode cX9_choose 19 = .ok (.iconst (-1), 1) := by decide +kernel
theorem dX9_choose_20 : decode cX9_choose 20 = .ok (.ireturn, 1) := by decide +kernel
theorem dX9_rest_0 : decode cX9_rest 0 = .ok (.iload_n 1, 1) := by decide +kernel
theorem dX9_rest_1 : decode cX9_rest 1 = .ok (.invokestatic 174, 3) := by decide +kernel
theorem dX9_rest_4 : decode cX9_rest 4 = .ok (.ifCond .ne 5, 3) := by decide +kernel
theorem dX9_rest_7 : decode cX9_rest 7 = .ok (.iconst (-1), 1) := by decide +kernel
theorem dX9_rest_8 : decode cX9_rest 8 = .ok (.ireturn, 1) := by decide +kernel
theorem dX9_rest_9 : decode cX9_rest 9 = .ok (.aload_n 0, 1) := by decide +kernel
theorem dX9_rest_10 : decode cX9_rest 10 = .ok (.getfield 46, 3) := by decide +kernel
theorem dX9_rest_13 : decode cX9_rest 13 = .ok (.aload_n 0, 1) := by decide +kernel
theorem dX9_rest_14 : decode cX9_rest 14 = .ok (.getfield 17, 3) := by decide +kernel
theorem dX9_rest_17 : decode cX9_rest 17 = .ok (.iload_n 1, 1) := by decide +kernel
theorem dX9_rest_18 : decode cX9_rest 18 = .ok (.invokevirtual 177, 3) := by decide +kernel
theorem dX9_rest_21 : decode cX9_rest 21 = .ok (.bipush (-5), 2) := by decide +kernel
theorem dX9_rest_23 : decode cX9_rest 23 = .ok (.if_icmp .ne 7, 3) := by decide +kernel
theorem dX9_rest_26 : decode cX9_rest 26 = .ok (.iconst 1, 1) := by decide +kernel
theorem dX9_rest_27 : decode cX9_rest 27 = .ok (.goto 4, 3) := by decide +kernel
theorem dX9_rest_30 : decode cX9_rest 30 = .ok (.iconst 0, 1) := by decide +kernel
theorem dX9_rest_31 : decode cX9_rest 31 = .ok (.ireturn, 1) := by decide +kernel
theorem dX9_broken_0 : decode cX9_broken 0 = .ok (.iload_n 1, 1) := by decide +kernel
theorem dX9_broken_1 : decode cX9_broken 1 = .ok (.invokestatic 174, 3) := by decide +kernel
theorem dX9_broken_4 : decode cX9_broken 4 = .ok (.ifCond .eq 18, 3) := by decide +kernel
theorem dX9_broken_7 : decode cX9_broken 7 = .ok (.aload_n 0, 1) := by decide +kernel
theorem dX9_broken_8 : decode cX9_broken 8 = .ok (.getfield 46, 3) := by decide +kernel
theorem dX9_broken_11 : decode cX9_broken 11 = .ok (.aload_n 0, 1) := by decide +kernel
theorem dX9_broken_12 : decode cX9_broken 12 = .ok (.getfield 17, 3) := by decide +kernel
theorem dX9_broken_15 : decode cX9_broken 15 = .ok (.iload_n 1, 1) := by decide +kernel
theorem dX9_broken_16 : decode cX9_broken 16 = .ok (.invokevirtual 177, 3) := by decide +kernel
theorem dX9_broken_19 : decode cX9_broken 19 = .ok (.goto 4, 3) := by decide +kernel
theorem dX9_broken_22 : decode cX9_broken 22 = .ok (.iconst (-1), 1) := by decide +kernel
theorem dX9_broken_23 : decode cX9_broken 23 = .ok (.ireturn, 1) := by decide +kernel
theorem dX9_go_0 : decode cX9_go 0 = .ok (.aload_n 0, 1) := by decide +kernel
theorem dX9_go_1 : decode cX9_go 1 = .ok (.iload_n 1, 1) := by decide +kernel
theorem dX9_go_2 : decode cX9_go 2 = .ok (.invokevirtual 123, 3) := by decide +kernel
theorem dX9_go_5 : decode cX9_go 5 = .ok (.ifCond .eq 11, 3) := by decide +kernel
theorem dX9_go_8 : decode cX9_go 8 = .ok (.aload_n 0, 1) := by decide +kernel
theorem dX9_go_9 : decode cX9_go 9 = .ok (.iload_n 2, 1) := by decide +kernel
theorem dX9_go_10 : decode cX9_go 10 = .ok (.invokevirtual 96, 3) := by decide +kernel
theorem dX9_go_13 : decode cX9_go 13 = .ok (.ifCond .ne 5, 3) := by decide +kernel
theorem dX9_go_16 : decode cX9_go 16 = .ok (.iconst (-1), 1) := by decide +kernel
theorem dX9_go_17 : decode cX9_go 17 = .ok (.ireturn, 1) := by decide +kernel
theorem dX9_go_18 : decode cX9_go 18 = .ok (.aload_n 0, 1) := by decide +kernel
theorem dX9_go_19 : decode cX9_go 19 = .ok (.getfield 17, 3) := by decide +kernel
theorem dX9_go_22 : decode cX9_go 22 = .ok (.iload_n 1, 1) := by decide +kernel
theorem dX9_go_23 : decode cX9_go 23 = .ok (.iload_n 2, 1) := by decide +kernel
theorem dX9_go_24 : decode cX9_go 24 = .ok (.invokevirtual 181, 3) := by decide +kernel
theorem dX9_go_27 : decode cX9_go 27 = .ok (.ifCond .eq 18, 3) := by decide +kernel
theorem dX9_go_30 : decode cX9_go 30 = .ok (.aload_n 0, 1) := by decide +kernel
theorem dX9_go_31 : decode cX9_go 31 = .ok (.getfield 17, 3) := by decide +kernel
theorem dX9_go_34 : decode cX9_go 34 = .ok (.getfield 128, 3) := by decide +kernel
theorem dX9_go_37 : decode cX9_go 37 = .ok (.iload_n 1, 1) := by decide +kernel
theorem dX9_go_38 : decode cX9_go 38 = .ok (.iload_n 2, 1) := by decide +kernel
theorem dX9_go_39 : decode cX9_go 39 = .ok (.invokestatic 110, 3) := by decide +kernel
theorem dX9_go_42 : decode cX9_go 42 = .ok (.goto 5, 3) := by decide +kernel
theorem dX9_go_45 : decode cX9_go 45 = .ok (.bipush (-3), 2) := by decide +kernel
theorem dX9_go_47 : decode cX9_go 47 = .ok (.ireturn, 1) := by decide +kernel
theorem dX9_step_0 : decode cX9_step 0 = .ok (.aload_n 0, 1) := by decide +kernel
theorem dX9_step_1 : decode cX9_step 1 = .ok (.getfield 53, 3) := by decide +kernel
theorem dX9_step_4 : decode cX9_step 4 = .ok (.aload_n 0, 1) := by decide +kernel
theorem dX9_step_5 : decode cX9_step 5 = .ok (.getfield 17, 3) := by decide +kernel
theorem dX9_step_8 : decode cX9_step 8 = .ok (.iload_n 1, 1) := by decide +kernel
theorem dX9_step_9 : decode cX9_step 9 = .ok (.invokevirtual 185, 3) := by decide +kernel
theorem dX9_step_12 : decode cX9_step 12 = .ok (.ireturn, 1) := by decide +kernel
theorem dX9_end_0 : decode cX9_end 0 = .ok (.aload_n 0, 1) := by decide +kernel
theorem dX9_end_1 : decode cX9_end 1 = .ok (.getfield 53, 3) := by decide +kernel
theorem dX9_end_4 : decode cX9_end 4 = .ok (.aload_n 0, 1) := by decide +kernel
theorem dX9_end_5 : decode cX9_end 5 = .ok (.getfield 17, 3) := by decide +kernel
theorem dX9_end_8 : decode cX9_end 8 = .ok (.iload_n 1, 1) := by decide +kernel
theorem dX9_end_9 : decode cX9_end 9 = .ok (.invokevirtual 189, 3) := by decide +kernel
theorem dX9_end_12 : decode cX9_end 12 = .ok (.ireturn, 1) := by decide +kernel
theorem dX9_judge_0 : decode cX9_judge 0 = .ok (.iload_n 1, 1) := by decide +kernel
theorem dX9_judge_1 : decode cX9_judge 1 = .ok (.invokestatic 192, 3) := by decide +kernel
theorem dX9_judge_4 : decode cX9_judge 4 = .ok (.ifCond .eq 10, 3) := by decide +kernel
theorem dX9_judge_7 : decode cX9_judge 7 = .ok (.iload_n 3, 1) := by decide +kernel
theorem dX9_judge_8 : decode cX9_judge 8 = .ok (.invokestatic 174, 3) := by decide +kernel
theorem dX9_judge_11 : decode cX9_judge 11 = .ok (.ifCond .ne 5, 3) := by decide +kernel
theorem dX9_judge_14 : decode cX9_judge 14 = .ok (.iconst (-1), 1) := by decide +kernel
theorem dX9_judge_15 : decode cX9_judge 15 = .ok (.ireturn, 1) := by decide +kernel
theorem dX9_judge_16 : decode cX9_judge 16 = .ok (.aload_n 0, 1) := by decide +kernel
theorem dX9_judge_17 : decode cX9_judge 17 = .ok (.getfield 79, 3) := by decide +kernel
theorem dX9_judge_20 : decode cX9_judge 20 = .ok (.iload_n 1, 1) := by decide +kernel
theorem dX9_judge_21 : decode cX9_judge 21 = .ok (.aaload, 1) := by decide +kernel
theorem dX9_judge_22 : decode cX9_judge 22 = .ok (.astore 4, 2) := by decide +kernel
theorem dX9_judge_24 : decode cX9_judge 24 = .ok (.aload 4, 2) := by decide +kernel
theorem dX9_judge_26 : decode cX9_judge 26 = .ok (.invokevirtual 195, 3) := by decide +kernel
theorem dX9_judge_29 : decode cX9_judge 29 = .ok (.ifCond .eq 6, 3) := by decide +kernel
theorem dX9_judge_32 : decode cX9_judge 32 = .ok (.bipush (-11), 2) := by decide +kernel
theorem dX9_judge_34 : decode cX9_judge 34 = .ok (.ireturn, 1) := by decide +kernel
theorem dX9_judge_35 : decode cX9_judge 35 = .ok (.aload 4, 2) := by decide +kernel
theorem dX9_judge_37 : decode cX9_judge 37 = .ok (.getfield 199, 3) := by decide +kernel
theorem dX9_judge_40 : decode cX9_judge 40 = .ok (.iconst 1, 1) := by decide +kernel
theorem dX9_judge_41 : decode cX9_judge 41 = .ok (.if_icmp .eq 6, 3) := by decide +kernel
theorem dX9_judge_44 : decode cX9_judge 44 = .ok (.bipush (-12), 2) := by decide +kernel
theorem dX9_judge_46 : decode cX9_judge 46 = .ok (.ireturn, 1) := by decide +kernel
theorem dX9_judge_47 : decode cX9_judge 47 = .ok (.aload 4, 2) := by decide +kernel
theorem dX9_judge_49 : decode cX9_judge 49 = .ok (.iload_n 2, 1) := by decide +kernel
theorem dX9_judge_50 : decode cX9_judge 50 = .ok (.aload_n 0, 1) := by decide +kernel
theorem dX9_judge_51 : decode cX9_judge 51 = .ok (.getfield 17, 3) := by decide +kernel
theorem dX9_judge_54 : decode cX9_judge 54 = .ok (.getfield 202, 3) := by decide +kernel
theorem dX9_judge_57 : decode cX9_judge 57 = .ok (.invokevirtual 205, 3) := by decide +kernel
theorem dX9_judge_60 : decode cX9_judge 60 = .ok (.ifCond .ne 6, 3) := by decide +kernel
theorem dX9_judge_63 : decode cX9_judge 63 = .ok (.bipush (-13), 2) := by decide +kernel
theorem dX9_judge_65 : decode cX9_judge 65 = .ok (.ireturn, 1) := by decide +kernel
theorem dX9_judge_66 : decode cX9_judge 66 = .ok (.aload_n 0, 1) := by decide +kernel
theorem dX9_judge_67 : decode cX9_judge 67 = .ok (.getfield 27, 3) := by decide +kernel
theorem dX9_judge_70 : decode cX9_judge 70 = .ok (.aload_n 0, 1) := by decide +kernel
theorem dX9_judge_71 : decode cX9_judge 71 = .ok (.getfield 17, 3) := by decide +kernel
theorem dX9_judge_74 : decode cX9_judge 74 = .ok (.invokevirtual 208, 3) := by decide +kernel
theorem dX9_judge_77 : decode cX9_judge 77 = .ok (.aload_n 0, 1) := by decide +kernel
theorem dX9_judge_78 : decode cX9_judge 78 = .ok (.aload 4, 2) := by decide +kernel
theorem dX9_judge_80 : decode cX9_judge 80 = .ok (.iload_n 2, 1) := by decide +kernel
theorem dX9_judge_81 : decode cX9_judge 81 = .ok (.invokevirtual 212, 3) := by decide +kernel
theorem dX9_judge_84 : decode cX9_judge 84 = .ok (.ifCond .ne 6, 3) := by decide +kernel
theorem dX9_judge_87 : decode cX9_judge 87 = .ok (.bipush (-3), 2) := by decide +kernel
theorem dX9_judge_89 : decode cX9_judge 89 = .ok (.ireturn, 1) := by decide +kernel
theorem dX9_judge_90 : decode cX9_judge 90 = .ok (.aload_n 0, 1) := by decide +kernel
theorem dX9_judge_91 : decode cX9_judge 91 = .ok (.getfield 46, 3) := by decide +kernel
theorem dX9_judge_94 : decode cX9_judge 94 = .ok (.aload_n 0, 1) := by decide +kernel
theorem dX9_judge_95 : decode cX9_judge 95 = .ok (.getfield 27, 3) := by decide +kernel
theorem dX9_judge_98 : decode cX9_judge 98 = .ok (.iload_n 3, 1) := by decide +kernel
theorem dX9_judge_99 : decode cX9_judge 99 = .ok (.invokevirtual 177, 3) := by decide +kernel
theorem dX9_judge_102 : decode cX9_judge 102 = .ok (.bipush (-5), 2) := by decide +kernel
theorem dX9_judge_104 : decode cX9_judge 104 = .ok (.if_icmp .ne 7, 3) := by decide +kernel
theorem dX9_judge_107 : decode cX9_judge 107 = .ok (.iconst 1, 1) := by decide +kernel
theorem dX9_judge_108 : decode cX9_judge 108 = .ok (.goto 4, 3) := by decide +kernel
theorem dX9_judge_111 : decode cX9_judge 111 = .ok (.iconst 0, 1) := by decide +kernel
theorem dX9_judge_112 : decode cX9_judge 112 = .ok (.ireturn, 1) := by decide +kernel
theorem dX9_all_0 : decode cX9_all 0 = .ok (.iload_n 1, 1) := by decide +kernel
theorem dX9_all_1 : decode cX9_all 1 = .ok (.invokestatic 174, 3) := by decide +kernel
theorem dX9_all_4 : decode cX9_all 4 = .ok (.ifCond .eq 16, 3) := by decide +kernel
theorem dX9_all_7 : decode cX9_all 7 = .ok (.aload_n 0, 1) := by decide +kernel
theorem dX9_all_8 : decode cX9_all 8 = .ok (.iload_n 3, 1) := by decide +kernel
theorem dX9_all_9 : decode cX9_all 9 = .ok (.invokevirtual 123, 3) := by decide +kernel
theorem dX9_all_12 : decode cX9_all 12 = .ok (.ifCond .eq 8, 3) := by decide +kernel
theorem dX9_all_15 : decode cX9_all 15 = .ok (.iload_n 2, 1) := by decide +kernel
theorem dX9_all_16 : decode cX9_all 16 = .ok (.iconst (-1), 1) := by decide +kernel
theorem dX9_all_17 : decode cX9_all 17 = .ok (.if_icmp .ge 5, 3) := by decide +kernel
theorem dX9_all_20 : decode cX9_all 20 = .ok (.iconst (-1), 1) := by decide +kernel
theorem dX9_all_21 : decode cX9_all 21 = .ok (.ireturn, 1) := by decide +kernel
theorem dX9_all_22 : decode cX9_all 22 = .ok (.aload_n 0, 1) := by decide +kernel
theorem dX9_all_23 : decode cX9_all 23 = .ok (.getfield 17, 3) := by decide +kernel
theorem dX9_all_26 : decode cX9_all 26 = .ok (.invokevirtual 216, 3) := by decide +kernel
theorem dX9_all_29 : decode cX9_all 29 = .ok (.ifCond .eq 6, 3) := by decide +kernel
theorem dX9_all_32 : decode cX9_all 32 = .ok (.bipush (-9), 2) := by decide +kernel
theorem dX9_all_34 : decode cX9_all 34 = .ok (.ireturn, 1) := by decide +kernel
theorem dX9_all_35 : decode cX9_all 35 = .ok (.aload_n 0, 1) := by decide +kernel
theorem dX9_all_36 : decode cX9_all 36 = .ok (.getfield 27, 3) := by decide +kernel
theorem dX9_all_39 : decode cX9_all 39 = .ok (.aload_n 0, 1) := by decide +kernel
theorem dX9_all_40 : decode cX9_all 40 = .ok (.getfield 17, 3) := by decide +kernel
theorem dX9_all_43 : decode cX9_all 43 = .ok (.invokevirtual 208, 3) := by decide +kernel
theorem dX9_all_46 : decode cX9_all 46 = .ok (.aload_n 0, 1) := by decide +kernel
theorem dX9_all_47 : decode cX9_all 47 = .ok (.getfield 27, 3) := by decide +kernel
theorem dX9_all_50 : decode cX9_all 50 = .ok (.invokevirtual 219, 3) := by decide +kernel
theorem dX9_all_53 : decode cX9_all 53 = .ok (.istore 4, 2) := by decide +kernel
theorem dX9_all_55 : decode cX9_all 55 = .ok (.iconst 0, 1) := by decide +kernel
theorem dX9_all_56 : decode cX9_all 56 = .ok (.istore 5, 2) := by decide +kernel
theorem dX9_all_58 : decode cX9_all 58 = .ok (.iconst 0, 1) := by decide +kernel
theorem dX9_all_59 : decode cX9_all 59 = .ok (.istore 6, 2) := by decide +kernel
theorem dX9_all_61 : decode cX9_all 61 = .ok (.iload 6, 2) := by decide +kernel
theorem dX9_all_63 : decode cX9_all 63 = .ok (.iload 4, 2) := by decide +kernel
theorem dX9_all_65 : decode cX9_all 65 = .ok (.if_icmp .ge 60, 3) := by decide +kernel
theorem dX9_all_68 : decode cX9_all 68 = .ok (.aload_n 0, 1) := by decide +kernel
theorem dX9_all_69 : decode cX9_all 69 = .ok (.getfield 27, 3) := by decide +kernel
theorem dX9_all_72 : decode cX9_all 72 = .ok (.iload 6, 2) := by decide +kernel
theorem dX9_all_74 : decode cX9_all 74 = .ok (.invokevirtual 223, 3) := by decide +kernel
theorem dX9_all_77 : decode cX9_all 77 = .ok (.ifCond .eq 42, 3) := by decide +kernel
theorem dX9_all_80 : decode cX9_all 80 = .ok (.aload_n 0, 1) := by decide +kernel
theorem dX9_all_81 : decode cX9_all 81 = .ok (.getfield 46, 3) := by decide +kernel
theorem dX9_all_84 : decode cX9_all 84 = .ok (.aload_n 0, 1) := by decide +kernel
theorem dX9_all_85 : decode cX9_all 85 = .ok (.getfield 27, 3) := by decide +kernel
theorem dX9_all_88 : decode cX9_all 88 = .ok (.iload_n 1, 1) := by decide +kernel
theorem dX9_all_89 : decode cX9_all 89 = .ok (.invokevirtual 177, 3) := by decide +kernel
theorem dX9_all_92 : decode cX9_all 92 = .ok (.bipush (-5), 2) := by decide +kernel
theorem dX9_all_94 : decode cX9_all 94 = .ok (.if_icmp .eq 6, 3) := by decide +kernel
theorem dX9_all_97 : decode cX9_all 97 = .ok (.goto 22, 3) := by decide +kernel
theorem dX9_all_100 : decode cX9_all 100 = .ok (.iload 5, 2) := by decide +kernel
theorem dX9_all_102 : decode cX9_all 102 = .ok (.iload_n 2, 1) := by decide +kernel
theorem dX9_all_103 : decode cX9_all 103 = .ok (.if_icmp .ne 13, 3) := by decide +kernel
theorem dX9_all_106 : decode cX9_all 106 = .ok (.aload_n 0, 1) := by decide +kernel
theorem dX9_all_107 : decode cX9_all 107 = .ok (.getfield 27, 3) := by decide +kernel
theorem dX9_all_110 : decode cX9_all 110 = .ok (.getfield 128, 3) := by decide +kernel
theorem dX9_all_113 : decode cX9_all 113 = .ok (.iload_n 3, 1) := by decide +kernel
theorem dX9_all_114 : decode cX9_all 114 = .ok (.iaload, 1) := by decide +kernel
theorem dX9_all_115 : decode cX9_all 115 = .ok (.ireturn, 1) := by decide +kernel
theorem dX9_all_116 : decode cX9_all 116 = .ok (.iinc 5 1, 3) := by decide +kernel
theorem dX9_all_119 : decode cX9_all 119 = .ok (.iinc 6 1, 3) := by decide +kernel
theorem dX9_all_122 : decode cX9_all 122 = .ok (.goto (-61), 3) := by decide +kernel
theorem dX9_all_125 : decode cX9_all 125 = .ok (.iload_n 2, 1) := by decide +kernel
theorem dX9_all_126 : decode cX9_all 126 = .ok (.iconst (-1), 1) := by decide +kernel
theorem dX9_all_127 : decode cX9_all 127 = .ok (.if_icmp .ne 8, 3) := by decide +kernel
theorem dX9_all_130 : decode cX9_all 130 = .ok (.iload 5, 2) := by decide +kernel
theorem dX9_all_132 : decode cX9_all 132 = .ok (.goto 4, 3) := by decide +kernel
theorem dX9_all_135 : decode cX9_all 135 = .ok (.iconst (-1), 1) := by decide +kernel
theorem dX9_all_136 : decode cX9_all 136 = .ok (.ireturn, 1) := by decide +kernel
theorem dX9_good_0 : decode cX9_good 0 = .ok (.aload_n 0, 1) := by decide +kernel
theorem dX9_good_1 : decode cX9_good 1 = .ok (.iload_n 1, 1) := by decide +kernel
theorem dX9_good_2 : decode cX9_good 2 = .ok (.invokevirtual 123, 3) := by decide +kernel
theorem dX9_good_5 : decode cX9_good 5 = .ok (.ifCond .ne 5, 3) := by decide +kernel
theorem dX9_good_8 : decode cX9_good 8 = .ok (.iconst (-1), 1) := by decide +kernel
theorem dX9_good_9 : decode cX9_good 9 = .ok (.ireturn, 1) := by decide +kernel
theorem dX9_good_10 : decode cX9_good 10 = .ok (.aload_n 0, 1) := by decide +kernel
theorem dX9_good_11 : decode cX9_good 11 = .ok (.getfield 17, 3) := by decide +kernel
theorem dX9_good_14 : decode cX9_good 14 = .ok (.invokevirtual 216, 3) := by decide +kernel
theorem dX9_good_17 : decode cX9_good 17 = .ok (.ifCond .eq 6, 3) := by decide +kernel
theorem dX9_good_20 : decode cX9_good 20 = .ok (.bipush (-9), 2) := by decide +kernel
theorem dX9_good_22 : decode cX9_good 22 = .ok (.ireturn, 1) := by decide +kernel
theorem dX9_good_23 : decode cX9_good 23 = .ok (.aload_n 0, 1) := by decide +kernel
theorem dX9_good_24 : decode cX9_good 24 = .ok (.getfield 27, 3) := by decide +kernel
theorem dX9_good_27 : decode cX9_good 27 = .ok (.aload_n 0, 1) := by decide +kernel
theorem dX9_good_28 : decode cX9_good 28 = .ok (.getfield 17, 3) := by decide +kernel
theorem dX9_good_31 : decode cX9_good 31 = .ok (.invokevirtual 208, 3) := by decide +kernel
theorem dX9_good_34 : decode cX9_good 34 = .ok (.aload_n 0, 1) := by decide +kernel
theorem dX9_good_35 : decode cX9_good 35 = .ok (.getfield 27, 3) := by decide +kernel
theorem dX9_good_38 : decode cX9_good 38 = .ok (.invokevirtual 219, 3) := by decide +kernel
theorem dX9_good_41 : decode cX9_good 41 = .ok (.istore_n 2, 1) := by decide +kernel
theorem dX9_good_42 : decode cX9_good 42 = .ok (.ldc2_w 126, 3) := by decide +kernel
theorem dX9_good_45 : decode cX9_good 45 = .ok (.lstore_n 3, 1) := by decide +kernel
theorem dX9_good_46 : decode cX9_good 46 = .ok (.iconst (-1), 1) := by decide +kernel
theorem dX9_good_47 : decode cX9_good 47 = .ok (.istore 5, 2) := by decide +kernel
theorem dX9_good_49 : decode cX9_good 49 = .ok (.iconst 0, 1) := by decide +kernel
theorem dX9_good_50 : decode cX9_good 50 = .ok (.istore 6, 2) := by decide +kernel
theorem dX9_good_52 : decode cX9_good 52 = .ok (.iload 6, 2) := by decide +kernel
theorem dX9_good_54 : decode cX9_good 54 = .ok (.iload_n 2, 1) := by decide +kernel
theorem dX9_good_55 : decode cX9_good 55 = .ok (.if_icmp .ge 54, 3) := by decide +kernel
theorem dX9_good_58 : decode cX9_good 58 = .ok (.aload_n 0, 1) := by decide +kernel
theorem dX9_good_59 : decode cX9_good 59 = .ok (.getfield 27, 3) := by decide +kernel
theorem dX9_good_62 : decode cX9_good 62 = .ok (.iload 6, 2) := by decide +kernel
theorem dX9_good_64 : decode cX9_good 64 = .ok (.invokevirtual 223, 3) := by decide +kernel
theorem dX9_good_67 : decode cX9_good 67 = .ok (.ifCond .ne 6, 3) := by decide +kernel
theorem dX9_good_70 : decode cX9_good 70 = .ok (.goto 33, 3) := by decide +kernel
theorem dX9_good_73 : decode cX9_good 73 = .ok (.aload_n 0, 1) := by decide +kernel
theorem dX9_good_74 : decode cX9_good 74 = .ok (.getfield 27, 3) := by decide +kernel
theorem dX9_good_77 : decode cX9_good 77 = .ok (.invokevirtual 226, 3) := by decide +kernel
theorem dX9_good_80 : decode cX9_good 80 = .ok (.lstore 7, 2) := by decide +kernel
theorem dX9_good_82 : decode cX9_good 82 = .ok (.lload 7, 2) := by decide +kernel
theorem dX9_good_84 : decode cX9_good 84 = .ok (.lload_n 3, 1) := by decide +kernel
theorem dX9_good_85 : decode cX9_good 85 = .ok (.lcmp, 1) := by decide +kernel
theorem dX9_good_86 : decode cX9_good 86 = .ok (.ifCond .le 17, 3) := by decide +kernel
theorem dX9_good_89 : decode cX9_good 89 = .ok (.lload 7, 2) := by decide +kernel
theorem dX9_good_91 : decode cX9_good 91 = .ok (.lstore_n 3, 1) := by decide +kernel
theorem dX9_good_92 : decode cX9_good 92 = .ok (.aload_n 0, 1) := by decide +kernel
theorem dX9_good_93 : decode cX9_good 93 = .ok (.getfield 27, 3) := by decide +kernel
theorem dX9_good_96 : decode cX9_good 96 = .ok (.getfield 128, 3) := by decide +kernel
theorem dX9_good_99 : decode cX9_good 99 = .ok (.iload_n 1, 1) := by decide +kernel
theorem dX9_good_100 : decode cX9_good 100 = .ok (.iaload, 1) := by decide +kernel
theorem dX9_good_101 : decode cX9_good 101 = .ok (.istore 5, 2) := by decide +kernel
theorem dX9_good_103 : decode cX9_good 103 = .ok (.iinc 6 1, 3) := by decide +kernel
theorem dX9_good_106 : decode cX9_good 106 = .ok (.goto (-54), 3) := by decide +kernel
theorem dX9_good_109 : decode cX9_good 109 = .ok (.iload 5, 2) := by decide +kernel
theorem dX9_good_111 : decode cX9_good 111 = .ok (.ireturn, 1) := by decide +kernel
theorem dX9_rise_0 : decode cX9_rise 0 = .ok (.aload_n 0, 1) := by decide +kernel
theorem dX9_rise_1 : decode cX9_rise 1 = .ok (.getfield 17, 3) := by decide +kernel
theorem dX9_rise_4 : decode cX9_rise 4 = .ok (.getfield 117, 3) := by decide +kernel
theorem dX9_rise_7 : decode cX9_rise 7 = .ok (.iconst 0, 1) := by decide +kernel
theorem dX9_rise_8 : decode cX9_rise 8 = .ok (.invokestatic 230, 3) := by decide +kernel
theorem dX9_rise_11 : decode cX9_rise 11 = .ok (.iconst 0, 1) := by decide +kernel
theorem dX9_rise_12 : decode cX9_rise 12 = .ok (.istore_n 1, 1) := by decide +kernel
theorem dX9_rise_13 : decode cX9_rise 13 = .ok (.iload_n 1, 1) := by decide +kernel
theorem dX9_rise_14 : decode cX9_rise 14 = .ok (.sipush 200, 3) := by decide +kernel
theorem dX9_rise_17 : decode cX9_rise 17 = .ok (.if_icmp .ge 36, 3) := by decide +kernel
theorem dX9_rise_20 : decode cX9_rise 20 = .ok (.aload_n 0, 1) := by decide +kernel
theorem dX9_rise_21 : decode cX9_rise 21 = .ok (.getfield 17, 3) := by decide +kernel
theorem dX9_rise_24 : decode cX9_rise 24 = .ok (.invokevirtual 236, 3) := by decide +kernel
theorem dX9_rise_27 : decode cX9_rise 27 = .ok (.istore_n 2, 1) := by decide +kernel
theorem dX9_rise_28 : decode cX9_rise 28 = .ok (.iload_n 2, 1) := by decide +kernel
theorem dX9_rise_29 : decode cX9_rise 29 = .ok (.ifCond .ge 5, 3) := by decide +kernel
theorem dX9_rise_32 : decode cX9_rise 32 = .ok (.iload_n 1, 1) := by decide +kernel
theorem dX9_rise_33 : decode cX9_rise 33 = .ok (.ireturn, 1) := by decide +kernel
theorem dX9_rise_34 : decode cX9_rise 34 = .ok (.aload_n 0, 1) := by decide +kernel
theorem dX9_rise_35 : decode cX9_rise 35 = .ok (.getfield 17, 3) := by decide +kernel
theorem dX9_rise_38 : decode cX9_rise 38 = .ok (.getfield 117, 3) := by decide +kernel
theorem dX9_rise_41 : decode cX9_rise 41 = .ok (.iload_n 2, 1) := by decide +kernel
theorem dX9_rise_42 : decode cX9_rise 42 = .ok (.dup2, 1) := by decide +kernel
theorem dX9_rise_43 : decode cX9_rise 43 = .ok (.iaload, 1) := by decide +kernel
theorem dX9_rise_44 : decode cX9_rise 44 = .ok (.iconst 1, 1) := by decide +kernel
theorem dX9_rise_45 : decode cX9_rise 45 = .ok (.iadd, 1) := by decide +kernel
theorem dX9_rise_46 : decode cX9_rise 46 = .ok (.iastore, 1) := by decide +kernel
theorem dX9_rise_47 : decode cX9_rise 47 = .ok (.iinc 1 1, 3) := by decide +kernel
theorem dX9_rise_50 : decode cX9_rise 50 = .ok (.goto (-37), 3) := by decide +kernel
theorem dX9_rise_53 : decode cX9_rise 53 = .ok (.sipush 200, 3) := by decide +kernel
theorem dX9_rise_56 : decode cX9_rise 56 = .ok (.ireturn, 1) := by decide +kernel
theorem dX9_sorted_0 : decode cX9_sorted 0 = .ok (.iload_n 1, 1) := by decide +kernel
theorem dX9_sorted_1 : decode cX9_sorted 1 = .ok (.iconst 0, 1) := by decide +kernel
theorem dX9_sorted_2 : decode cX9_sorted 2 = .ok (.iconst 2, 1) := by decide +kernel
theorem dX9_sorted_3 : decode cX9_sorted 3 = .ok (.invokestatic 84, 3) := by decide +kernel
theorem dX9_sorted_6 : decode cX9_sorted 6 = .ok (.ifCond .ne 5, 3) := by decide +kernel
theorem dX9_sorted_9 : decode cX9_sorted 9 = .ok (.iconst (-1), 1) := by decide +kernel
theorem dX9_sorted_10 : decode cX9_sorted 10 = .ok (.ireturn, 1) := by decide +kernel
theorem dX9_sorted_11 : decode cX9_sorted 11 = .ok (.iload_n 1, 1) := by decide +kernel
theorem dX9_sorted_12 : decode cX9_sorted 12 = .ok (.ifCond .ne 11, 3) := by decide +kernel
theorem dX9_sorted_15 : decode cX9_sorted 15 = .ok (.aload_n 0, 1) := by decide +kernel
theorem dX9_sorted_16 : decode cX9_sorted 16 = .ok (.getfield 17, 3) := by decide +kernel
theorem dX9_sorted_19 : decode cX9_sorted 19 = .ok (.invokevirtual 239, 3) := by decide +kernel
theorem dX9_sorted_22 : decode cX9_sorted 22 = .ok (.ireturn, 1) := by decide +kernel
theorem dX9_sorted_23 : decode cX9_sorted 23 = .ok (.aload_n 0, 1) := by decide +kernel
theorem dX9_sorted_24 : decode cX9_sorted 24 = .ok (.getfield 17, 3) := by decide +kernel
theorem dX9_sorted_27 : decode cX9_sorted 27 = .ok (.getfield 202, 3) := by decide +kernel
theorem dX9_sorted_30 : decode cX9_sorted 30 = .ok (.bipush 7, 2) := by decide +kernel
theorem dX9_sorted_32 : decode cX9_sorted 32 = .ok (.if_icmp .le 6, 3) := by decide +kernel
theorem dX9_sorted_35 : decode cX9_sorted 35 = .ok (.bipush (-9), 2) := by decide +kernel
theorem dX9_sorted_37 : decode cX9_sorted 37 = .ok (.ireturn, 1) := by decide +kernel
theorem dX9_sorted_38 : decode cX9_sorted 38 = .ok (.iload_n 1, 1) := by decide +kernel
theorem dX9_sorted_39 : decode cX9_sorted 39 = .ok (.iconst 1, 1) := by decide +kernel
theorem dX9_sorted_40 : decode cX9_sorted 40 = .ok (.if_icmp .ne 17, 3) := by decide +kernel
theorem dX9_sorted_43 : decode cX9_sorted 43 = .ok (.aload_n 0, 1) := by decide +kernel
theorem dX9_sorted_44 : decode cX9_sorted 44 = .ok (.getfield 60, 3) := by decide +kernel
theorem dX9_sorted_47 : decode cX9_sorted 47 = .ok (.aload_n 0, 1) := by decide +kernel
theorem dX9_sorted_48 : decode cX9_sorted 48 = .ok (.getfield 17, 3) := by decide +kernel
theorem dX9_sorted_51 : decode cX9_sorted 51 = .ok (.invokevirtual 242, 3) := by decide +kernel
theorem dX9_sorted_54 : decode cX9_sorted 54 = .ok (.goto 14, 3) := by decide +kernel
theorem dX9_sorted_57 : decode cX9_sorted 57 = .ok (.aload_n 0, 1) := by decide +kernel
theorem dX9_sorted_58 : decode cX9_sorted 58 = .ok (.getfield 60, 3) := by decide +kernel
theorem dX9_sorted_61 : decode cX9_sorted 61 = .ok (.aload_n 0, 1) := by decide +kernel
theorem dX9_sorted_62 : decode cX9_sorted 62 = .ok (.getfield 17, 3) := by decide +kernel
theorem dX9_sorted_65 : decode cX9_sorted 65 = .ok (.invokevirtual 246, 3) := by decide +kernel
theorem dX9_sorted_68 : decode cX9_sorted 68 = .ok (.ireturn, 1) := by decide +kernel
theorem dX9_tip_0 : decode cX9_tip 0 = .ok (.aload_n 0, 1) := by decide +kernel
theorem dX9_tip_1 : decode cX9_tip 1 = .ok (.getfield 30, 3) := by decide +kernel
theorem dX9_tip_4 : decode cX9_tip 4 = .ok (.aload_n 0, 1) := by decide +kernel
theorem dX9_tip_5 : decode cX9_tip 5 = .ok (.getfield 17, 3) := by decide +kernel
theorem dX9_tip_8 : decode cX9_tip 8 = .ok (.invokevirtual 208, 3) := by decide +kernel
theorem dX9_tip_11 : decode cX9_tip 11 = .ok (.aload_n 0, 1) := by decide +kernel
theorem dX9_tip_12 : decode cX9_tip 12 = .ok (.getfield 53, 3) := by decide +kernel
theorem dX9_tip_15 : decode cX9_tip 15 = .ok (.aload_n 0, 1) := by decide +kernel
theorem dX9_tip_16 : decode cX9_tip 16 = .ok (.getfield 30, 3) := by decide +kernel
theorem dX9_tip_19 : decode cX9_tip 19 = .ok (.iload_n 1, 1) := by decide +kernel
theorem dX9_tip_20 : decode cX9_tip 20 = .ok (.invokevirtual 189, 3) := by decide +kernel
theorem dX9_tip_23 : decode cX9_tip 23 = .ok (.pop, 1) := by decide +kernel
theorem dX9_tip_24 : decode cX9_tip 24 = .ok (.iconst 0, 1) := by decide +kernel
theorem dX9_tip_25 : decode cX9_tip 25 = .ok (.istore_n 2, 1) := by decide +kernel
theorem dX9_tip_26 : decode cX9_tip 26 = .ok (.iload_n 2, 1) := by decide +kernel
theorem dX9_tip_27 : decode cX9_tip 27 = .ok (.aload_n 0, 1) := by decide +kernel
theorem dX9_tip_28 : decode cX9_tip 28 = .ok (.getfield 17, 3) := by decide +kernel
theorem dX9_tip_31 : decode cX9_tip 31 = .ok (.getfield 202, 3) := by decide +kernel
theorem dX9_tip_34 : decode cX9_tip 34 = .ok (.if_icmp .ge 99, 3) := by decide +kernel
theorem dX9_tip_37 : decode cX9_tip 37 = .ok (.iconst 0, 1) := by decide +kernel
theorem dX9_tip_38 : decode cX9_tip 38 = .ok (.istore_n 3, 1) := by decide +kernel
theorem dX9_tip_39 : decode cX9_tip 39 = .ok (.iload_n 3, 1) := by decide +kernel
theorem dX9_tip_40 : decode cX9_tip 40 = .ok (.aload_n 0, 1) := by decide +kernel
theorem dX9_tip_41 : decode cX9_tip 41 = .ok (.getfield 17, 3) := by decide +kernel
theorem dX9_tip_44 : decode cX9_tip 44 = .ok (.getfield 88, 3) := by decide +kernel
theorem dX9_tip_47 : decode cX9_tip 47 = .ok (.if_icmp .ge 80, 3) := by decide +kernel
theorem dX9_tip_50 : decode cX9_tip 50 = .ok (.aload_n 0, 1) := by decide +kernel
theorem dX9_tip_51 : decode cX9_tip 51 = .ok (.getfield 17, 3) := by decide +kernel
theorem dX9_tip_54 : decode cX9_tip 54 = .ok (.iload_n 2, 1) := by decide +kernel
theorem dX9_tip_55 : decode cX9_tip 55 = .ok (.iload_n 3, 1) := by decide +kernel
theorem dX9_tip_56 : decode cX9_tip 56 = .ok (.invokevirtual 181, 3) := by decide +kernel
theorem dX9_tip_59 : decode cX9_tip 59 = .ok (.ifCond .ne 6, 3) := by decide +kernel
theorem dX9_tip_62 : decode cX9_tip 62 = .ok (.goto 59, 3) := by decide +kernel
theorem dX9_tip_65 : decode cX9_tip 65 = .ok (.aload_n 0, 1) := by decide +kernel
theorem dX9_tip_66 : decode cX9_tip 66 = .ok (.getfield 27, 3) := by decide +kernel
theorem dX9_tip_69 : decode cX9_tip 69 = .ok (.aload_n 0, 1) := by decide +kernel
theorem dX9_tip_70 : decode cX9_tip 70 = .ok (.getfield 17, 3) := by decide +kernel
theorem dX9_tip_73 : decode cX9_tip 73 = .ok (.invokevirtual 208, 3) := by decide +kernel
theorem dX9_tip_76 : decode cX9_tip 76 = .ok (.aload_n 0, 1) := by decide +kernel
theorem dX9_tip_77 : decode cX9_tip 77 = .ok (.getfield 27, 3) := by decide +kernel
theorem dX9_tip_80 : decode cX9_tip 80 = .ok (.getfield 128, 3) := by decide +kernel
theorem dX9_tip_83 : decode cX9_tip 83 = .ok (.iload_n 2, 1) := by decide +kernel
theorem dX9_tip_84 : decode cX9_tip 84 = .ok (.iload_n 3, 1) := by decide +kernel
theorem dX9_tip_85 : decode cX9_tip 85 = .ok (.iastore, 1) := by decide +kernel
theorem dX9_tip_86 : decode cX9_tip 86 = .ok (.aload_n 0, 1) := by decide +kernel
theorem dX9_tip_87 : decode cX9_tip 87 = .ok (.getfield 53, 3) := by decide +kernel
theorem dX9_tip_90 : decode cX9_tip 90 = .ok (.aload_n 0, 1) := by decide +kernel
theorem dX9_tip_91 : decode cX9_tip 91 = .ok (.getfield 27, 3) := by decide +kernel
theorem dX9_tip_94 : decode cX9_tip 94 = .ok (.iload_n 1, 1) := by decide +kernel
theorem dX9_tip_95 : decode cX9_tip 95 = .ok (.invokevirtual 189, 3) := by decide +kernel
theorem dX9_tip_98 : decode cX9_tip 98 = .ok (.pop, 1) := by decide +kernel
theorem dX9_tip_99 : decode cX9_tip 99 = .ok (.aload_n 0, 1) := by decide +kernel
theorem dX9_tip_100 : decode cX9_tip 100 = .ok (.getfield 27, 3) := by decide +kernel
theorem dX9_tip_103 : decode cX9_tip 103 = .ok (.aload_n 0, 1) := by decide +kernel
theorem dX9_tip_104 : decode cX9_tip 104 = .ok (.getfield 30, 3) := by decide +kernel
theorem dX9_tip_107 : decode cX9_tip 107 = .ok (.iload_n 2, 1) := by decide +kernel
theorem dX9_tip_108 : decode cX9_tip 108 = .ok (.invokevirtual 249, 3) := by decide +kernel
theorem dX9_tip_111 : decode cX9_tip 111 = .ok (.ifCond .eq 10, 3) := by decide +kernel
theorem dX9_tip_114 : decode cX9_tip 114 = .ok (.bipush 100, 2) := by decide +kernel
theorem dX9_tip_116 : decode cX9_tip 116 = .ok (.iload_n 2, 1) := by decide +kernel
theorem dX9_tip_117 : decode cX9_tip 117 = .ok (.imul, 1) := by decide +kernel
theorem dX9_tip_118 : decode cX9_tip 118 = .ok (.iload_n 3, 1) := by decide +kernel
theorem dX9_tip_119 : decode cX9_tip 119 = .ok (.iadd, 1) := by decide +kernel
theorem dX9_tip_120 : decode cX9_tip 120 = .ok (.ireturn, 1) := by decide +kernel
theorem dX9_tip_121 : decode cX9_tip 121 = .ok (.iinc 3 1, 3) := by decide +kernel
theorem dX9_tip_124 : decode cX9_tip 124 = .ok (.goto (-85), 3) := by decide +kernel
theorem dX9_tip_127 : decode cX9_tip 127 = .ok (.iinc 2 1, 3) := by decide +kernel
theorem dX9_tip_130 : decode cX9_tip 130 = .ok (.goto (-104), 3) := by decide +kernel
theorem dX9_tip_133 : decode cX9_tip 133 = .ok (.bipush (-5), 2) := by decide +kernel
theorem dX9_tip_135 : decode cX9_tip 135 = .ok (.ireturn, 1) := by decide +kernel
theorem dX9_law_0 : decode cX9_law 0 = .ok (.iload_n 1, 1) := by decide +kernel
theorem dX9_law_1 : decode cX9_law 1 = .ok (.iconst 0, 1) := by decide +kernel
theorem dX9_law_2 : decode cX9_law 2 = .ok (.iconst 2, 1) := by decide +kernel
theorem dX9_law_3 : decode cX9_law 3 = .ok (.invokestatic 84, 3) := by decide +kernel
theorem dX9_law_6 : decode cX9_law 6 = .ok (.ifCond .eq 11, 3) := by decide +kernel
theorem dX9_law_9 : decode cX9_law 9 = .ok (.aload_n 0, 1) := by decide +kernel
theorem dX9_law_10 : decode cX9_law 10 = .ok (.iload_n 2, 1) := by decide +kernel
theorem dX9_law_11 : decode cX9_law 11 = .ok (.invokevirtual 96, 3) := by decide +kernel
theorem dX9_law_14 : decode cX9_law 14 = .ok (.ifCond .ne 5, 3) := by decide +kernel
theorem dX9_law_17 : decode cX9_law 17 = .ok (.iconst (-1), 1) := by decide +kernel
theorem dX9_law_18 : decode cX9_law 18 = .ok (.ireturn, 1) := by decide +kernel
theorem dX9_law_19 : decode cX9_law 19 = .ok (.iload_n 1, 1) := by decide +kernel
theorem dX9_law_20 : decode cX9_law 20 = .ok (.ifCond .ne 8, 3) := by decide +kernel
theorem dX9_law_23 : decode cX9_law 23 = .ok (.bipush 99, 2) := by decide +kernel
theorem dX9_law_25 : decode cX9_law 25 = .ok (.goto 6, 3) := by decide +kernel
theorem dX9_law_28 : decode cX9_law 28 = .ok (.sipush 999, 3) := by decide +kernel
theorem dX9_law_31 : decode cX9_law 31 = .ok (.istore 5, 2) := by decide +kernel
theorem dX9_law_33 : decode cX9_law 33 = .ok (.iload_n 3, 1) := by decide +kernel
theorem dX9_law_34 : decode cX9_law 34 = .ok (.iconst 0, 1) := by decide +kernel
theorem dX9_law_35 : decode cX9_law 35 = .ok (.iload 5, 2) := by decide +kernel
theorem dX9_law_37 : decode cX9_law 37 = .ok (.invokestatic 84, 3) := by decide +kernel
theorem dX9_law_40 : decode cX9_law 40 = .ok (.ifCond .eq 14, 3) := by decide +kernel
theorem dX9_law_43 : decode cX9_law 43 = .ok (.iload 4, 2) := by decide +kernel
theorem dX9_law_45 : decode cX9_law 45 = .ok (.iconst 0, 1) := by decide +kernel
theorem dX9_law_46 : decode cX9_law 46 = .ok (.bipush 99, 2) := by decide +kernel
theorem dX9_law_48 : decode cX9_law 48 = .ok (.invokestatic 84, 3) := by decide +kernel
theorem dX9_law_51 : decode cX9_law 51 = .ok (.ifCond .ne 6, 3) := by decide +kernel
theorem dX9_law_54 : decode cX9_law 54 = .ok (.bipush (-2), 2) := by decide +kernel
theorem dX9_law_56 : decode cX9_law 56 = .ok (.ireturn, 1) := by decide +kernel
theorem dX9_law_57 : decode cX9_law 57 = .ok (.aload_n 0, 1) := by decide +kernel
theorem dX9_law_58 : decode cX9_law 58 = .ok (.getfield 253, 3) := by decide +kernel
theorem dX9_law_61 : decode cX9_law 61 = .ok (.iconst 4, 1) := by decide +kernel
theorem dX9_law_62 : decode cX9_law 62 = .ok (.if_icmp .lt 6, 3) := by decide +kernel
theorem dX9_law_65 : decode cX9_law 65 = .ok (.bipush (-4), 2) := by decide +kernel
theorem dX9_law_67 : decode cX9_law 67 = .ok (.ireturn, 1) := by decide +kernel
theorem dX9_law_68 : decode cX9_law 68 = .ok (.aload_n 0, 1) := by decide +kernel
theorem dX9_law_69 : decode cX9_law 69 = .ok (.getfield 73, 3) := by decide +kernel
theorem dX9_law_72 : decode cX9_law 72 = .ok (.aload_n 0, 1) := by decide +kernel
theorem dX9_law_73 : decode cX9_law 73 = .ok (.getfield 253, 3) := by decide +kernel
theorem dX9_law_76 : decode cX9_law 76 = .ok (.new 71, 3) := by decide +kernel
theorem dX9_law_79 : decode cX9_law 79 = .ok (.dup, 1) := by decide +kernel
theorem dX9_law_80 : decode cX9_law 80 = .ok (.iload_n 1, 1) := by decide +kernel
theorem dX9_law_81 : decode cX9_law 81 = .ok (.iload_n 2, 1) := by decide +kernel
theorem dX9_law_82 : decode cX9_law 82 = .ok (.iload_n 3, 1) := by decide +kernel
theorem dX9_law_83 : decode cX9_law 83 = .ok (.iload 4, 2) := by decide +kernel
theorem dX9_law_85 : decode cX9_law 85 = .ok (.invokespecial 256, 3) := by decide +kernel
theorem dX9_law_88 : decode cX9_law 88 = .ok (.aastore, 1) := by decide +kernel
theorem dX9_law_89 : decode cX9_law 89 = .ok (.aload_n 0, 1) := by decide +kernel
theorem dX9_law_90 : decode cX9_law 90 = .ok (.dup, 1) := by decide +kernel
theorem dX9_law_91 : decode cX9_law 91 = .ok (.getfield 253, 3) := by decide +kernel
theorem dX9_law_94 : decode cX9_law 94 = .ok (.dup_x1, 1) := by decide +kernel
theorem dX9_law_95 : decode cX9_law 95 = .ok (.iconst 1, 1) := by decide +kernel
theorem dX9_law_96 : decode cX9_law 96 = .ok (.iadd, 1) := by decide +kernel
theorem dX9_law_97 : decode cX9_law 97 = .ok (.putfield 253, 3) := by decide +kernel
theorem dX9_law_100 : decode cX9_law 100 = .ok (.ireturn, 1) := by decide +kernel
theorem dX9_mend_0 : decode cX9_mend 0 = .ok (.iload_n 1, 1) := by decide +kernel
theorem dX9_mend_1 : decode cX9_mend 1 = .ok (.iconst 0, 1) := by decide +kernel
theorem dX9_mend_2 : decode cX9_mend 2 = .ok (.sipush 999, 3) := by decide +kernel
theorem dX9_mend_5 : decode cX9_mend 5 = .ok (.invokestatic 84, 3) := by decide +kernel
theorem dX9_mend_8 : decode cX9_mend 8 = .ok (.ifCond .ne 6, 3) := by decide +kernel
theorem dX9_mend_11 : decode cX9_mend 11 = .ok (.bipush (-2), 2) := by decide +kernel
theorem dX9_mend_13 : decode cX9_mend 13 = .ok (.ireturn, 1) := by decide +kernel
theorem dX9_mend_14 : decode cX9_mend 14 = .ok (.iconst 0, 1) := by decide +kernel
theorem dX9_mend_15 : decode cX9_mend 15 = .ok (.istore_n 3, 1) := by decide +kernel
theorem dX9_mend_16 : decode cX9_mend 16 = .ok (.iconst 0, 1) := by decide +kernel
theorem dX9_mend_17 : decode cX9_mend 17 = .ok (.istore 4, 2) := by decide +kernel
theorem dX9_mend_19 : decode cX9_mend 19 = .ok (.ldc2_w 126, 3) := by decide +kernel
theorem dX9_mend_22 : decode cX9_mend 22 = .ok (.lstore 5, 2) := by decide +kernel
theorem dX9_mend_24 : decode cX9_mend 24 = .ok (.iconst 0, 1) := by decide +kernel
theorem dX9_mend_25 : decode cX9_mend 25 = .ok (.istore 7, 2) := by decide +kernel
theorem dX9_mend_27 : decode cX9_mend 27 = .ok (.iload 7, 2) := by decide +kernel
theorem dX9_mend_29 : decode cX9_mend 29 = .ok (.iconst 1, 1) := by decide +kernel
theorem dX9_mend_30 : decode cX9_mend 30 = .ok (.aload_n 0, 1) := by decide +kernel
theorem dX9_mend_31 : decode cX9_mend 31 = .ok (.getfield 253, 3) := by decide +kernel
theorem dX9_mend_34 : decode cX9_mend 34 = .ok (.ishl, 1) := by decide +kernel
theorem dX9_mend_35 : decode cX9_mend 35 = .ok (.if_icmp .ge 109, 3) := by decide +kernel
theorem dX9_mend_38 : decode cX9_mend 38 = .ok (.aload_n 0, 1) := by decide +kernel
theorem dX9_mend_39 : decode cX9_mend 39 = .ok (.iload 7, 2) := by decide +kernel
theorem dX9_mend_41 : decode cX9_mend 41 = .ok (.invokevirtual 259, 3) := by decide +kernel
theorem dX9_mend_44 : decode cX9_mend 44 = .ok (.istore 8, 2) := by decide +kernel
theorem dX9_mend_46 : decode cX9_mend 46 = .ok (.iload 8, 2) := by decide +kernel
theorem dX9_mend_48 : decode cX9_mend 48 = .ok (.iload_n 1, 1) := by decide +kernel
theorem dX9_mend_49 : decode cX9_mend 49 = .ok (.if_icmp .gt 89, 3) := by decide +kernel
theorem dX9_mend_52 : decode cX9_mend 52 = .ok (.aload_n 0, 1) := by decide +kernel
theorem dX9_mend_53 : decode cX9_mend 53 = .ok (.iload 7, 2) := by decide +kernel
theorem dX9_mend_55 : decode cX9_mend 55 = .ok (.invokevirtual 262, 3) := by decide +kernel
theorem dX9_mend_58 : decode cX9_mend 58 = .ok (.ifCond .eq 6, 3) := by decide +kernel
theorem dX9_mend_61 : decode cX9_mend 61 = .ok (.goto 77, 3) := by decide +kernel
theorem dX9_mend_64 : decode cX9_mend 64 = .ok (.aload_n 0, 1) := by decide +kernel
theorem dX9_mend_65 : decode cX9_mend 65 = .ok (.getfield 27, 3) := by decide +kernel
theorem dX9_mend_68 : decode cX9_mend 68 = .ok (.aload_n 0, 1) := by decide +kernel
theorem dX9_mend_69 : decode cX9_mend 69 = .ok (.getfield 17, 3) := by decide +kernel
theorem dX9_mend_72 : decode cX9_mend 72 = .ok (.invokevirtual 208, 3) := by decide +kernel
theorem dX9_mend_75 : decode cX9_mend 75 = .ok (.aload_n 0, 1) := by decide +kernel
theorem dX9_mend_76 : decode cX9_mend 76 = .ok (.iload 7, 2) := by decide +kernel
theorem dX9_mend_78 : decode cX9_mend 78 = .ok (.invokevirtual 265, 3) := by decide +kernel
theorem dX9_mend_81 : decode cX9_mend 81 = .ok (.aload_n 0, 1) := by decide +kernel
theorem dX9_mend_82 : decode cX9_mend 82 = .ok (.getfield 53, 3) := by decide +kernel
theorem dX9_mend_85 : decode cX9_mend 85 = .ok (.aload_n 0, 1) := by decide +kernel
theorem dX9_mend_86 : decode cX9_mend 86 = .ok (.getfield 27, 3) := by decide +kernel
theorem dX9_mend_89 : decode cX9_mend 89 = .ok (.iload_n 2, 1) := by decide +kernel
theorem dX9_mend_90 : decode cX9_mend 90 = .ok (.invokevirtual 189, 3) := by decide +kernel
theorem dX9_mend_93 : decode cX9_mend 93 = .ok (.pop, 1) := by decide +kernel
theorem dX9_mend_94 : decode cX9_mend 94 = .ok (.aload_n 0, 1) := by decide +kernel
theorem dX9_mend_95 : decode cX9_mend 95 = .ok (.getfield 27, 3) := by decide +kernel
theorem dX9_mend_98 : decode cX9_mend 98 = .ok (.invokevirtual 269, 3) := by decide +kernel
theorem dX9_mend_101 : decode cX9_mend 101 = .ok (.i2l, 1) := by decide +kernel
theorem dX9_mend_102 : decode cX9_mend 102 = .ok (.lstore 9, 2) := by decide +kernel
theorem dX9_mend_104 : decode cX9_mend 104 = .ok (.lload 9, 2) := by decide +kernel
theorem dX9_mend_106 : decode cX9_mend 106 = .ok (.lload 5, 2) := by decide +kernel
theorem dX9_mend_108 : decode cX9_mend 108 = .ok (.lcmp, 1) := by decide +kernel
theorem dX9_mend_109 : decode cX9_mend 109 = .ok (.ifCond .gt 18, 3) := by decide +kernel
theorem dX9_mend_112 : decode cX9_mend 112 = .ok (.lload 9, 2) := by decide +kernel
theorem dX9_mend_114 : decode cX9_mend 114 = .ok (.lload 5, 2) := by decide +kernel
theorem dX9_mend_116 : decode cX9_mend 116 = .ok (.lcmp, 1) := by decide +kernel
theorem dX9_mend_117 : decode cX9_mend 117 = .ok (.ifCond .ne 21, 3) := by decide +kernel
theorem dX9_mend_120 : decode cX9_mend 120 = .ok (.iload 8, 2) := by decide +kernel
theorem dX9_mend_122 : decode cX9_mend 122 = .ok (.iload 4, 2) := by decide +kernel
theorem dX9_mend_124 : decode cX9_mend 124 = .ok (.if_icmp .ge 14, 3) := by decide +kernel
theorem dX9_mend_127 : decode cX9_mend 127 = .ok (.iload 7, 2) := by decide +kernel
theorem dX9_mend_129 : decode cX9_mend 129 = .ok (.istore_n 3, 1) := by decide +kernel
theorem dX9_mend_130 : decode cX9_mend 130 = .ok (.iload 8, 2) := by decide +kernel
theorem dX9_mend_132 : decode cX9_mend 132 = .ok (.istore 4, 2) := by decide +kernel
theorem dX9_mend_134 : decode cX9_mend 134 = .ok (.lload 9, 2) := by decide +kernel
theorem dX9_mend_136 : decode cX9_mend 136 = .ok (.lstore 5, 2) := by decide +kernel
theorem dX9_mend_138 : decode cX9_mend 138 = .ok (.iinc 7 1, 3) := by decide +kernel
theorem dX9_mend_141 : decode cX9_mend 141 = .ok (.goto (-114), 3) := by decide +kernel
theorem dX9_mend_144 : decode cX9_mend 144 = .ok (.iload_n 3, 1) := by decide +kernel
theorem dX9_mend_145 : decode cX9_mend 145 = .ok (.ireturn, 1) := by decide +kernel
theorem dX9_edge_0 : decode cX9_edge 0 = .ok (.iload_n 1, 1) := by decide +kernel
theorem dX9_edge_1 : decode cX9_edge 1 = .ok (.iconst 0, 1) := by decide +kernel
theorem dX9_edge_2 : decode cX9_edge 2 = .ok (.iconst 3, 1) := by decide +kernel
theorem dX9_edge_3 : decode cX9_edge 3 = .ok (.invokestatic 84, 3) := by decide +kernel
theorem dX9_edge_6 : decode cX9_edge 6 = .ok (.ifCond .eq 19, 3) := by decide +kernel
theorem dX9_edge_9 : decode cX9_edge 9 = .ok (.iload_n 2, 1) := by decide +kernel
theorem dX9_edge_10 : decode cX9_edge 10 = .ok (.iconst 0, 1) := by decide +kernel
theorem dX9_edge_11 : decode cX9_edge 11 = .ok (.iconst 2, 1) := by decide +kernel
theorem dX9_edge_12 : decode cX9_edge 12 = .ok (.invokestatic 84, 3) := by decide +kernel
theorem dX9_edge_15 : decode cX9_edge 15 = .ok (.ifCond .eq 10, 3) := by decide +kernel
theorem dX9_edge_18 : decode cX9_edge 18 = .ok (.iload_n 3, 1) := by decide +kernel
theorem dX9_edge_19 : decode cX9_edge 19 = .ok (.invokestatic 174, 3) := by decide +kernel
theorem dX9_edge_22 : decode cX9_edge 22 = .ok (.ifCond .ne 5, 3) := by decide +kernel
theorem dX9_edge_25 : decode cX9_edge 25 = .ok (.iconst (-1), 1) := by decide +kernel
theorem dX9_edge_26 : decode cX9_edge 26 = .ok (.ireturn, 1) := by decide +kernel
theorem dX9_edge_27 : decode cX9_edge 27 = .ok (.aload_n 0, 1) := by decide +kernel
theorem dX9_edge_28 : decode cX9_edge 28 = .ok (.getfield 46, 3) := by decide +kernel
theorem dX9_edge_31 : decode cX9_edge 31 = .ok (.aload_n 0, 1) := by decide +kernel
theorem dX9_edge_32 : decode cX9_edge 32 = .ok (.getfield 17, 3) := by decide +kernel
theorem dX9_edge_35 : decode cX9_edge 35 = .ok (.iload_n 3, 1) := by decide +kernel
theorem dX9_edge_36 : decode cX9_edge 36 = .ok (.invokevirtual 177, 3) := by decide +kernel
theorem dX9_edge_39 : decode cX9_edge 39 = .ok (.bipush (-5), 2) := by decide +kernel
theorem dX9_edge_41 : decode cX9_edge 41 = .ok (.if_icmp .eq 5, 3) := by decide +kernel
theorem dX9_edge_44 : decode cX9_edge 44 = .ok (.iconst 0, 1) := by decide +kernel
theorem dX9_edge_45 : decode cX9_edge 45 = .ok (.ireturn, 1) := by decide +kernel
theorem dX9_edge_46 : decode cX9_edge 46 = .ok (.aload_n 0, 1) := by decide +kernel
theorem dX9_edge_47 : decode cX9_edge 47 = .ok (.getfield 17, 3) := by decide +kernel
theorem dX9_edge_50 : decode cX9_edge 50 = .ok (.getfield 23, 3) := by decide +kernel
theorem dX9_edge_53 : decode cX9_edge 53 = .ok (.getfield 272, 3) := by decide +kernel
theorem dX9_edge_56 : decode cX9_edge 56 = .ok (.astore 4, 2) := by decide +kernel
theorem dX9_edge_58 : decode cX9_edge 58 = .ok (.iload_n 1, 1) := by decide +kernel
theorem dX9_edge_59 : decode cX9_edge 59 = .ok (.iconst 3, 1) := by decide +kernel
theorem dX9_edge_60 : decode cX9_edge 60 = .ok (.imul, 1) := by decide +kernel
theorem dX9_edge_61 : decode cX9_edge 61 = .ok (.iload_n 2, 1) := by decide +kernel
theorem dX9_edge_62 : decode cX9_edge 62 = .ok (.iadd, 1) := by decide +kernel
theorem dX9_edge_63 : decode cX9_edge 63 = .ok (.istore 5, 2) := by decide +kernel
theorem dX9_edge_65 : decode cX9_edge 65 = .ok (.aload 4, 2) := by decide +kernel
theorem dX9_edge_67 : decode cX9_edge 67 = .ok (.iload 5, 2) := by decide +kernel
theorem dX9_edge_69 : decode cX9_edge 69 = .ok (.iaload, 1) := by decide +kernel
theorem dX9_edge_70 : decode cX9_edge 70 = .ok (.istore 6, 2) := by decide +kernel
theorem dX9_edge_72 : decode cX9_edge 72 = .ok (.bipush (-100), 2) := by decide +kernel
theorem dX9_edge_74 : decode cX9_edge 74 = .ok (.istore 7, 2) := by decide +kernel
theorem dX9_edge_76 : decode cX9_edge 76 = .ok (.iconst 1, 1) := by decide +kernel
theorem dX9_edge_77 : decode cX9_edge 77 = .ok (.istore 8, 2) := by decide +kernel
theorem dX9_edge_79 : decode cX9_edge 79 = .ok (.iload 8, 2) := by decide +kernel
theorem dX9_edge_81 : decode cX9_edge 81 = .ok (.bipush 20, 2) := by decide +kernel
theorem dX9_edge_83 : decode cX9_edge 83 = .ok (.if_icmp .gt 78, 3) := by decide +kernel
theorem dX9_edge_86 : decode cX9_edge 86 = .ok (.iload 7, 2) := by decide +kernel
theorem dX9_edge_88 : decode cX9_edge 88 = .ok (.bipush (-100), 2) := by decide +kernel
theorem dX9_edge_90 : decode cX9_edge 90 = .ok (.if_icmp .ne 71, 3) := by decide +kernel
theorem dX9_edge_93 : decode cX9_edge 93 = .ok (.iload 8, 2) := by decide +kernel
theorem dX9_edge_95 : decode cX9_edge 95 = .ok (.ineg, 1) := by decide +kernel
theorem dX9_edge_96 : decode cX9_edge 96 = .ok (.istore 9, 2) := by decide +kernel
theorem dX9_edge_98 : decode cX9_edge 98 = .ok (.iload 9, 2) := by decide +kernel
theorem dX9_edge_100 : decode cX9_edge 100 = .ok (.iload 8, 2) := by decide +kernel
theorem dX9_edge_102 : decode cX9_edge 102 = .ok (.if_icmp .gt 53, 3) := by decide +kernel
theorem dX9_edge_105 : decode cX9_edge 105 = .ok (.iload 7, 2) := by decide +kernel
theorem dX9_edge_107 : decode cX9_edge 107 = .ok (.bipush (-100), 2) := by decide +kernel
theorem dX9_edge_109 : decode cX9_edge 109 = .ok (.if_icmp .ne 46, 3) := by decide +kernel
theorem dX9_edge_112 : decode cX9_edge 112 = .ok (.aload 4, 2) := by decide +kernel
theorem dX9_edge_114 : decode cX9_edge 114 = .ok (.iload 5, 2) := by decide +kernel
theorem dX9_edge_116 : decode cX9_edge 116 = .ok (.iload 6, 2) := by decide +kernel
theorem dX9_edge_118 : decode cX9_edge 118 = .ok (.iload 9, 2) := by decide +kernel
theorem dX9_edge_120 : decode cX9_edge 120 = .ok (.iadd, 1) := by decide +kernel
theorem dX9_edge_121 : decode cX9_edge 121 = .ok (.iastore, 1) := by decide +kernel
theorem dX9_edge_122 : decode cX9_edge 122 = .ok (.aload_n 0, 1) := by decide +kernel
theorem dX9_edge_123 : decode cX9_edge 123 = .ok (.getfield 46, 3) := by decide +kernel
theorem dX9_edge_126 : decode cX9_edge 126 = .ok (.aload_n 0, 1) := by decide +kernel
theorem dX9_edge_127 : decode cX9_edge 127 = .ok (.getfield 17, 3) := by decide +kernel
theorem dX9_edge_130 : decode cX9_edge 130 = .ok (.iload_n 3, 1) := by decide +kernel
theorem dX9_edge_131 : decode cX9_edge 131 = .ok (.invokevirtual 177, 3) := by decide +kernel
theorem dX9_edge_134 : decode cX9_edge 134 = .ok (.bipush (-5), 2) := by decide +kernel
theorem dX9_edge_136 : decode cX9_edge 136 = .ok (.if_icmp .eq 7, 3) := by decide +kernel
theorem dX9_edge_139 : decode cX9_edge 139 = .ok (.iload 9, 2) := by decide +kernel
theorem dX9_edge_141 : decode cX9_edge 141 = .ok (.istore 7, 2) := by decide +kernel
theorem dX9_edge_143 : decode cX9_edge 143 = .ok (.iload 9, 2) := by decide +kernel
theorem dX9_edge_145 : decode cX9_edge 145 = .ok (.iconst 2, 1) := by decide +kernel
theorem dX9_edge_146 : decode cX9_edge 146 = .ok (.iload 8, 2) := by decide +kernel
theorem dX9_edge_148 : decode cX9_edge 148 = .ok (.imul, 1) := by decide +kernel
theorem dX9_edge_149 : decode cX9_edge 149 = .ok (.iadd, 1) := by decide +kernel
theorem dX9_edge_150 : decode cX9_edge 150 = .ok (.istore 9, 2) := by decide +kernel
theorem dX9_edge_152 : decode cX9_edge 152 = .ok (.goto (-54), 3) := by decide +kernel
theorem dX9_edge_155 : decode cX9_edge 155 = .ok (.iinc 8 1, 3) := by decide +kernel
theorem dX9_edge_158 : decode cX9_edge 158 = .ok (.goto (-79), 3) := by decide +kernel
theorem dX9_edge_161 : decode cX9_edge 161 = .ok (.aload 4, 2) := by decide +kernel
theorem dX9_edge_163 : decode cX9_edge 163 = .ok (.iload 5, 2) := by decide +kernel
theorem dX9_edge_165 : decode cX9_edge 165 = .ok (.iload 6, 2) := by decide +kernel
theorem dX9_edge_167 : decode cX9_edge 167 = .ok (.iastore, 1) := by decide +kernel
theorem dX9_edge_168 : decode cX9_edge 168 = .ok (.iload 7, 2) := by decide +kernel
theorem dX9_edge_170 : decode cX9_edge 170 = .ok (.ireturn, 1) := by decide +kernel
theorem dX9_year_0 : decode cX9_year 0 = .ok (.iload_n 1, 1) := by decide +kernel
theorem dX9_year_1 : decode cX9_year 1 = .ok (.iconst 0, 1) := by decide +kernel
theorem dX9_year_2 : decode cX9_year 2 = .ok (.sipush 999, 3) := by decide +kernel
theorem dX9_year_5 : decode cX9_year 5 = .ok (.invokestatic 84, 3) := by decide +kernel
theorem dX9_year_8 : decode cX9_year 8 = .ok (.ifCond .ne 6, 3) := by decide +kernel
theorem dX9_year_11 : decode cX9_year 11 = .ok (.bipush (-2), 2) := by decide +kernel
theorem dX9_year_13 : decode cX9_year 13 = .ok (.ireturn, 1) := by decide +kernel
theorem dX9_year_14 : decode cX9_year 14 = .ok (.aload_n 0, 1) := by decide +kernel
theorem dX9_year_15 : decode cX9_year 15 = .ok (.getfield 275, 3) := by decide +kernel
theorem dX9_year_18 : decode cX9_year 18 = .ok (.bipush 99, 2) := by decide +kernel
theorem dX9_year_20 : decode cX9_year 20 = .ok (.if_icmp .lt 6, 3) := by decide +kernel
theorem dX9_year_23 : decode cX9_year 23 = .ok (.bipush (-3), 2) := by decide +kernel
theorem dX9_year_25 : decode cX9_year 25 = .ok (.ireturn, 1) := by decide +kernel
theorem dX9_year_26 : decode cX9_year 26 = .ok (.iconst 0, 1) := by decide +kernel
theorem dX9_year_27 : decode cX9_year 27 = .ok (.istore_n 2, 1) := by decide +kernel
theorem dX9_year_28 : decode cX9_year 28 = .ok (.iload_n 2, 1) := by decide +kernel
theorem dX9_year_29 : decode cX9_year 29 = .ok (.aload_n 0, 1) := by decide +kernel
theorem dX9_year_30 : decode cX9_year 30 = .ok (.getfield 17, 3) := by decide +kernel
theorem dX9_year_33 : decode cX9_year 33 = .ok (.getfield 202, 3) := by decide +kernel
theorem dX9_year_36 : decode cX9_year 36 = .ok (.if_icmp .ge 57, 3) := by decide +kernel
theorem dX9_year_39 : decode cX9_year 39 = .ok (.aload_n 0, 1) := by decide +kernel
theorem dX9_year_40 : decode cX9_year 40 = .ok (.getfield 17, 3) := by decide +kernel
theorem dX9_year_43 : decode cX9_year 43 = .ok (.getfield 134, 3) := by decide +kernel
theorem dX9_year_46 : decode cX9_year 46 = .ok (.iload_n 2, 1) := by decide +kernel
theorem dX9_year_47 : decode cX9_year 47 = .ok (.iaload, 1) := by decide +kernel
theorem dX9_year_48 : decode cX9_year 48 = .ok (.bipush 13, 2) := by decide +kernel
theorem dX9_year_50 : decode cX9_year 50 = .ok (.iload_n 2, 1) := by decide +kernel
theorem dX9_year_51 : decode cX9_year 51 = .ok (.imul, 1) := by decide +kernel
theorem dX9_year_52 : decode cX9_year 52 = .ok (.bipush 7, 2) := by decide +kernel
theorem dX9_year_54 : decode cX9_year 54 = .ok (.aload_n 0, 1) := by decide +kernel
theorem dX9_year_55 : decode cX9_year 55 = .ok (.getfield 275, 3) := by decide +kernel
theorem dX9_year_58 : decode cX9_year 58 = .ok (.imul, 1) := by decide +kernel
theorem dX9_year_59 : decode cX9_year 59 = .ok (.iadd, 1) := by decide +kernel
theorem dX9_year_60 : decode cX9_year 60 = .ok (.iload_n 1, 1) := by decide +kernel
theorem dX9_year_61 : decode cX9_year 61 = .ok (.iadd, 1) := by decide +kernel
theorem dX9_year_62 : decode cX9_year 62 = .ok (.iconst 5, 1) := by decide +kernel
theorem dX9_year_63 : decode cX9_year 63 = .ok (.irem, 1) := by decide +kernel
theorem dX9_year_64 : decode cX9_year 64 = .ok (.iadd, 1) := by decide +kernel
theorem dX9_year_65 : decode cX9_year 65 = .ok (.iconst 2, 1) := by decide +kernel
theorem dX9_year_66 : decode cX9_year 66 = .ok (.isub, 1) := by decide +kernel
theorem dX9_year_67 : decode cX9_year 67 = .ok (.istore_n 3, 1) := by decide +kernel
theorem dX9_year_68 : decode cX9_year 68 = .ok (.aload_n 0, 1) := by decide +kernel
theorem dX9_year_69 : decode cX9_year 69 = .ok (.getfield 17, 3) := by decide +kernel
theorem dX9_year_72 : decode cX9_year 72 = .ok (.getfield 134, 3) := by decide +kernel
theorem dX9_year_75 : decode cX9_year 75 = .ok (.iload_n 2, 1) := by decide +kernel
theorem dX9_year_76 : decode cX9_year 76 = .ok (.iconst 1, 1) := by decide +kernel
theorem dX9_year_77 : decode cX9_year 77 = .ok (.bipush 99, 2) := by decide +kernel
theorem dX9_year_79 : decode cX9_year 79 = .ok (.iload_n 3, 1) := by decide +kernel
theorem dX9_year_80 : decode cX9_year 80 = .ok (.invokestatic 278, 3) := by decide +kernel
theorem dX9_year_83 : decode cX9_year 83 = .ok (.invokestatic 283, 3) := by decide +kernel
theorem dX9_year_86 : decode cX9_year 86 = .ok (.iastore, 1) := by decide +kernel
theorem dX9_year_87 : decode cX9_year 87 = .ok (.iinc 2 1, 3) := by decide +kernel
theorem dX9_year_90 : decode cX9_year 90 = .ok (.goto (-62), 3) := by decide +kernel
theorem dX9_year_93 : decode cX9_year 93 = .ok (.aload_n 0, 1) := by decide +kernel
theorem dX9_year_94 : decode cX9_year 94 = .ok (.dup, 1) := by decide +kernel
theorem dX9_year_95 : decode cX9_year 95 = .ok (.getfield 275, 3) := by decide +kernel
theorem dX9_year_98 : decode cX9_year 98 = .ok (.iconst 1, 1) := by decide +kernel
theorem dX9_year_99 : decode cX9_year 99 = .ok (.iadd, 1) := by decide +kernel
theorem dX9_year_100 : decode cX9_year 100 = .ok (.putfield 275, 3) := by decide +kernel
theorem dX9_year_103 : decode cX9_year 103 = .ok (.aload_n 0, 1) := by decide +kernel
theorem dX9_year_104 : decode cX9_year 104 = .ok (.invokevirtual 286, 3) := by decide +kernel
theorem dX9_year_107 : decode cX9_year 107 = .ok (.ireturn, 1) := by decide +kernel
theorem dX9_act_0 : decode cX9_act 0 = .ok (.aload_n 0, 1) := by decide +kernel
theorem dX9_act_1 : decode cX9_act 1 = .ok (.getfield 67, 3) := by decide +kernel
theorem dX9_act_4 : decode cX9_act 4 = .ok (.aload_n 0, 1) := by decide +kernel
theorem dX9_act_5 : decode cX9_act 5 = .ok (.getfield 17, 3) := by decide +kernel
theorem dX9_act_8 : decode cX9_act 8 = .ok (.getfield 202, 3) := by decide +kernel
theorem dX9_act_11 : decode cX9_act 11 = .ok (.aload_n 0, 1) := by decide +kernel
theorem dX9_act_12 : decode cX9_act 12 = .ok (.getfield 17, 3) := by decide +kernel
theorem dX9_act_15 : decode cX9_act 15 = .ok (.getfield 88, 3) := by decide +kernel
theorem dX9_act_18 : decode cX9_act 18 = .ok (.invokevirtual 289, 3) := by decide +kernel
theorem dX9_act_21 : decode cX9_act 21 = .ok (.iload_n 1, 1) := by decide +kernel
theorem dX9_act_22 : decode cX9_act 22 = .ok (.iconst 0, 1) := by decide +kernel
theorem dX9_act_23 : decode cX9_act 23 = .ok (.iconst 5, 1) := by decide +kernel
theorem dX9_act_24 : decode cX9_act 24 = .ok (.invokestatic 84, 3) := by decide +kernel
theorem dX9_act_27 : decode cX9_act 27 = .ok (.ifCond .eq 12, 3) := by decide +kernel
theorem dX9_act_30 : decode cX9_act 30 = .ok (.iload_n 2, 1) := by decide +kernel
theorem dX9_act_31 : decode cX9_act 31 = .ok (.iconst 0, 1) := by decide +kernel
theorem dX9_act_32 : decode cX9_act 32 = .ok (.iconst 2, 1) := by decide +kernel
theorem dX9_act_33 : decode cX9_act 33 = .ok (.invokestatic 84, 3) := by decide +kernel
theorem dX9_act_36 : decode cX9_act 36 = .ok (.ifCond .ne 5, 3) := by decide +kernel
theorem dX9_act_39 : decode cX9_act 39 = .ok (.iconst 0, 1) := by decide +kernel
theorem dX9_act_40 : decode cX9_act 40 = .ok (.ireturn, 1) := by decide +kernel
theorem dX9_act_41 : decode cX9_act 41 = .ok (.aload_n 0, 1) := by decide +kernel
theorem dX9_act_42 : decode cX9_act 42 = .ok (.getfield 67, 3) := by decide +kernel
theorem dX9_act_45 : decode cX9_act 45 = .ok (.iload_n 1, 1) := by decide +kernel
theorem dX9_act_46 : decode cX9_act 46 = .ok (.iload_n 2, 1) := by decide +kernel
theorem dX9_act_47 : decode cX9_act 47 = .ok (.iload_n 3, 1) := by decide +kernel
theorem dX9_act_48 : decode cX9_act 48 = .ok (.invokevirtual 293, 3) := by decide +kernel
theorem dX9_act_51 : decode cX9_act 51 = .ok (.ireturn, 1) := by decide +kernel
theorem dX9_trace_0 : decode cX9_trace 0 = .ok (.iload_n 1, 1) := by decide +kernel
theorem dX9_trace_1 : decode cX9_trace 1 = .ok (.ifCond .lt 32, 3) := by decide +kernel
theorem dX9_trace_4 : decode cX9_trace 4 = .ok (.iload_n 1, 1) := by decide +kernel
theorem dX9_trace_5 : decode cX9_trace 5 = .ok (.bipush 20, 2) := by decide +kernel
theorem dX9_trace_7 : decode cX9_trace 7 = .ok (.if_icmp .ge 26, 3) := by decide +kernel
theorem dX9_trace_10 : decode cX9_trace 10 = .ok (.iload_n 1, 1) := by decide +kernel
theorem dX9_trace_11 : decode cX9_trace 11 = .ok (.aload_n 0, 1) := by decide +kernel
theorem dX9_trace_12 : decode cX9_trace 12 = .ok (.getfield 67, 3) := by decide +kernel
theorem dX9_trace_15 : decode cX9_trace 15 = .ok (.getfield 296, 3) := by decide +kernel
theorem dX9_trace_18 : decode cX9_trace 18 = .ok (.if_icmp .ge 15, 3) := by decide +kernel
theorem dX9_trace_21 : decode cX9_trace 21 = .ok (.aload_n 0, 1) := by decide +kernel
theorem dX9_trace_22 : decode cX9_trace 22 = .ok (.getfield 67, 3) := by decide +kernel
theorem dX9_trace_25 : decode cX9_trace 25 = .ok (.getfield 299, 3) := by decide +kernel
theorem dX9_trace_28 : decode cX9_trace 28 = .ok (.iload_n 1, 1) := by decide +kernel
theorem dX9_trace_29 : decode cX9_trace 29 = .ok (.iaload, 1) := by decide +kernel
theorem dX9_trace_30 : decode cX9_trace 30 = .ok (.goto 4, 3) := by decide +kernel
theorem dX9_trace_33 : decode cX9_trace 33 = .ok (.iconst (-1), 1) := by decide +kernel
theorem dX9_trace_34 : decode cX9_trace 34 = .ok (.ireturn, 1) := by decide +kernel
theorem dX9_taken_0 : decode cX9_taken 0 = .ok (.iload_n 2, 1) := by decide +kernel
theorem dX9_taken_1 : decode cX9_taken 1 = .ok (.iconst 0, 1) := by decide +kernel
theorem dX9_taken_2 : decode cX9_taken 2 = .ok (.iconst 5, 1) := by decide +kernel
theorem dX9_taken_3 : decode cX9_taken 3 = .ok (.invokestatic 84, 3) := by decide +kernel
theorem dX9_taken_6 : decode cX9_taken 6 = .ok (.ifCond .ne 6, 3) := by decide +kernel
theorem dX9_taken_9 : decode cX9_taken 9 = .ok (.bipush (-2), 2) := by decide +kernel
theorem dX9_taken_11 : decode cX9_taken 11 = .ok (.ireturn, 1) := by decide +kernel
theorem dX9_taken_12 : decode cX9_taken 12 = .ok (.iload_n 1, 1) := by decide +kernel
theorem dX9_taken_13 : decode cX9_taken 13 = .ok (.iconst 0, 1) := by decide +kernel
theorem dX9_taken_14 : decode cX9_taken 14 = .ok (.iconst 5, 1) := by decide +kernel
theorem dX9_taken_15 : decode cX9_taken 15 = .ok (.invokestatic 84, 3) := by decide +kernel
theorem dX9_taken_18 : decode cX9_taken 18 = .ok (.ifCond .ne 6, 3) := by decide +kernel
theorem dX9_taken_21 : decode cX9_taken 21 = .ok (.bipush (-11), 2) := by decide +kernel
theorem dX9_taken_23 : decode cX9_taken 23 = .ok (.ireturn, 1) := by decide +kernel
theorem dX9_taken_24 : decode cX9_taken 24 = .ok (.iload_n 1, 1) := by decide +kernel
theorem dX9_taken_25 : decode cX9_taken 25 = .ok (.iload_n 2, 1) := by decide +kernel
theorem dX9_taken_26 : decode cX9_taken 26 = .ok (.invokestatic 302, 3) := by decide +kernel
theorem dX9_taken_29 : decode cX9_taken 29 = .ok (.ifCond .eq 7, 3) := by decide +kernel
theorem dX9_taken_32 : decode cX9_taken 32 = .ok (.iload_n 1, 1) := by decide +kernel
theorem dX9_taken_33 : decode cX9_taken 33 = .ok (.goto 5, 3) := by decide +kernel
theorem dX9_taken_36 : decode cX9_taken 36 = .ok (.bipush (-12), 2) := by decide +kernel
theorem dX9_taken_38 : decode cX9_taken 38 = .ok (.ireturn, 1) := by decide +kernel
theorem dX9_count_0 : decode cX9_count 0 = .ok (.iload_n 1, 1) := by decide +kernel
theorem dX9_count_1 : decode cX9_count 1 = .ok (.tableswitch 90 0 6 #[43, 51, 59, 64, 72, 77, 82], 43) := by decide +kernel
theorem dX9_count_44 : decode cX9_count 44 = .ok (.aload_n 0, 1) := by decide +kernel
theorem dX9_count_45 : decode cX9_count 45 = .ok (.getfield 17, 3) := by decide +kernel
theorem dX9_count_48 : decode cX9_count 48 = .ok (.getfield 88, 3) := by decide +kernel
theorem dX9_count_51 : decode cX9_count 51 = .ok (.ireturn, 1) := by decide +kernel
theorem dX9_count_52 : decode cX9_count 52 = .ok (.aload_n 0, 1) := by decide +kernel
theorem dX9_count_53 : decode cX9_count 53 = .ok (.getfield 17, 3) := by decide +kernel
theorem dX9_count_56 : decode cX9_count 56 = .ok (.getfield 202, 3) := by decide +kernel
theorem dX9_count_59 : decode cX9_count 59 = .ok (.ireturn, 1) := by decide +kernel
theorem dX9_count_60 : decode cX9_count 60 = .ok (.aload_n 0, 1) := by decide +kernel
theorem dX9_count_61 : decode cX9_count 61 = .ok (.getfield 165, 3) := by decide +kernel
theorem dX9_count_64 : decode cX9_count 64 = .ok (.ireturn, 1) := by decide +kernel
theorem dX9_count_65 : decode cX9_count 65 = .ok (.aload_n 0, 1) := by decide +kernel
theorem dX9_count_66 : decode cX9_count 66 = .ok (.getfield 39, 3) := by decide +kernel
theorem dX9_count_69 : decode cX9_count 69 = .ok (.getfield 154, 3) := by decide +kernel
theorem dX9_count_72 : decode cX9_count 72 = .ok (.ireturn, 1) := by decide +kernel
theorem dX9_count_73 : decode cX9_count 73 = .ok (.aload_n 0, 1) := by decide +kernel
theorem dX9_count_74 : decode cX9_count 74 = .ok (.getfield 253, 3) := by decide +kernel
theorem dX9_count_77 : decode cX9_count 77 = .ok (.ireturn, 1) := by decide +kernel
theorem dX9_count_78 : decode cX9_count 78 = .ok (.aload_n 0, 1) := by decide +kernel
theorem dX9_count_79 : decode cX9_count 79 = .ok (.getfield 275, 3) := by decide +kernel
theorem dX9_count_82 : decode cX9_count 82 = .ok (.ireturn, 1) := by decide +kernel
theorem dX9_count_83 : decode cX9_count 83 = .ok (.aload_n 0, 1) := by decide +kernel
theorem dX9_count_84 : decode cX9_count 84 = .ok (.getfield 67, 3) := by decide +kernel
theorem dX9_count_87 : decode cX9_count 87 = .ok (.getfield 296, 3) := by decide +kernel
theorem dX9_count_90 : decode cX9_count 90 = .ok (.ireturn, 1) := by decide +kernel
theorem dX9_count_91 : decode cX9_count 91 = .ok (.bipush (-2), 2) := by decide +kernel
theorem dX9_count_93 : decode cX9_count 93 = .ok (.ireturn, 1) := by decide +kernel
theorem dX9_tape_0 : decode cX9_tape 0 = .ok (.iload_n 1, 1) := by decide +kernel
theorem dX9_tape_1 : decode cX9_tape 1 = .ok (.invokestatic 192, 3) := by decide +kernel
theorem dX9_tape_4 : decode cX9_tape 4 = .ok (.ifCond .ne 5, 3) := by decide +kernel
theorem dX9_tape_7 : decode cX9_tape 7 = .ok (.iconst (-1), 1) := by decide +kernel
theorem dX9_tape_8 : decode cX9_tape 8 = .ok (.ireturn, 1) := by decide +kernel
theorem dX9_tape_9 : decode cX9_tape 9 = .ok (.iload_n 2, 1) := by decide +kernel
theorem dX9_tape_10 : decode cX9_tape 10 = .ok (.iconst (-1), 1) := by decide +kernel
theorem dX9_tape_11 : decode cX9_tape 11 = .ok (.iconst 4, 1) := by decide +kernel
theorem dX9_tape_12 : decode cX9_tape 12 = .ok (.invokestatic 84, 3) := by decide +kernel
theorem dX9_tape_15 : decode cX9_tape 15 = .ok (.ifCond .ne 6, 3) := by decide +kernel
theorem dX9_tape_18 : decode cX9_tape 18 = .ok (.bipush (-2), 2) := by decide +kernel
theorem dX9_tape_20 : decode cX9_tape 20 = .ok (.ireturn, 1) := by decide +kernel
theorem dX9_tape_21 : decode cX9_tape 21 = .ok (.iload_n 2, 1) := by decide +kernel
theorem dX9_tape_22 : decode cX9_tape 22 = .ok (.iconst (-1), 1) := by decide +kernel
theorem dX9_tape_23 : decode cX9_tape 23 = .ok (.if_icmp .ne 16, 3) := by decide +kernel
theorem dX9_tape_26 : decode cX9_tape 26 = .ok (.aload_n 0, 1) := by decide +kernel
theorem dX9_tape_27 : decode cX9_tape 27 = .ok (.getfield 79, 3) := by decide +kernel
theorem dX9_tape_30 : decode cX9_tape 30 = .ok (.iload_n 1, 1) := by decide +kernel
theorem dX9_tape_31 : decode cX9_tape 31 = .ok (.aaload, 1) := by decide +kernel
theorem dX9_tape_32 : decode cX9_tape 32 = .ok (.iload_n 2, 1) := by decide +kernel
theorem dX9_tape_33 : decode cX9_tape 33 = .ok (.iconst 0, 1) := by decide +kernel
theorem dX9_tape_34 : decode cX9_tape 34 = .ok (.invokevirtual 305, 3) := by decide +kernel
theorem dX9_tape_37 : decode cX9_tape 37 = .ok (.iconst 1, 1) := by decide +kernel
theorem dX9_tape_38 : decode cX9_tape 38 = .ok (.ireturn, 1) := by decide +kernel
theorem dX9_tape_39 : decode cX9_tape 39 = .ok (.iload_n 3, 1) := by decide +kernel
theorem dX9_tape_40 : decode cX9_tape 40 = .ok (.bipush 60, 2) := by decide +kernel
theorem dX9_tape_42 : decode cX9_tape 42 = .ok (.if_icmp .le 6, 3) := by decide +kernel
theorem dX9_tape_45 : decode cX9_tape 45 = .ok (.bipush (-2), 2) := by decide +kernel
theorem dX9_tape_47 : decode cX9_tape 47 = .ok (.ireturn, 1) := by decide +kernel
theorem dX9_tape_48 : decode cX9_tape 48 = .ok (.iload_n 3, 1) := by decide +kernel
theorem dX9_tape_49 : decode cX9_tape 49 = .ok (.ifCond .ge 6, 3) := by decide +kernel
theorem dX9_tape_52 : decode cX9_tape 52 = .ok (.bipush (-14), 2) := by decide +kernel
theorem dX9_tape_54 : decode cX9_tape 54 = .ok (.ireturn, 1) := by decide +kernel
theorem dX9_tape_55 : decode cX9_tape 55 = .ok (.aload_n 0, 1) := by decide +kernel
theorem dX9_tape_56 : decode cX9_tape 56 = .ok (.getfield 79, 3) := by decide +kernel
theorem dX9_tape_59 : decode cX9_tape 59 = .ok (.iload_n 1, 1) := by decide +kernel
theorem dX9_tape_60 : decode cX9_tape 60 = .ok (.aaload, 1) := by decide +kernel
theorem dX9_tape_61 : decode cX9_tape 61 = .ok (.iload_n 2, 1) := by decide +kernel
theorem dX9_tape_62 : decode cX9_tape 62 = .ok (.iload_n 3, 1) := by decide +kernel
theorem dX9_tape_63 : decode cX9_tape 63 = .ok (.invokevirtual 305, 3) := by decide +kernel
theorem dX9_tape_66 : decode cX9_tape 66 = .ok (.iconst 1, 1) := by decide +kernel
theorem dX9_tape_67 : decode cX9_tape 67 = .ok (.ireturn, 1) := by decide +kernel
theorem dX9_item_0 : decode cX9_item 0 = .ok (.iload_n 1, 1) := by decide +kernel
theorem dX9_item_1 : decode cX9_item 1 = .ok (.invokestatic 192, 3) := by decide +kernel
theorem dX9_item_4 : decode cX9_item 4 = .ok (.ifCond .ne 5, 3) := by decide +kernel
theorem dX9_item_7 : decode cX9_item 7 = .ok (.iconst (-1), 1) := by decide +kernel
theorem dX9_item_8 : decode cX9_item 8 = .ok (.ireturn, 1) := by decide +kernel
theorem dX9_item_9 : decode cX9_item 9 = .ok (.aload_n 0, 1) := by decide +kernel
theorem dX9_item_10 : decode cX9_item 10 = .ok (.getfield 79, 3) := by decide +kernel
theorem dX9_item_13 : decode cX9_item 13 = .ok (.iload_n 1, 1) := by decide +kernel
theorem dX9_item_14 : decode cX9_item 14 = .ok (.aaload, 1) := by decide +kernel
theorem dX9_item_15 : decode cX9_item 15 = .ok (.astore 5, 2) := by decide +kernel
theorem dX9_item_17 : decode cX9_item 17 = .ok (.aload 5, 2) := by decide +kernel
theorem dX9_item_19 : decode cX9_item 19 = .ok (.invokevirtual 195, 3) := by decide +kernel
theorem dX9_item_22 : decode cX9_item 22 = .ok (.ifCond .eq 6, 3) := by decide +kernel
theorem dX9_item_25 : decode cX9_item 25 = .ok (.bipush (-11), 2) := by decide +kernel
theorem dX9_item_27 : decode cX9_item 27 = .ok (.ireturn, 1) := by decide +kernel
theorem dX9_item_28 : decode cX9_item 28 = .ok (.aload 5, 2) := by decide +kernel
theorem dX9_item_30 : decode cX9_item 30 = .ok (.iload_n 2, 1) := by decide +kernel
theorem dX9_item_31 : decode cX9_item 31 = .ok (.iconst 1, 1) := by decide +kernel
theorem dX9_item_32 : decode cX9_item 32 = .ok (.invokevirtual 205, 3) := by decide +kernel
theorem dX9_item_35 : decode cX9_item 35 = .ok (.ifCond .ne 6, 3) := by decide +kernel
theorem dX9_item_38 : decode cX9_item 38 = .ok (.bipush (-13), 2) := by decide +kernel
theorem dX9_item_40 : decode cX9_item 40 = .ok (.ireturn, 1) := by decide +kernel
theorem dX9_item_41 : decode cX9_item 41 = .ok (.aload 5, 2) := by decide +kernel
theorem dX9_item_43 : decode cX9_item 43 = .ok (.getfield 307, 3) := by decide +kernel
theorem dX9_item_46 : decode cX9_item 46 = .ok (.iload_n 2, 1) := by decide +kernel
theorem dX9_item_47 : decode cX9_item 47 = .ok (.aload 5, 2) := by decide +kernel
theorem dX9_item_49 : decode cX9_item 49 = .ok (.lload_n 3, 1) := by decide +kernel
theorem dX9_item_50 : decode cX9_item 50 = .ok (.invokevirtual 311, 3) := by decide +kernel
theorem dX9_item_53 : decode cX9_item 53 = .ok (.lastore, 1) := by decide +kernel
theorem dX9_item_54 : decode cX9_item 54 = .ok (.iconst 1, 1) := by decide +kernel
theorem dX9_item_55 : decode cX9_item 55 = .ok (.ireturn, 1) := by decide +kernel
theorem dX9_read_0 : decode cX9_read 0 = .ok (.iload_n 1, 1) := by decide +kernel
theorem dX9_read_1 : decode cX9_read 1 = .ok (.invokestatic 192, 3) := by decide +kernel
theorem dX9_read_4 : decode cX9_read 4 = .ok (.ifCond .eq 31, 3) := by decide +kernel
theorem dX9_read_7 : decode cX9_read 7 = .ok (.aload_n 0, 1) := by decide +kernel
theorem dX9_read_8 : decode cX9_read 8 = .ok (.getfield 79, 3) := by decide +kernel
theorem dX9_read_11 : decode cX9_read 11 = .ok (.iload_n 1, 1) := by decide +kernel
theorem dX9_read_12 : decode cX9_read 12 = .ok (.aaload, 1) := by decide +kernel
theorem dX9_read_13 : decode cX9_read 13 = .ok (.iload_n 2, 1) := by decide +kernel
theorem dX9_read_14 : decode cX9_read 14 = .ok (.iconst 1, 1) := by decide +kernel
theorem dX9_read_15 : decode cX9_read 15 = .ok (.invokevirtual 205, 3) := by decide +kernel
theorem dX9_read_18 : decode cX9_read 18 = .ok (.ifCond .eq 17, 3) := by decide +kernel
theorem dX9_read_21 : decode cX9_read 21 = .ok (.aload_n 0, 1) := by decide +kernel
theorem dX9_read_22 : decode cX9_read 22 = .ok (.getfield 79, 3) := by decide +kernel
theorem dX9_read_25 : decode cX9_read 25 = .ok (.iload_n 1, 1) := by decide +kernel
theorem dX9_read_26 : decode cX9_read 26 = .ok (.aaload, 1) := by decide +kernel
theorem dX9_read_27 : decode cX9_read 27 = .ok (.getfield 307, 3) := by decide +kernel
theorem dX9_read_30 : decode cX9_read 30 = .ok (.iload_n 2, 1) := by decide +kernel
theorem dX9_read_31 : decode cX9_read 31 = .ok (.laload, 1) := by decide +kernel
theorem dX9_read_32 : decode cX9_read 32 = .ok (.goto 6, 3) := by decide +kernel
theorem dX9_read_35 : decode cX9_read 35 = .ok (.ldc2_w 126, 3) := by decide +kernel
theorem dX9_read_38 : decode cX9_read 38 = .ok (.lreturn, 1) := by decide +kernel
theorem dX9_shift_0 : decode cX9_shift 0 = .ok (.iload_n 1, 1) := by decide +kernel
theorem dX9_shift_1 : decode cX9_shift 1 = .ok (.invokestatic 192, 3) := by decide +kernel
theorem dX9_shift_4 : decode cX9_shift 4 = .ok (.ifCond .eq 10, 3) := by decide +kernel
theorem dX9_shift_7 : decode cX9_shift 7 = .ok (.iload_n 3, 1) := by decide +kernel
theorem dX9_shift_8 : decode cX9_shift 8 = .ok (.invokestatic 192, 3) := by decide +kernel
theorem dX9_shift_11 : decode cX9_shift 11 = .ok (.ifCond .ne 5, 3) := by decide +kernel
theorem dX9_shift_14 : decode cX9_shift 14 = .ok (.iconst (-1), 1) := by decide +kernel
theorem dX9_shift_15 : decode cX9_shift 15 = .ok (.ireturn, 1) := by decide +kernel
theorem dX9_shift_16 : decode cX9_shift 16 = .ok (.aload_n 0, 1) := by decide +kernel
theorem dX9_shift_17 : decode cX9_shift 17 = .ok (.getfield 79, 3) := by decide +kernel
theorem dX9_shift_20 : decode cX9_shift 20 = .ok (.iload_n 1, 1) := by decide +kernel
theorem dX9_shift_21 : decode cX9_shift 21 = .ok (.aaload, 1) := by decide +kernel
theorem dX9_shift_22 : decode cX9_shift 22 = .ok (.astore 6, 2) := by decide +kernel
theorem dX9_shift_24 : decode cX9_shift 24 = .ok (.aload_n 0, 1) := by decide +kernel
theorem dX9_shift_25 : decode cX9_shift 25 = .ok (.getfield 79, 3) := by decide +kernel
theorem dX9_shift_28 : decode cX9_shift 28 = .ok (.iload_n 3, 1) := by decide +kernel
theorem dX9_shift_29 : decode cX9_shift 29 = .ok (.aaload, 1) := by decide +kernel
theorem dX9_shift_30 : decode cX9_shift 30 = .ok (.astore 7, 2) := by decide +kernel
theorem dX9_shift_32 : decode cX9_shift 32 = .ok (.aload 6, 2) := by decide +kernel
theorem dX9_shift_34 : decode cX9_shift 34 = .ok (.invokevirtual 195, 3) := by decide +kernel
theorem dX9_shift_37 : decode cX9_shift 37 = .ok (.ifCond .ne 11, 3) := by decide +kernel
theorem dX9_shift_40 : decode cX9_shift 40 = .ok (.aload 7, 2) := by decide +kernel
theorem dX9_shift_42 : decode cX9_shift 42 = .ok (.invokevirtual 195, 3) := by decide +kernel
theorem dX9_shift_45 : decode cX9_shift 45 = .ok (.ifCond .eq 6, 3) := by decide +kernel
theorem dX9_shift_48 : decode cX9_shift 48 = .ok (.bipush (-11), 2) := by decide +kernel
theorem dX9_shift_50 : decode cX9_shift 50 = .ok (.ireturn, 1) := by decide +kernel
theorem dX9_shift_51 : decode cX9_shift 51 = .ok (.aload 6, 2) := by decide +kernel
theorem dX9_shift_53 : decode cX9_shift 53 = .ok (.getfield 199, 3) := by decide +kernel
theorem dX9_shift_56 : decode cX9_shift 56 = .ok (.aload 7, 2) := by decide +kernel
theorem dX9_shift_58 : decode cX9_shift 58 = .ok (.getfield 199, 3) := by decide +kernel
theorem dX9_shift_61 : decode cX9_shift 61 = .ok (.if_icmp .eq 6, 3) := by decide +kernel
theorem dX9_shift_64 : decode cX9_shift 64 = .ok (.bipush (-12), 2) := by decide +kernel
theorem dX9_shift_66 : decode cX9_shift 66 = .ok (.ireturn, 1) := by decide +kernel
theorem dX9_shift_67 : decode cX9_shift 67 = .ok (.aload 6, 2) := by decide +kernel
theorem dX9_shift_69 : decode cX9_shift 69 = .ok (.iload_n 2, 1) := by decide +kernel
theorem dX9_shift_70 : decode cX9_shift 70 = .ok (.iload 5, 2) := by decide +kernel
theorem dX9_shift_72 : decode cX9_shift 72 = .ok (.invokevirtual 205, 3) := by decide +kernel
theorem dX9_shift_75 : decode cX9_shift 75 = .ok (.ifCond .eq 15, 3) := by decide +kernel
theorem dX9_shift_78 : decode cX9_shift 78 = .ok (.aload 7, 2) := by decide +kernel
theorem dX9_shift_80 : decode cX9_shift 80 = .ok (.iload 4, 2) := by decide +kernel
theorem dX9_shift_82 : decode cX9_shift 82 = .ok (.iload 5, 2) := by decide +kernel
theorem dX9_shift_84 : decode cX9_shift 84 = .ok (.invokevirtual 205, 3) := by decide +kernel
theorem dX9_shift_87 : decode cX9_shift 87 = .ok (.ifCond .ne 6, 3) := by decide +kernel
theorem dX9_shift_90 : decode cX9_shift 90 = .ok (.bipush (-13), 2) := by decide +kernel
theorem dX9_shift_92 : decode cX9_shift 92 = .ok (.ireturn, 1) := by decide +kernel
theorem dX9_shift_93 : decode cX9_shift 93 = .ok (.aload 6, 2) := by decide +kernel
theorem dX9_shift_95 : decode cX9_shift 95 = .ok (.getfield 307, 3) := by decide +kernel
theorem dX9_shift_98 : decode cX9_shift 98 = .ok (.iload_n 2, 1) := by decide +kernel
theorem dX9_shift_99 : decode cX9_shift 99 = .ok (.aload 7, 2) := by decide +kernel
theorem dX9_shift_101 : decode cX9_shift 101 = .ok (.getfield 307, 3) := by decide +kernel
theorem dX9_shift_104 : decode cX9_shift 104 = .ok (.iload 4, 2) := by decide +kernel
theorem dX9_shift_106 : decode cX9_shift 106 = .ok (.iload 5, 2) := by decide +kernel
theorem dX9_shift_108 : decode cX9_shift 108 = .ok (.invokestatic 315, 3) := by decide +kernel
theorem dX9_shift_111 : decode cX9_shift 111 = .ok (.iload 5, 2) := by decide +kernel
theorem dX9_shift_113 : decode cX9_shift 113 = .ok (.ireturn, 1) := by decide +kernel
theorem dX9_within_0 : decode cX9_within 0 = .ok (.iload_n 0, 1) := by decide +kernel
theorem dX9_within_1 : decode cX9_within 1 = .ok (.iload_n 1, 1) := by decide +kernel
theorem dX9_within_2 : decode cX9_within 2 = .ok (.if_icmp .lt 12, 3) := by decide +kernel
theorem dX9_within_5 : decode cX9_within 5 = .ok (.iload_n 0, 1) := by decide +kernel
theorem dX9_within_6 : decode cX9_within 6 = .ok (.iload_n 2, 1) := by decide +kernel
theorem dX9_within_7 : decode cX9_within 7 = .ok (.if_icmp .gt 7, 3) := by decide +kernel
theorem dX9_within_10 : decode cX9_within 10 = .ok (.iconst 1, 1) := by decide +kernel
theorem dX9_within_11 : decode cX9_within 11 = .ok (.goto 4, 3) := by decide +kernel
theorem dX9_within_14 : decode cX9_within 14 = .ok (.iconst 0, 1) := by decide +kernel
theorem dX9_within_15 : decode cX9_within 15 = .ok (.ireturn, 1) := by decide +kernel
theorem dX9_isTown_0 : decode cX9_isTown 0 = .ok (.iload_n 1, 1) := by decide +kernel
theorem dX9_isTown_1 : decode cX9_isTown 1 = .ok (.iconst 0, 1) := by decide +kernel
theorem dX9_isTown_2 : decode cX9_isTown 2 = .ok (.aload_n 0, 1) := by decide +kernel
theorem dX9_isTown_3 : decode cX9_isTown 3 = .ok (.getfield 17, 3) := by decide +kernel
theorem dX9_isTown_6 : decode cX9_isTown 6 = .ok (.getfield 88, 3) := by decide +kernel
theorem dX9_isTown_9 : decode cX9_isTown 9 = .ok (.iconst 1, 1) := by decide +kernel
theorem dX9_isTown_10 : decode cX9_isTown 10 = .ok (.isub, 1) := by decide +kernel
theorem dX9_isTown_11 : decode cX9_isTown 11 = .ok (.invokestatic 84, 3) := by decide +kernel
theorem dX9_isTown_14 : decode cX9_isTown 14 = .ok (.ireturn, 1) := by decide +kernel
theorem dX9_isFamily_0 : decode cX9_isFamily 0 = .ok (.iload_n 1, 1) := by decide +kernel
theorem dX9_isFamily_1 : decode cX9_isFamily 1 = .ok (.iconst 0, 1) := by decide +kernel
theorem dX9_isFamily_2 : decode cX9_isFamily 2 = .ok (.aload_n 0, 1) := by decide +kernel
theorem dX9_isFamily_3 : decode cX9_isFamily 3 = .ok (.getfield 17, 3) := by decide +kernel
theorem dX9_isFamily_6 : decode cX9_isFamily 6 = .ok (.getfield 202, 3) := by decide +kernel
theorem dX9_isFamily_9 : decode cX9_isFamily 9 = .ok (.iconst 1, 1) := by decide +kernel
theorem dX9_isFamily_10 : decode cX9_isFamily 10 = .ok (.isub, 1) := by decide +kernel
theorem dX9_isFamily_11 : decode cX9_isFamily 11 = .ok (.invokestatic 84, 3) := by decide +kernel
theorem dX9_isFamily_14 : decode cX9_isFamily 14 = .ok (.ireturn, 1) := by decide +kernel
theorem dX9_isTape_0 : decode cX9_isTape 0 = .ok (.iload_n 0, 1) := by decide +kernel
theorem dX9_isTape_1 : decode cX9_isTape 1 = .ok (.iconst 0, 1) := by decide +kernel
theorem dX9_isTape_2 : decode cX9_isTape 2 = .ok (.iconst 5, 1) := by decide +kernel
theorem dX9_isTape_3 : decode cX9_isTape 3 = .ok (.invokestatic 84, 3) := by decide +kernel
theorem dX9_isTape_6 : decode cX9_isTape 6 = .ok (.ireturn, 1) := by decide +kernel
theorem dX9_isRest_0 : decode cX9_isRest 0 = .ok (.iload_n 0, 1) := by decide +kernel
theorem dX9_isRest_1 : decode cX9_isRest 1 = .ok (.iconst 1, 1) := by decide +kernel
theorem dX9_isRest_2 : decode cX9_isRest 2 = .ok (.iconst 5, 1) := by decide +kernel
theorem dX9_isRest_3 : decode cX9_isRest 3 = .ok (.invokestatic 84, 3) := by decide +kernel
theorem dX9_isRest_6 : decode cX9_isRest 6 = .ok (.ireturn, 1) := by decide +kernel
theorem dX9_replace_0 : decode cX9_replace 0 = .ok (.aload_n 0, 1) := by decide +kernel
theorem dX9_replace_1 : decode cX9_replace 1 = .ok (.iload_n 1, 1) := by decide +kernel
theorem dX9_replace_2 : decode cX9_replace 2 = .ok (.iaload, 1) := by decide +kernel
theorem dX9_replace_3 : decode cX9_replace 3 = .ok (.istore_n 3, 1) := by decide +kernel
theorem dX9_replace_4 : decode cX9_replace 4 = .ok (.aload_n 0, 1) := by decide +kernel
theorem dX9_replace_5 : decode cX9_replace 5 = .ok (.iload_n 1, 1) := by decide +kernel
theorem dX9_replace_6 : decode cX9_replace 6 = .ok (.iload_n 2, 1) := by decide +kernel
theorem dX9_replace_7 : decode cX9_replace 7 = .ok (.iastore, 1) := by decide +kernel
theorem dX9_replace_8 : decode cX9_replace 8 = .ok (.iload_n 3, 1) := by decide +kernel
theorem dX9_replace_9 : decode cX9_replace 9 = .ok (.ireturn, 1) := by decide +kernel
theorem dX9_settleAsTold_0 : decode cX9_settleAsTold 0 = .ok (.iconst 0, 1) := by decide +kernel
theorem dX9_settleAsTold_1 : decode cX9_settleAsTold 1 = .ok (.istore_n 3, 1) := by decide +kernel
theorem dX9_settleAsTold_2 : decode cX9_settleAsTold 2 = .ok (.iload_n 3, 1) := by decide +kernel
theorem dX9_settleAsTold_3 : decode cX9_settleAsTold 3 = .ok (.aload_n 0, 1) := by decide +kernel
theorem dX9_settleAsTold_4 : decode cX9_settleAsTold 4 = .ok (.getfield 27, 3) := by decide +kernel
theorem dX9_settleAsTold_7 : decode cX9_settleAsTold 7 = .ok (.getfield 202, 3) := by decide +kernel
theorem dX9_settleAsTold_10 : decode cX9_settleAsTold 10 = .ok (.if_icmp .ge 54, 3) := by decide +kernel
theorem dX9_settleAsTold_13 : decode cX9_settleAsTold 13 = .ok (.aload_n 1, 1) := by decide +kernel
theorem dX9_settleAsTold_14 : decode cX9_settleAsTold 14 = .ok (.getfield 307, 3) := by decide +kernel
theorem dX9_settleAsTold_17 : decode cX9_settleAsTold 17 = .ok (.iload_n 2, 1) := by decide +kernel
theorem dX9_settleAsTold_18 : decode cX9_settleAsTold 18 = .ok (.iload_n 3, 1) := by decide +kernel
theorem dX9_settleAsTold_19 : decode cX9_settleAsTold 19 = .ok (.iadd, 1) := by decide +kernel
theorem dX9_settleAsTold_20 : decode cX9_settleAsTold 20 = .ok (.laload, 1) := by decide +kernel
theorem dX9_settleAsTold_21 : decode cX9_settleAsTold 21 = .ok (.lstore 4, 2) := by decide +kernel
theorem dX9_settleAsTold_23 : decode cX9_settleAsTold 23 = .ok (.lload 4, 2) := by decide +kernel
theorem dX9_settleAsTold_25 : decode cX9_settleAsTold 25 = .ok (.lconst 0, 1) := by decide +kernel
theorem dX9_settleAsTold_26 : decode cX9_settleAsTold 26 = .ok (.lcmp, 1) := by decide +kernel
theorem dX9_settleAsTold_27 : decode cX9_settleAsTold 27 = .ok (.ifCond .lt 17, 3) := by decide +kernel
theorem dX9_settleAsTold_30 : decode cX9_settleAsTold 30 = .ok (.lload 4, 2) := by decide +kernel
theorem dX9_settleAsTold_32 : decode cX9_settleAsTold 32 = .ok (.aload_n 0, 1) := by decide +kernel
theorem dX9_settleAsTold_33 : decode cX9_settleAsTold 33 = .ok (.getfield 27, 3) := by decide +kernel
theorem dX9_settleAsTold_36 : decode cX9_settleAsTold 36 = .ok (.getfield 88, 3) := by decide +kernel
theorem dX9_settleAsTold_39 : decode cX9_settleAsTold 39 = .ok (.i2l, 1) := by decide +kernel
theorem dX9_settleAsTold_40 : decode cX9_settleAsTold 40 = .ok (.lcmp, 1) := by decide +kernel
theorem dX9_settleAsTold_41 : decode cX9_settleAsTold 41 = .ok (.ifCond .lt 5, 3) := by decide +kernel
theorem dX9_settleAsTold_44 : decode cX9_settleAsTold 44 = .ok (.iconst 0, 1) := by decide +kernel
theorem dX9_settleAsTold_45 : decode cX9_settleAsTold 45 = .ok (.ireturn, 1) := by decide +kernel
theorem dX9_settleAsTold_46 : decode cX9_settleAsTold 46 = .ok (.aload_n 0, 1) := by decide +kernel
theorem dX9_settleAsTold_47 : decode cX9_settleAsTold 47 = .ok (.getfield 27, 3) := by decide +kernel
theorem dX9_settleAsTold_50 : decode cX9_settleAsTold 50 = .ok (.getfield 128, 3) := by decide +kernel
theorem dX9_settleAsTold_53 : decode cX9_settleAsTold 53 = .ok (.iload_n 3, 1) := by decide +kernel
theorem dX9_settleAsTold_54 : decode cX9_settleAsTold 54 = .ok (.lload 4, 2) := by decide +kernel
theorem dX9_settleAsTold_56 : decode cX9_settleAsTold 56 = .ok (.l2i, 1) := by decide +kernel
theorem dX9_settleAsTold_57 : decode cX9_settleAsTold 57 = .ok (.iastore, 1) := by decide +kernel
theorem dX9_settleAsTold_58 : decode cX9_settleAsTold 58 = .ok (.iinc 3 1, 3) := by decide +kernel
theorem dX9_settleAsTold_61 : decode cX9_settleAsTold 61 = .ok (.goto (-59), 3) := by decide +kernel
theorem dX9_settleAsTold_64 : decode cX9_settleAsTold 64 = .ok (.aload_n 0, 1) := by decide +kernel
theorem dX9_settleAsTold_65 : decode cX9_settleAsTold 65 = .ok (.getfield 27, 3) := by decide +kernel
theorem dX9_settleAsTold_68 : decode cX9_settleAsTold 68 = .ok (.invokevirtual 321, 3) := by decide +kernel
theorem dX9_settleAsTold_71 : decode cX9_settleAsTold 71 = .ok (.ireturn, 1) := by decide +kernel
theorem dX9_priceOf_0 : decode cX9_priceOf 0 = .ok (.iconst 0, 1) := by decide +kernel
theorem dX9_priceOf_1 : decode cX9_priceOf 1 = .ok (.istore_n 2, 1) := by decide +kernel
theorem dX9_priceOf_2 : decode cX9_priceOf 2 = .ok (.iconst 0, 1) := by decide +kernel
theorem dX9_priceOf_3 : decode cX9_priceOf 3 = .ok (.istore_n 3, 1) := by decide +kernel
theorem dX9_priceOf_4 : decode cX9_priceOf 4 = .ok (.iload_n 3, 1) := by decide +kernel
theorem dX9_priceOf_5 : decode cX9_priceOf 5 = .ok (.aload_n 0, 1) := by decide +kernel
theorem dX9_priceOf_6 : decode cX9_priceOf 6 = .ok (.getfield 253, 3) := by decide +kernel
theorem dX9_priceOf_9 : decode cX9_priceOf 9 = .ok (.if_icmp .ge 30, 3) := by decide +kernel
theorem dX9_priceOf_12 : decode cX9_priceOf 12 = .ok (.iload_n 1, 1) := by decide +kernel
theorem dX9_priceOf_13 : decode cX9_priceOf 13 = .ok (.iload_n 3, 1) := by decide +kernel
theorem dX9_priceOf_14 : decode cX9_priceOf 14 = .ok (.ishr, 1) := by decide +kernel
theorem dX9_priceOf_15 : decode cX9_priceOf 15 = .ok (.iconst 1, 1) := by decide +kernel
theorem dX9_priceOf_16 : decode cX9_priceOf 16 = .ok (.iand, 1) := by decide +kernel
theorem dX9_priceOf_17 : decode cX9_priceOf 17 = .ok (.iconst 1, 1) := by decide +kernel
theorem dX9_priceOf_18 : decode cX9_priceOf 18 = .ok (.if_icmp .ne 15, 3) := by decide +kernel
theorem dX9_priceOf_21 : decode cX9_priceOf 21 = .ok (.iload_n 2, 1) := by decide +kernel
theorem dX9_priceOf_22 : decode cX9_priceOf 22 = .ok (.aload_n 0, 1) := by decide +kernel
theorem dX9_priceOf_23 : decode cX9_priceOf 23 = .ok (.getfield 73, 3) := by decide +kernel
theorem dX9_priceOf_26 : decode cX9_priceOf 26 = .ok (.iload_n 3, 1) := by decide +kernel
theorem dX9_priceOf_27 : decode cX9_priceOf 27 = .ok (.aaload, 1) := by decide +kernel
theorem dX9_priceOf_28 : decode cX9_priceOf 28 = .ok (.getfield 324, 3) := by decide +kernel
theorem dX9_priceOf_31 : decode cX9_priceOf 31 = .ok (.iadd, 1) := by decide +kernel
theorem dX9_priceOf_32 : decode cX9_priceOf 32 = .ok (.istore_n 2, 1) := by decide +kernel
theorem dX9_priceOf_33 : decode cX9_priceOf 33 = .ok (.iinc 3 1, 3) := by decide +kernel
theorem dX9_priceOf_36 : decode cX9_priceOf 36 = .ok (.goto (-32), 3) := by decide +kernel
theorem dX9_priceOf_39 : decode cX9_priceOf 39 = .ok (.iload_n 2, 1) := by decide +kernel
theorem dX9_priceOf_40 : decode cX9_priceOf 40 = .ok (.ireturn, 1) := by decide +kernel
theorem dX9_clashIn_0 : decode cX9_clashIn 0 = .ok (.iconst 0, 1) := by decide +kernel
theorem dX9_clashIn_1 : decode cX9_clashIn 1 = .ok (.istore_n 2, 1) := by decide +kernel
theorem dX9_clashIn_2 : decode cX9_clashIn 2 = .ok (.iload_n 2, 1) := by decide +kernel
theorem dX9_clashIn_3 : decode cX9_clashIn 3 = .ok (.aload_n 0, 1) := by decide +kernel
theorem dX9_clashIn_4 : decode cX9_clashIn 4 = .ok (.getfield 253, 3) := by decide +kernel
theorem dX9_clashIn_7 : decode cX9_clashIn 7 = .ok (.if_icmp .ge 55, 3) := by decide +kernel
theorem dX9_clashIn_10 : decode cX9_clashIn 10 = .ok (.iconst 0, 1) := by decide +kernel
theorem dX9_clashIn_11 : decode cX9_clashIn 11 = .ok (.istore_n 3, 1) := by decide +kernel
theorem dX9_clashIn_12 : decode cX9_clashIn 12 = .ok (.iload_n 3, 1) := by decide +kernel
theorem dX9_clashIn_13 : decode cX9_clashIn 13 = .ok (.iload_n 2, 1) := by decide +kernel
theorem dX9_clashIn_14 : decode cX9_clashIn 14 = .ok (.if_icmp .ge 42, 3) := by decide +kernel
theorem dX9_clashIn_17 : decode cX9_clashIn 17 = .ok (.iload_n 1, 1) := by decide +kernel
theorem dX9_clashIn_18 : decode cX9_clashIn 18 = .ok (.iload_n 2, 1) := by decide +kernel
theorem dX9_clashIn_19 : decode cX9_clashIn 19 = .ok (.ishr, 1) := by decide +kernel
theorem dX9_clashIn_20 : decode cX9_clashIn 20 = .ok (.iload_n 1, 1) := by decide +kernel
theorem dX9_clashIn_21 : decode cX9_clashIn 21 = .ok (.iload_n 3, 1) := by decide +kernel
theorem dX9_clashIn_22 : decode cX9_clashIn 22 = .ok (.ishr, 1) := by decide +kernel
theorem dX9_clashIn_23 : decode cX9_clashIn 23 = .ok (.iand, 1) := by decide +kernel
theorem dX9_clashIn_24 : decode cX9_clashIn 24 = .ok (.iconst 1, 1) := by decide +kernel
theorem dX9_clashIn_25 : decode cX9_clashIn 25 = .ok (.iand, 1) := by decide +kernel
theorem dX9_clashIn_26 : decode cX9_clashIn 26 = .ok (.iconst 1, 1) := by decide +kernel
theorem dX9_clashIn_27 : decode cX9_clashIn 27 = .ok (.if_icmp .ne 23, 3) := by decide +kernel
theorem dX9_clashIn_30 : decode cX9_clashIn 30 = .ok (.aload_n 0, 1) := by decide +kernel
theorem dX9_clashIn_31 : decode cX9_clashIn 31 = .ok (.getfield 73, 3) := by decide +kernel
theorem dX9_clashIn_34 : decode cX9_clashIn 34 = .ok (.iload_n 2, 1) := by decide +kernel
theorem dX9_clashIn_35 : decode cX9_clashIn 35 = .ok (.aaload, 1) := by decide +kernel
theorem dX9_clashIn_36 : decode cX9_clashIn 36 = .ok (.aload_n 0, 1) := by decide +kernel
theorem dX9_clashIn_37 : decode cX9_clashIn 37 = .ok (.getfield 73, 3) := by decide +kernel
theorem dX9_clashIn_40 : decode cX9_clashIn 40 = .ok (.iload_n 3, 1) := by decide +kernel
theorem dX9_clashIn_41 : decode cX9_clashIn 41 = .ok (.aaload, 1) := by decide +kernel
theorem dX9_clashIn_42 : decode cX9_clashIn 42 = .ok (.invokevirtual 327, 3) := by decide +kernel
theorem dX9_clashIn_45 : decode cX9_clashIn 45 = .ok (.ifCond .eq 5, 3) := by decide +kernel
theorem dX9_clashIn_48 : decode cX9_clashIn 48 = .ok (.iconst 1, 1) := by decide +kernel
theorem dX9_clashIn_49 : decode cX9_clashIn 49 = .ok (.ireturn, 1) := by decide +kernel
theorem dX9_clashIn_50 : decode cX9_clashIn 50 = .ok (.iinc 3 1, 3) := by decide +kernel
theorem dX9_clashIn_53 : decode cX9_clashIn 53 = .ok (.goto (-41), 3) := by decide +kernel
theorem dX9_clashIn_56 : decode cX9_clashIn 56 = .ok (.iinc 2 1, 3) := by decide +kernel
theorem dX9_clashIn_59 : decode cX9_clashIn 59 = .ok (.goto (-57), 3) := by decide +kernel
theorem dX9_clashIn_62 : decode cX9_clashIn 62 = .ok (.iconst 0, 1) := by decide +kernel
theorem dX9_clashIn_63 : decode cX9_clashIn 63 = .ok (.ireturn, 1) := by decide +kernel
theorem dX9_enact_0 : decode cX9_enact 0 = .ok (.iconst 0, 1) := by decide +kernel
theorem dX9_enact_1 : decode cX9_enact 1 = .ok (.istore_n 2, 1) := by decide +kernel
theorem dX9_enact_2 : decode cX9_enact 2 = .ok (.iload_n 2, 1) := by decide +kernel
theorem dX9_enact_3 : decode cX9_enact 3 = .ok (.aload_n 0, 1) := by decide +kernel
theorem dX9_enact_4 : decode cX9_enact 4 = .ok (.getfield 253, 3) := by decide +kernel
theorem dX9_enact_7 : decode cX9_enact 7 = .ok (.if_icmp .ge 31, 3) := by decide +kernel
theorem dX9_enact_10 : decode cX9_enact 10 = .ok (.iload_n 1, 1) := by decide +kernel
theorem dX9_enact_11 : decode cX9_enact 11 = .ok (.iload_n 2, 1) := by decide +kernel
theorem dX9_enact_12 : decode cX9_enact 12 = .ok (.ishr, 1) := by decide +kernel
theorem dX9_enact_13 : decode cX9_enact 13 = .ok (.iconst 1, 1) := by decide +kernel
theorem dX9_enact_14 : decode cX9_enact 14 = .ok (.iand, 1) := by decide +kernel
theorem dX9_enact_15 : decode cX9_enact 15 = .ok (.iconst 1, 1) := by decide +kernel
theorem dX9_enact_16 : decode cX9_enact 16 = .ok (.if_icmp .ne 16, 3) := by decide +kernel
theorem dX9_enact_19 : decode cX9_enact 19 = .ok (.aload_n 0, 1) := by decide +kernel
theorem dX9_enact_20 : decode cX9_enact 20 = .ok (.getfield 73, 3) := by decide +kernel
theorem dX9_enact_23 : decode cX9_enact 23 = .ok (.iload_n 2, 1) := by decide +kernel
theorem dX9_enact_24 : decode cX9_enact 24 = .ok (.aaload, 1) := by decide +kernel
theorem dX9_enact_25 : decode cX9_enact 25 = .ok (.aload_n 0, 1) := by decide +kernel
theorem dX9_enact_26 : decode cX9_enact 26 = .ok (.getfield 27, 3) := by decide +kernel
theorem dX9_enact_29 : decode cX9_enact 29 = .ok (.invokevirtual 331, 3) := by decide +kernel
theorem dX9_enact_32 : decode cX9_enact 32 = .ok (.iinc 2 1, 3) := by decide +kernel
theorem dX9_enact_35 : decode cX9_enact 35 = .ok (.goto (-33), 3) := by decide +kernel
theorem dX9_enact_38 : decode cX9_enact 38 = .ok (.return_, 1) := by decide +kernel
theorem dX9_births_0 : decode cX9_births 0 = .ok (.iconst 0, 1) := by decide +kernel
theorem dX9_births_1 : decode cX9_births 1 = .ok (.istore_n 1, 1) := by decide +kernel
theorem dX9_births_2 : decode cX9_births 2 = .ok (.iconst 0, 1) := by decide +kernel
theorem dX9_births_3 : decode cX9_births 3 = .ok (.istore_n 2, 1) := by decide +kernel
theorem dX9_births_4 : decode cX9_births 4 = .ok (.iload_n 2, 1) := by decide +kernel
theorem dX9_births_5 : decode cX9_births 5 = .ok (.aload_n 0, 1) := by decide +kernel
theorem dX9_births_6 : decode cX9_births 6 = .ok (.getfield 17, 3) := by decide +kernel
theorem dX9_births_9 : decode cX9_births 9 = .ok (.getfield 88, 3) := by decide +kernel
theorem dX9_births_12 : decode cX9_births 12 = .ok (.if_icmp .ge 50, 3) := by decide +kernel
theorem dX9_births_15 : decode cX9_births 15 = .ok (.aload_n 0, 1) := by decide +kernel
theorem dX9_births_16 : decode cX9_births 16 = .ok (.getfield 17, 3) := by decide +kernel
theorem dX9_births_19 : decode cX9_births 19 = .ok (.iload_n 2, 1) := by decide +kernel
theorem dX9_births_20 : decode cX9_births 20 = .ok (.invokevirtual 334, 3) := by decide +kernel
theorem dX9_births_23 : decode cX9_births 23 = .ok (.istore_n 3, 1) := by decide +kernel
theorem dX9_births_24 : decode cX9_births 24 = .ok (.iload_n 3, 1) := by decide +kernel
theorem dX9_births_25 : decode cX9_births 25 = .ok (.ifCond .lt 31, 3) := by decide +kernel
theorem dX9_births_28 : decode cX9_births 28 = .ok (.aload_n 0, 1) := by decide +kernel
theorem dX9_births_29 : decode cX9_births 29 = .ok (.getfield 17, 3) := by decide +kernel
theorem dX9_births_32 : decode cX9_births 32 = .ok (.iload_n 2, 1) := by decide +kernel
theorem dX9_births_33 : decode cX9_births 33 = .ok (.invokevirtual 100, 3) := by decide +kernel
theorem dX9_births_36 : decode cX9_births 36 = .ok (.ifCond .eq 20, 3) := by decide +kernel
theorem dX9_births_39 : decode cX9_births 39 = .ok (.aload_n 0, 1) := by decide +kernel
theorem dX9_births_40 : decode cX9_births 40 = .ok (.getfield 17, 3) := by decide +kernel
theorem dX9_births_43 : decode cX9_births 43 = .ok (.iload_n 3, 1) := by decide +kernel
theorem dX9_births_44 : decode cX9_births 44 = .ok (.bipush 10, 2) := by decide +kernel
theorem dX9_births_46 : decode cX9_births 46 = .ok (.iload_n 2, 1) := by decide +kernel
theorem dX9_births_47 : decode cX9_births 47 = .ok (.invokevirtual 103, 3) := by decide +kernel
theorem dX9_births_50 : decode cX9_births 50 = .ok (.ifCond .lt 6, 3) := by decide +kernel
theorem dX9_births_53 : decode cX9_births 53 = .ok (.iinc 1 1, 3) := by decide +kernel
theorem dX9_births_56 : decode cX9_births 56 = .ok (.iinc 2 1, 3) := by decide +kernel
theorem dX9_births_59 : decode cX9_births 59 = .ok (.goto (-55), 3) := by decide +kernel
theorem dX9_births_62 : decode cX9_births 62 = .ok (.iload_n 1, 1) := by decide +kernel
theorem dX9_births_63 : decode cX9_births 63 = .ok (.ireturn, 1) := by decide +kernel
theorem dX10_init_0 : decode cX10_init 0 = .ok (.aload_n 0, 1) := by decide +kernel
theorem dX10_init_1 : decode cX10_init 1 = .ok (.invokespecial 1, 3) := by decide +kernel
theorem dX10_init_4 : decode cX10_init 4 = .ok (.aload_n 0, 1) := by decide +kernel
theorem dX10_init_5 : decode cX10_init 5 = .ok (.iconst 0, 1) := by decide +kernel
theorem dX10_init_6 : decode cX10_init 6 = .ok (.putfield 7, 3) := by decide +kernel
theorem dX10_init_9 : decode cX10_init 9 = .ok (.aload_n 0, 1) := by decide +kernel
theorem dX10_init_10 : decode cX10_init 10 = .ok (.iconst 0, 1) := by decide +kernel
theorem dX10_init_11 : decode cX10_init 11 = .ok (.putfield 13, 3) := by decide +kernel
theorem dX10_init_14 : decode cX10_init 14 = .ok (.aload_n 0, 1) := by decide +kernel
theorem dX10_init_15 : decode cX10_init 15 = .ok (.iconst 0, 1) := by decide +kernel
theorem dX10_init_16 : decode cX10_init 16 = .ok (.putfield 16, 3) := by decide +kernel
theorem dX10_init_19 : decode cX10_init 19 = .ok (.aload_n 0, 1) := by decide +kernel
theorem dX10_init_20 : decode cX10_init 20 = .ok (.iconst 4, 1) := by decide +kernel
theorem dX10_init_21 : decode cX10_init 21 = .ok (.newarray .int, 2) := by decide +kernel
theorem dX10_init_23 : decode cX10_init 23 = .ok (.putfield 19, 3) := by decide +kernel
theorem dX10_init_26 : decode cX10_init 26 = .ok (.aload_n 0, 1) := by decide +kernel
theorem dX10_init_27 : decode cX10_init 27 = .ok (.bipush 12, 2) := by decide +kernel
theorem dX10_init_29 : decode cX10_init 29 = .ok (.newarray .int, 2) := by decide +kernel
theorem dX10_init_31 : decode cX10_init 31 = .ok (.putfield 23, 3) := by decide +kernel
theorem dX10_init_34 : decode cX10_init 34 = .ok (.aload_n 0, 1) := by decide +kernel
theorem dX10_init_35 : decode cX10_init 35 = .ok (.iconst 4, 1) := by decide +kernel
theorem dX10_init_36 : decode cX10_init 36 = .ok (.newarray .int, 2) := by decide +kernel
theorem dX10_init_38 : decode cX10_init 38 = .ok (.putfield 26, 3) := by decide +kernel
theorem dX10_init_41 : decode cX10_init 41 = .ok (.aload_n 0, 1) := by decide +kernel
theorem dX10_init_42 : decode cX10_init 42 = .ok (.iconst 4, 1) := by decide +kernel
theorem dX10_init_43 : decode cX10_init 43 = .ok (.newarray .int, 2) := by decide +kernel
theorem dX10_init_45 : decode cX10_init 45 = .ok (.putfield 29, 3) := by decide +kernel
theorem dX10_init_48 : decode cX10_init 48 = .ok (.aload_n 0, 1) := by decide +kernel
theorem dX10_init_49 : decode cX10_init 49 = .ok (.iconst 4, 1) := by decide +kernel
theorem dX10_init_50 : decode cX10_init 50 = .ok (.newarray .int, 2) := by decide +kernel
theorem dX10_init_52 : decode cX10_init 52 = .ok (.putfield 32, 3) := by decide +kernel
theorem dX10_init_55 : decode cX10_init 55 = .ok (.aload_n 0, 1) := by decide +kernel
theorem dX10_init_56 : decode cX10_init 56 = .ok (.bipush 8, 2) := by decide +kernel
theorem dX10_init_58 : decode cX10_init 58 = .ok (.newarray .int, 2) := by decide +kernel
theorem dX10_init_60 : decode cX10_init 60 = .ok (.putfield 35, 3) := by decide +kernel
theorem dX10_init_63 : decode cX10_init 63 = .ok (.aload_n 0, 1) := by decide +kernel
theorem dX10_init_64 : decode cX10_init 64 = .ok (.bipush 8, 2) := by decide +kernel
theorem dX10_init_66 : decode cX10_init 66 = .ok (.newarray .int, 2) := by decide +kernel
theorem dX10_init_68 : decode cX10_init 68 = .ok (.putfield 38, 3) := by decide +kernel
theorem dX10_init_71 : decode cX10_init 71 = .ok (.aload_n 0, 1) := by decide +kernel
theorem dX10_init_72 : decode cX10_init 72 = .ok (.bipush 8, 2) := by decide +kernel
theorem dX10_init_74 : decode cX10_init 74 = .ok (.newarray .int, 2) := by decide +kernel
theorem dX10_init_76 : decode cX10_init 76 = .ok (.putfield 41, 3) := by decide +kernel
theorem dX10_init_79 : decode cX10_init 79 = .ok (.aload_n 0, 1) := by decide +kernel
theorem dX10_init_80 : decode cX10_init 80 = .ok (.bipush 8, 2) := by decide +kernel
theorem dX10_init_82 : decode cX10_init 82 = .ok (.newarray .int, 2) := by decide +kernel
theorem dX10_init_84 : decode cX10_init 84 = .ok (.putfield 44, 3) := by decide +kernel
theorem dX10_init_87 : decode cX10_init 87 = .ok (.aload_n 0, 1) := by decide +kernel
theorem dX10_init_88 : decode cX10_init 88 = .ok (.iconst 0, 1) := by decide +kernel
theorem dX10_init_89 : decode cX10_init 89 = .ok (.putfield 47, 3) := by decide +kernel
theorem dX10_init_92 : decode cX10_init 92 = .ok (.aload_n 0, 1) := by decide +kernel
theorem dX10_init_93 : decode cX10_init 93 = .ok (.iconst 0, 1) := by decide +kernel
theorem dX10_init_94 : decode cX10_init 94 = .ok (.putfield 50, 3) := by decide +kernel
theorem dX10_init_97 : decode cX10_init 97 = .ok (.aload_n 0, 1) := by decide +kernel
theorem dX10_init_98 : decode cX10_init 98 = .ok (.sipush 240, 3) := by decide +kernel
theorem dX10_init_101 : decode cX10_init 101 = .ok (.newarray .int, 2) := by decide +kernel
theorem dX10_init_103 : decode cX10_init 103 = .ok (.putfield 53, 3) := by decide +kernel
theorem dX10_init_106 : decode cX10_init 106 = .ok (.aload_n 0, 1) := by decide +kernel
theorem dX10_init_107 : decode cX10_init 107 = .ok (.iconst 2, 1) := by decide +kernel
theorem dX10_init_108 : decode cX10_init 108 = .ok (.newarray .int, 2) := by decide +kernel
theorem dX10_init_110 : decode cX10_init 110 = .ok (.putfield 56, 3) := by decide +kernel
theorem dX10_init_113 : decode cX10_init 113 = .ok (.aload_n 0, 1) := by decide +kernel
theorem dX10_init_114 : decode cX10_init 114 = .ok (.iconst 4, 1) := by decide +kernel
theorem dX10_init_115 : decode cX10_init 115 = .ok (.newarray .int, 2) := by decide +kernel
theorem dX10_init_117 : decode cX10_init 117 = .ok (.putfield 59, 3) := by decide +kernel
theorem dX10_init_120 : decode cX10_init 120 = .ok (.aload_n 0, 1) := by decide +kernel
theorem dX10_init_121 : decode cX10_init 121 = .ok (.iconst 0, 1) := by decide +kernel
theorem dX10_init_122 : decode cX10_init 122 = .ok (.putfield 62, 3) := by decide +kernel
theorem dX10_init_125 : decode cX10_init 125 = .ok (.aload_n 0, 1) := by decide +kernel
theorem dX10_init_126 : decode cX10_init 126 = .ok (.iconst 0, 1) := by decide +kernel
theorem dX10_init_127 : decode cX10_init 127 = .ok (.putfield 65, 3) := by decide +kernel
theorem dX10_init_130 : decode cX10_init 130 = .ok (.aload_n 0, 1) := by decide +kernel
theorem dX10_init_131 : decode cX10_init 131 = .ok (.iconst 0, 1) := by decide +kernel
theorem dX10_init_132 : decode cX10_init 132 = .ok (.putfield 68, 3) := by decide +kernel
theorem dX10_init_135 : decode cX10_init 135 = .ok (.aload_n 0, 1) := by decide +kernel
theorem dX10_init_136 : decode cX10_init 136 = .ok (.iconst 0, 1) := by decide +kernel
theorem dX10_init_137 : decode cX10_init 137 = .ok (.putfield 71, 3) := by decide +kernel
theorem dX10_init_140 : decode cX10_init 140 = .ok (.aload_n 0, 1) := by decide +kernel
theorem dX10_init_141 : decode cX10_init 141 = .ok (.iconst 0, 1) := by decide +kernel
theorem dX10_init_142 : decode cX10_init 142 = .ok (.putfield 74, 3) := by decide +kernel
theorem dX10_init_145 : decode cX10_init 145 = .ok (.aload_n 0, 1) := by decide +kernel
theorem dX10_init_146 : decode cX10_init 146 = .ok (.bipush 12, 2) := by decide +kernel
theorem dX10_init_148 : decode cX10_init 148 = .ok (.newarray .int, 2) := by decide +kernel
theorem dX10_init_150 : decode cX10_init 150 = .ok (.putfield 77, 3) := by decide +kernel
theorem dX10_init_153 : decode cX10_init 153 = .ok (.aload_n 0, 1) := by decide +kernel
theorem dX10_init_154 : decode cX10_init 154 = .ok (.bipush 16, 2) := by decide +kernel
theorem dX10_init_156 : decode cX10_init 156 = .ok (.newarray .int, 2) := by decide +kernel
theorem dX10_init_158 : decode cX10_init 158 = .ok (.putfield 80, 3) := by decide +kernel
theorem dX10_init_161 : decode cX10_init 161 = .ok (.aload_n 0, 1) := by decide +kernel
theorem dX10_init_162 : decode cX10_init 162 = .ok (.iconst 3, 1) := by decide +kernel
theorem dX10_init_163 : decode cX10_init 163 = .ok (.newarray .int, 2) := by decide +kernel
theorem dX10_init_165 : decode cX10_init 165 = .ok (.dup, 1) := by decide +kernel
theorem dX10_init_166 : decode cX10_init 166 = .ok (.iconst 0, 1) := by decide +kernel
theorem dX10_init_167 : decode cX10_init 167 = .ok (.bipush 10, 2) := by decide +kernel
theorem dX10_init_169 : decode cX10_init 169 = .ok (.iastore, 1) := by decide +kernel
theorem dX10_init_170 : decode cX10_init 170 = .ok (.dup, 1) := by decide +kernel
theorem dX10_init_171 : decode cX10_init 171 = .ok (.iconst 1, 1) := by decide +kernel
theorem dX10_init_172 : decode cX10_init 172 = .ok (.bipush 10, 2) := by decide +kernel
theorem dX10_init_174 : decode cX10_init 174 = .ok (.iastore, 1) := by decide +kernel
theorem dX10_init_175 : decode cX10_init 175 = .ok (.dup, 1) := by decide +kernel
theorem dX10_init_176 : decode cX10_init 176 = .ok (.iconst 2, 1) := by decide +kernel
theorem dX10_init_177 : decode cX10_init 177 = .ok (.bipush 10, 2) := by decide +kernel
theorem dX10_init_179 : decode cX10_init 179 = .ok (.iastore, 1) := by decide +kernel
theorem dX10_init_180 : decode cX10_init 180 = .ok (.putfield 83, 3) := by decide +kernel
theorem dX10_init_183 : decode cX10_init 183 = .ok (.aload_n 0, 1) := by decide +kernel
theorem dX10_init_184 : decode cX10_init 184 = .ok (.iconst 0, 1) := by decide +kernel
theorem dX10_init_185 : decode cX10_init 185 = .ok (.putfield 86, 3) := by decide +kernel
theorem dX10_init_188 : decode cX10_init 188 = .ok (.aload_n 0, 1) := by decide +kernel
theorem dX10_init_189 : decode cX10_init 189 = .ok (.bipush 104, 2) := by decide +kernel
theorem dX10_init_191 : decode cX10_init 191 = .ok (.putfield 89, 3) := by decide +kernel
theorem dX10_init_194 : decode cX10_init 194 = .ok (.aload_n 0, 1) := by decide +kernel
theorem dX10_init_195 : decode cX10_init 195 = .ok (.bipush 109, 2) := by decide +kernel
theorem dX10_init_197 : decode cX10_init 197 = .ok (.putfield 92, 3) := by decide +kernel
theorem dX10_init_200 : decode cX10_init 200 = .ok (.aload_n 0, 1) := by decide +kernel
theorem dX10_init_201 : decode cX10_init 201 = .ok (.sipush 288, 3) := by decide +kernel
theorem dX10_init_204 : decode cX10_init 204 = .ok (.newarray .int, 2) := by decide +kernel
theorem dX10_init_206 : decode cX10_init 206 = .ok (.putfield 95, 3) := by decide +kernel
theorem dX10_init_209 : decode cX10_init 209 = .ok (.aload_n 0, 1) := by decide +kernel
theorem dX10_init_210 : decode cX10_init 210 = .ok (.iconst 0, 1) := by decide +kernel
theorem dX10_init_211 : decode cX10_init 211 = .ok (.putfield 98, 3) := by decide +kernel
theorem dX10_init_214 : decode cX10_init 214 = .ok (.aload_n 0, 1) := by decide +kernel
theorem dX10_init_215 : decode cX10_init 215 = .ok (.bipush 121, 2) := by decide +kernel
theorem dX10_init_217 : decode cX10_init 217 = .ok (.newarray .int, 2) := by decide +kernel
theorem dX10_init_219 : decode cX10_init 219 = .ok (.putfield 102, 3) := by decide +kernel
theorem dX10_init_222 : decode cX10_init 222 = .ok (.aload_n 0, 1) := by decide +kernel
theorem dX10_init_223 : decode cX10_init 223 = .ok (.bipush 121, 2) := by decide +kernel
theorem dX10_init_225 : decode cX10_init 225 = .ok (.newarray .boolean, 2) := by decide +kernel
theorem dX10_init_227 : decode cX10_init 227 = .ok (.putfield 105, 3) := by decide +kernel
theorem dX10_init_230 : decode cX10_init 230 = .ok (.aload_n 0, 1) := by decide +kernel
theorem dX10_init_231 : decode cX10_init 231 = .ok (.iconst 0, 1) := by decide +kernel
theorem dX10_init_232 : decode cX10_init 232 = .ok (.putfield 109, 3) := by decide +kernel
theorem dX10_init_235 : decode cX10_init 235 = .ok (.aload_n 0, 1) := by decide +kernel
theorem dX10_init_236 : decode cX10_init 236 = .ok (.iconst 0, 1) := by decide +kernel
theorem dX10_init_237 : decode cX10_init 237 = .ok (.putfield 112, 3) := by decide +kernel
theorem dX10_init_240 : decode cX10_init 240 = .ok (.aload_n 0, 1) := by decide +kernel
theorem dX10_init_241 : decode cX10_init 241 = .ok (.iconst 0, 1) := by decide +kernel
theorem dX10_init_242 : decode cX10_init 242 = .ok (.putfield 115, 3) := by decide +kernel
theorem dX10_init_245 : decode cX10_init 245 = .ok (.aload_n 0, 1) := by decide +kernel
theorem dX10_init_246 : decode cX10_init 246 = .ok (.bipush 12, 2) := by decide +kernel
theorem dX10_init_248 : decode cX10_init 248 = .ok (.newarray .int, 2) := by decide +kernel
theorem dX10_init_250 : decode cX10_init 250 = .ok (.putfield 118, 3) := by decide +kernel
theorem dX10_init_253 : decode cX10_init 253 = .ok (.aload_n 0, 1) := by decide +kernel
theorem dX10_init_254 : decode cX10_init 254 = .ok (.bipush 16, 2) := by decide +kernel
theorem dX10_init_256 : decode cX10_init 256 = .ok (.newarray .int, 2) := by decide +kernel
theorem dX10_init_258 : decode cX10_init 258 = .ok (.putfield 121, 3) := by decide +kernel
theorem dX10_init_261 : decode cX10_init 261 = .ok (.aload_n 0, 1) := by decide +kernel
theorem dX10_init_262 : decode cX10_init 262 = .ok (.iconst 3, 1) := by decide +kernel
theorem dX10_init_263 : decode cX10_init 263 = .ok (.newarray .int, 2) := by decide +kernel
theorem dX10_init_265 : decode cX10_init 265 = .ok (.putfield 124, 3) := by decide +kernel
theorem dX10_init_268 : decode cX10_init 268 = .ok (.aload_n 0, 1) := by decide +kernel
theorem dX10_init_269 : decode cX10_init 269 = .ok (.iconst 0, 1) := by decide +kernel
theorem dX10_init_270 : decode cX10_init 270 = .ok (.putfield 127, 3) := by decide +kernel
theorem dX10_init_273 : decode cX10_init 273 = .ok (.aload_n 0, 1) := by decide +kernel
theorem dX10_init_274 : decode cX10_init 274 = .ok (.bipush 104, 2) := by decide +kernel
theorem dX10_init_276 : decode cX10_init 276 = .ok (.putfield 130, 3) := by decide +kernel
theorem dX10_init_279 : decode cX10_init 279 = .ok (.aload_n 0, 1) := by decide +kernel
theorem dX10_init_280 : decode cX10_init 280 = .ok (.bipush 109, 2) := by decide +kernel
theorem dX10_init_282 : decode cX10_init 282 = .ok (.putfield 133, 3) := by decide +kernel
theorem dX10_init_285 : decode cX10_init 285 = .ok (.aload_n 0, 1) := by decide +kernel
theorem dX10_init_286 : decode cX10_init 286 = .ok (.bipush 6, 2) := by decide +kernel
theorem dX10_init_288 : decode cX10_init 288 = .ok (.newarray .int, 2) := by decide +kernel
theorem dX10_init_290 : decode cX10_init 290 = .ok (.putfield 136, 3) := by decide +kernel
theorem dX10_init_293 : decode cX10_init 293 = .ok (.aload_n 0, 1) := by decide +kernel
theorem dX10_init_294 : decode cX10_init 294 = .ok (.iconst 3, 1) := by decide +kernel
theorem dX10_init_295 : decode cX10_init 295 = .ok (.newarray .int, 2) := by decide +kernel
theorem dX10_init_297 : decode cX10_init 297 = .ok (.putfield 139, 3) := by decide +kernel
theorem dX10_init_300 : decode cX10_init 300 = .ok (.aload_n 0, 1) := by decide +kernel
theorem dX10_init_301 : decode cX10_init 301 = .ok (.bipush 8, 2) := by decide +kernel
theorem dX10_init_303 : decode cX10_init 303 = .ok (.newarray .int, 2) := by decide +kernel
theorem dX10_init_305 : decode cX10_init 305 = .ok (.putfield 142, 3) := by decide +kernel
theorem dX10_init_308 : decode cX10_init 308 = .ok (.aload_n 0, 1) := by decide +kernel
theorem dX10_init_309 : decode cX10_init 309 = .ok (.bipush 8, 2) := by decide +kernel
theorem dX10_init_311 : decode cX10_init 311 = .ok (.newarray .long, 2) := by decide +kernel
theorem dX10_init_313 : decode cX10_init 313 = .ok (.putfield 145, 3) := by decide +kernel
theorem dX10_init_316 : decode cX10_init 316 = .ok (.aload_n 0, 1) := by decide +kernel
theorem dX10_init_317 : decode cX10_init 317 = .ok (.sipush 420, 3) := by decide +kernel
theorem dX10_init_320 : decode cX10_init 320 = .ok (.newarray .int, 2) := by decide +kernel
theorem dX10_init_322 : decode cX10_init 322 = .ok (.putfield 149, 3) := by decide +kernel
theorem dX10_init_325 : decode cX10_init 325 = .ok (.aload_n 0, 1) := by decide +kernel
theorem dX10_init_326 : decode cX10_init 326 = .ok (.bipush 40, 2) := by decide +kernel
theorem dX10_init_328 : decode cX10_init 328 = .ok (.newarray .int, 2) := by decide +kernel
theorem dX10_init_330 : decode cX10_init 330 = .ok (.putfield 152, 3) := by decide +kernel
theorem dX10_init_333 : decode cX10_init 333 = .ok (.aload_n 0, 1) := by decide +kernel
theorem dX10_init_334 : decode cX10_init 334 = .ok (.bipush 8, 2) := by decide +kernel
theorem dX10_init_336 : decode cX10_init 336 = .ok (.newarray .int, 2) := by decide +kernel
theorem dX10_init_338 : decode cX10_init 338 = .ok (.putfield 155, 3) := by decide +kernel
theorem dX10_init_341 : decode cX10_init 341 = .ok (.aload_n 0, 1) := by decide +kernel
theorem dX10_init_342 : decode cX10_init 342 = .ok (.bipush 8, 2) := by decide +kernel
theorem dX10_init_344 : decode cX10_init 344 = .ok (.newarray .int, 2) := by decide +kernel
theorem dX10_init_346 : decode cX10_init 346 = .ok (.putfield 158, 3) := by decide +kernel
theorem dX10_init_349 : decode cX10_init 349 = .ok (.aload_n 0, 1) := by decide +kernel
theorem dX10_init_350 : decode cX10_init 350 = .ok (.bipush 8, 2) := by decide +kernel
theorem dX10_init_352 : decode cX10_init 352 = .ok (.newarray .int, 2) := by decide +kernel
theorem dX10_init_354 : decode cX10_init 354 = .ok (.putfield 161, 3) := by decide +kernel
theorem dX10_init_357 : decode cX10_init 357 = .ok (.aload_n 0, 1) := by decide +kernel
theorem dX10_init_358 : decode cX10_init 358 = .ok (.iconst 0, 1) := by decide +kernel
theorem dX10_init_359 : decode cX10_init 359 = .ok (.putfield 164, 3) := by decide +kernel
theorem dX10_init_362 : decode cX10_init 362 = .ok (.aload_n 0, 1) := by decide +kernel
theorem dX10_init_363 : decode cX10_init 363 = .ok (.iconst 4, 1) := by decide +kernel
theorem dX10_init_364 : decode cX10_init 364 = .ok (.newarray .int, 2) := by decide +kernel
theorem dX10_init_366 : decode cX10_init 366 = .ok (.putfield 167, 3) := by decide +kernel
theorem dX10_init_369 : decode cX10_init 369 = .ok (.aload_n 0, 1) := by decide +kernel
theorem dX10_init_370 : decode cX10_init 370 = .ok (.iconst 4, 1) := by decide +kernel
theorem dX10_init_371 : decode cX10_init 371 = .ok (.newarray .int, 2) := by decide +kernel
theorem dX10_init_373 : decode cX10_init 373 = .ok (.putfield 170, 3) := by decide +kernel
theorem dX10_init_376 : decode cX10_init 376 = .ok (.aload_n 0, 1) := by decide +kernel
theorem dX10_init_377 : decode cX10_init 377 = .ok (.iconst 4, 1) := by decide +kernel
theorem dX10_init_378 : decode cX10_init 378 = .ok (.newarray .int, 2) := by decide +kernel
theorem dX10_init_380 : decode cX10_init 380 = .ok (.putfield 173, 3) := by decide +kernel
theorem dX10_init_383 : decode cX10_init 383 = .ok (.aload_n 0, 1) := by decide +kernel
theorem dX10_init_384 : decode cX10_init 384 = .ok (.iconst 4, 1) := by decide +kernel
theorem dX10_init_385 : decode cX10_init 385 = .ok (.newarray .int, 2) := by decide +kernel
theorem dX10_init_387 : decode cX10_init 387 = .ok (.putfield 176, 3) := by decide +kernel
theorem dX10_init_390 : decode cX10_init 390 = .ok (.aload_n 0, 1) := by decide +kernel
theorem dX10_init_391 : decode cX10_init 391 = .ok (.iconst 0, 1) := by decide +kernel
theorem dX10_init_392 : decode cX10_init 392 = .ok (.putfield 179, 3) := by decide +kernel
theorem dX10_init_395 : decode cX10_init 395 = .ok (.aload_n 0, 1) := by decide +kernel
theorem dX10_init_396 : decode cX10_init 396 = .ok (.bipush 20, 2) := by decide +kernel
theorem dX10_init_398 : decode cX10_init 398 = .ok (.newarray .int, 2) := by decide +kernel
theorem dX10_init_400 : decode cX10_init 400 = .ok (.putfield 182, 3) := by decide +kernel
theorem dX10_init_403 : decode cX10_init 403 = .ok (.aload_n 0, 1) := by decide +kernel
theorem dX10_init_404 : decode cX10_init 404 = .ok (.bipush 6, 2) := by decide +kernel
theorem dX10_init_406 : decode cX10_init 406 = .ok (.newarray .int, 2) := by decide +kernel
theorem dX10_init_408 : decode cX10_init 408 = .ok (.dup, 1) := by decide +kernel
theorem dX10_init_409 : decode cX10_init 409 = .ok (.iconst 0, 1) := by decide +kernel
theorem dX10_init_410 : decode cX10_init 410 = .ok (.iconst (-1), 1) := by decide +kernel
theorem dX10_init_411 : decode cX10_init 411 = .ok (.iastore, 1) := by decide +kernel
theorem dX10_init_412 : decode cX10_init 412 = .ok (.dup, 1) := by decide +kernel
theorem dX10_init_413 : decode cX10_init 413 = .ok (.iconst 1, 1) := by decide +kernel
theorem dX10_init_414 : decode cX10_init 414 = .ok (.iconst (-1), 1) := by decide +kernel
theorem dX10_init_415 : decode cX10_init 415 = .ok (.iastore, 1) := by decide +kernel
theorem dX10_init_416 : decode cX10_init 416 = .ok (.dup, 1) := by decide +kernel
theorem dX10_init_417 : decode cX10_init 417 = .ok (.iconst 2, 1) := by decide +kernel
theorem dX10_init_418 : decode cX10_init 418 = .ok (.iconst (-1), 1) := by decide +kernel
theorem dX10_init_419 : decode cX10_init 419 = .ok (.iastore, 1) := by decide +kernel
theorem dX10_init_420 : decode cX10_init 420 = .ok (.dup, 1) := by decide +kernel
theorem dX10_init_421 : decode cX10_init 421 = .ok (.iconst 3, 1) := by decide +kernel
theorem dX10_init_422 : decode cX10_init 422 = .ok (.iconst (-1), 1) := by decide +kernel
theorem dX10_init_423 : decode cX10_init 423 = .ok (.iastore, 1) := by decide +kernel
theorem dX10_init_424 : decode cX10_init 424 = .ok (.dup, 1) := by decide +kernel
theorem dX10_init_425 : decode cX10_init 425 = .ok (.iconst 4, 1) := by decide +kernel
theorem dX10_init_426 : decode cX10_init 426 = .ok (.iconst (-1), 1) := by decide +kernel
theorem dX10_init_427 : decode cX10_init 427 = .ok (.iastore, 1) := by decide +kernel
theorem dX10_init_428 : decode cX10_init 428 = .ok (.dup, 1) := by decide +kernel
theorem dX10_init_429 : decode cX10_init 429 = .ok (.iconst 5, 1) := by decide +kernel
theorem dX10_init_430 : decode cX10_init 430 = .ok (.iconst (-1), 1) := by decide +kernel
theorem dX10_init_431 : decode cX10_init 431 = .ok (.iastore, 1) := by decide +kernel
theorem dX10_init_432 : decode cX10_init 432 = .ok (.putfield 185, 3) := by decide +kernel
theorem dX10_init_435 : decode cX10_init 435 = .ok (.aload_n 0, 1) := by decide +kernel
theorem dX10_init_436 : decode cX10_init 436 = .ok (.bipush 6, 2) := by decide +kernel
theorem dX10_init_438 : decode cX10_init 438 = .ok (.newarray .int, 2) := by decide +kernel
theorem dX10_init_440 : decode cX10_init 440 = .ok (.putfield 188, 3) := by decide +kernel
theorem dX10_init_443 : decode cX10_init 443 = .ok (.aload_n 0, 1) := by decide +kernel
theorem dX10_init_444 : decode cX10_init 444 = .ok (.sipush 360, 3) := by decide +kernel
theorem dX10_init_447 : decode cX10_init 447 = .ok (.newarray .long, 2) := by decide +kernel
theorem dX10_init_449 : decode cX10_init 449 = .ok (.putfield 191, 3) := by decide +kernel
theorem dX10_init_452 : decode cX10_init 452 = .ok (.aload_n 0, 1) := by decide +kernel
theorem dX10_init_453 : decode cX10_init 453 = .ok (.bipush 60, 2) := by decide +kernel
theorem dX10_init_455 : decode cX10_init 455 = .ok (.newarray .long, 2) := by decide +kernel
theorem dX10_init_457 : decode cX10_init 457 = .ok (.putfield 194, 3) := by decide +kernel
theorem dX10_init_460 : decode cX10_init 460 = .ok (.return_, 1) := by decide +kernel
theorem dX10_in_0 : decode cX10_in 0 = .ok (.iload_n 1, 1) := by decide +kernel
theorem dX10_in_1 : decode cX10_in 1 = .ok (.iload_n 2, 1) := by decide +kernel
theorem dX10_in_2 : decode cX10_in 2 = .ok (.if_icmp .lt 12, 3) := by decide +kernel
theorem dX10_in_5 : decode cX10_in 5 = .ok (.iload_n 1, 1) := by decide +kernel
theorem dX10_in_6 : decode cX10_in 6 = .ok (.iload_n 3, 1) := by decide +kernel
theorem dX10_in_7 : decode cX10_in 7 = .ok (.if_icmp .gt 7, 3) := by decide +kernel
theorem dX10_in_10 : decode cX10_in 10 = .ok (.iconst 1, 1) := by decide +kernel
theorem dX10_in_11 : decode cX10_in 11 = .ok (.goto 4, 3) := by decide +kernel
theorem dX10_in_14 : decode cX10_in 14 = .ok (.iconst 0, 1) := by decide +kernel
theorem dX10_in_15 : decode cX10_in 15 = .ok (.ireturn, 1) := by decide +kernel
theorem dX10_abs_0 : decode cX10_abs 0 = .ok (.iload_n 1, 1) := by decide +kernel
theorem dX10_abs_1 : decode cX10_abs 1 = .ok (.ifCond .ge 8, 3) := by decide +kernel
theorem dX10_abs_4 : decode cX10_abs 4 = .ok (.iload_n 1, 1) := by decide +kernel
theorem dX10_abs_5 : decode cX10_abs 5 = .ok (.ineg, 1) := by decide +kernel
theorem dX10_abs_6 : decode cX10_abs 6 = .ok (.goto 4, 3) := by decide +kernel
theorem dX10_abs_9 : decode cX10_abs 9 = .ok (.iload_n 1, 1) := by decide +kernel
theorem dX10_abs_10 : decode cX10_abs 10 = .ok (.ireturn, 1) := by decide +kernel
theorem dX10_ones_0 : decode cX10_ones 0 = .ok (.iconst 0, 1) := by decide +kernel
theorem dX10_ones_1 : decode cX10_ones 1 = .ok (.istore_n 2, 1) := by decide +kernel
theorem dX10_ones_2 : decode cX10_ones 2 = .ok (.iload_n 1, 1) := by decide +kernel
theorem dX10_ones_3 : decode cX10_ones 3 = .ok (.istore_n 3, 1) := by decide +kernel
theorem dX10_ones_4 : decode cX10_ones 4 = .ok (.iload_n 3, 1) := by decide +kernel
theorem dX10_ones_5 : decode cX10_ones 5 = .ok (.ifCond .eq 15, 3) := by decide +kernel
theorem dX10_ones_8 : decode cX10_ones 8 = .ok (.iinc 2 1, 3) := by decide +kernel
theorem dX10_ones_11 : decode cX10_ones 11 = .ok (.iload_n 3, 1) := by decide +kernel
theorem dX10_ones_12 : decode cX10_ones 12 = .ok (.iload_n 3, 1) := by decide +kernel
theorem dX10_ones_13 : decode cX10_ones 13 = .ok (.iconst 1, 1) := by decide +kernel
theorem dX10_ones_14 : decode cX10_ones 14 = .ok (.isub, 1) := by decide +kernel
theorem dX10_ones_15 : decode cX10_ones 15 = .ok (.iand, 1) := by decide +kernel
theorem dX10_ones_16 : decode cX10_ones 16 = .ok (.istore_n 3, 1) := by decide +kernel
theorem dX10_ones_17 : decode cX10_ones 17 = .ok (.goto (-13), 3) := by decide +kernel
theorem dX10_ones_20 : decode cX10_ones 20 = .ok (.iload_n 2, 1) := by decide +kernel
theorem dX10_ones_21 : decode cX10_ones 21 = .ok (.ireturn, 1) := by decide +kernel
theorem dX10_isTown_0 : decode cX10_isTown 0 = .ok (.aload_n 0, 1) := by decide +kernel
theorem dX10_isTown_1 : decode cX10_isTown 1 = .ok (.iload_n 1, 1) := by decide +kernel
theorem dX10_isTown_2 : decode cX10_isTown 2 = .ok (.iconst 0, 1) := by decide +kernel
theorem dX10_isTown_3 : decode cX10_isTown 3 = .ok (.aload_n 0, 1) := by decide +kernel
theorem dX10_isTown_4 : decode cX10_isTown 4 = .ok (.getfield 7, 3) := by decide +kernel
theorem dX10_isTown_7 : decode cX10_isTown 7 = .ok (.iconst 1, 1) := by decide +kernel
theorem dX10_isTown_8 : decode cX10_isTown 8 = .ok (.isub, 1) := by decide +kernel
theorem dX10_isTown_9 : decode cX10_isTown 9 = .ok (.invokevirtual 197, 3) := by decide +kernel
theorem dX10_isTown_12 : decode cX10_isTown 12 = .ok (.ireturn, 1) := by decide +kernel
theorem dX10_isFamily_0 : decode cX10_isFamily 0 = .ok (.aload_n 0, 1) := by decide +kernel
theorem dX10_isFamily_1 : decode cX10_isFamily 1 = .ok (.iload_n 1, 1) := by decide +kernel
theorem dX10_isFamily_2 : decode cX10_isFamily 2 = .ok (.iconst 0, 1) := by decide +kernel
theorem dX10_isFamily_3 : decode cX10_isFamily 3 = .ok (.aload_n 0, 1) := by decide +kernel
theorem dX10_isFamily_4 : decode cX10_isFamily 4 = .ok (.getfield 13, 3) := by decide +kernel
theorem dX10_isFamily_7 : decode cX10_isFamily 7 = .ok (.iconst 1, 1) := by decide +kernel
theorem dX10_isFamily_8 : decode cX10_isFamily 8 = .ok (.isub, 1) := by decide +kernel
theorem dX10_isFamily_9 : decode cX10_isFamily 9 = .ok (.invokevirtual 197, 3) := by decide +kernel
theorem dX10_isFamily_12 : decode cX10_isFamily 12 = .ok (.ireturn, 1) := by decide +kernel
theorem dX10_manyIn_0 : decode cX10_manyIn 0 = .ok (.iconst 0, 1) := by decide +kernel
theorem dX10_manyIn_1 : decode cX10_manyIn 1 = .ok (.istore_n 2, 1) := by decide +kernel
theorem dX10_manyIn_2 : decode cX10_manyIn 2 = .ok (.iconst 0, 1) := by decide +kernel
theorem dX10_manyIn_3 : decode cX10_manyIn 3 = .ok (.istore_n 3, 1) := by decide +kernel
theorem dX10_manyIn_4 : decode cX10_manyIn 4 = .ok (.iload_n 3, 1) := by decide +kernel
theorem dX10_manyIn_5 : decode cX10_manyIn 5 = .ok (.aload_n 0, 1) := by decide +kernel
theorem dX10_manyIn_6 : decode cX10_manyIn 6 = .ok (.getfield 13, 3) := by decide +kernel
theorem dX10_manyIn_9 : decode cX10_manyIn 9 = .ok (.if_icmp .ge 27, 3) := by decide +kernel
theorem dX10_manyIn_12 : decode cX10_manyIn 12 = .ok (.iload_n 2, 1) := by decide +kernel
theorem dX10_manyIn_13 : decode cX10_manyIn 13 = .ok (.aload_n 0, 1) := by decide +kernel
theorem dX10_manyIn_14 : decode cX10_manyIn 14 = .ok (.getfield 41, 3) := by decide +kernel
theorem dX10_manyIn_17 : decode cX10_manyIn 17 = .ok (.iload_n 3, 1) := by decide +kernel
theorem dX10_manyIn_18 : decode cX10_manyIn 18 = .ok (.iaload, 1) := by decide +kernel
theorem dX10_manyIn_19 : decode cX10_manyIn 19 = .ok (.iload_n 1, 1) := by decide +kernel
theorem dX10_manyIn_20 : decode cX10_manyIn 20 = .ok (.if_icmp .ne 7, 3) := by decide +kernel
theorem dX10_manyIn_23 : decode cX10_manyIn 23 = .ok (.iconst 1, 1) := by decide +kernel
theorem dX10_manyIn_24 : decode cX10_manyIn 24 = .ok (.goto 4, 3) := by decide +kernel
theorem dX10_manyIn_27 : decode cX10_manyIn 27 = .ok (.iconst 0, 1) := by decide +kernel
theorem dX10_manyIn_28 : decode cX10_manyIn 28 = .ok (.iadd, 1) := by decide +kernel
theorem dX10_manyIn_29 : decode cX10_manyIn 29 = .ok (.istore_n 2, 1) := by decide +kernel
theorem dX10_manyIn_30 : decode cX10_manyIn 30 = .ok (.iinc 3 1, 3) := by decide +kernel
theorem dX10_manyIn_33 : decode cX10_manyIn 33 = .ok (.goto (-29), 3) := by decide +kernel
theorem dX10_manyIn_36 : decode cX10_manyIn 36 = .ok (.iload_n 2, 1) := by decide +kernel
theorem dX10_manyIn_37 : decode cX10_manyIn 37 = .ok (.ireturn, 1) := by decide +kernel
theorem dX10_isFree_0 : decode cX10_isFree 0 = .ok (.aload_n 0, 1) := by decide +kernel
theorem dX10_isFree_1 : decode cX10_isFree 1 = .ok (.iload_n 1, 1) := by decide +kernel
theorem dX10_isFree_2 : decode cX10_isFree 2 = .ok (.invokevirtual 201, 3) := by decide +kernel
theorem dX10_isFree_5 : decode cX10_isFree 5 = .ok (.aload_n 0, 1) := by decide +kernel
theorem dX10_isFree_6 : decode cX10_isFree 6 = .ok (.getfield 19, 3) := by decide +kernel
theorem dX10_isFree_9 : decode cX10_isFree 9 = .ok (.iload_n 1, 1) := by decide +kernel
theorem dX10_isFree_10 : decode cX10_isFree 10 = .ok (.iaload, 1) := by decide +kernel
theorem dX10_isFree_11 : decode cX10_isFree 11 = .ok (.if_icmp .ge 7, 3) := by decide +kernel
theorem dX10_isFree_14 : decode cX10_isFree 14 = .ok (.iconst 1, 1) := by decide +kernel
theorem dX10_isFree_15 : decode cX10_isFree 15 = .ok (.goto 4, 3) := by decide +kernel
theorem dX10_isFree_18 : decode cX10_isFree 18 = .ok (.iconst 0, 1) := by decide +kernel
theorem dX10_isFree_19 : decode cX10_isFree 19 = .ok (.ireturn, 1) := by decide +kernel
theorem dX10_town_0 : decode cX10_town 0 = .ok (.aload_n 0, 1) := by decide +kernel
theorem dX10_town_1 : decode cX10_town 1 = .ok (.iload_n 1, 1) := by decide +kernel
theorem dX10_town_2 : decode cX10_town 2 = .ok (.iconst 1, 1) := by decide +kernel
theorem dX10_town_3 : decode cX10_town 3 = .ok (.bipush 8, 2) := by decide +kernel
theorem dX10_town_5 : decode cX10_town 5 = .ok (.invokevirtual 197, 3) := by decide +kernel
theorem dX10_town_8 : decode cX10_town 8 = .ok (.ifCond .ne 6, 3) := by decide +kernel
theorem dX10_town_11 : decode cX10_town 11 = .ok (.bipush (-2), 2) := by decide +kernel
theorem dX10_town_13 : decode cX10_town 13 = .ok (.ireturn, 1) := by decide +kernel
theorem dX10_town_14 : decode cX10_town 14 = .ok (.aload_n 0, 1) := by decide +kernel
theorem dX10_town_15 : decode cX10_town 15 = .ok (.getfield 7, 3) := by decide +kernel
theorem dX10_town_18 : decode cX10_town 18 = .ok (.iconst 4, 1) := by decide +kernel
theorem dX10_town_19 : decode cX10_town 19 = .ok (.if_icmp .ne 6, 3) := by decide +kernel
theorem dX10_town_22 : decode cX10_town 22 = .ok (.bipush (-4), 2) := by decide +kernel
theorem dX10_town_24 : decode cX10_town 24 = .ok (.ireturn, 1) := by decide +kernel
theorem dX10_town_25 : decode cX10_town 25 = .ok (.aload_n 0, 1) := by decide +kernel
theorem dX10_town_26 : decode cX10_town 26 = .ok (.getfield 19, 3) := by decide +kernel
theorem dX10_town_29 : decode cX10_town 29 = .ok (.aload_n 0, 1) := by decide +kernel
theorem dX10_town_30 : decode cX10_town 30 = .ok (.getfield 7, 3) := by decide +kernel
theorem dX10_town_33 : decode cX10_town 33 = .ok (.iload_n 1, 1) := by decide +kernel
theorem dX10_town_34 : decode cX10_town 34 = .ok (.iastore, 1) := by decide +kernel
theorem dX10_town_35 : decode cX10_town 35 = .ok (.aload_n 0, 1) := by decide +kernel
theorem dX10_town_36 : decode cX10_town 36 = .ok (.dup, 1) := by decide +kernel
theorem dX10_town_37 : decode cX10_town 37 = .ok (.getfield 7, 3) := by decide +kernel
theorem dX10_town_40 : decode cX10_town 40 = .ok (.iconst 1, 1) := by decide +kernel
theorem dX10_town_41 : decode cX10_town 41 = .ok (.iadd, 1) := by decide +kernel
theorem dX10_town_42 : decode cX10_town 42 = .ok (.putfield 7, 3) := by decide +kernel
theorem dX10_town_45 : decode cX10_town 45 = .ok (.aload_n 0, 1) := by decide +kernel
theorem dX10_town_46 : decode cX10_town 46 = .ok (.getfield 7, 3) := by decide +kernel
theorem dX10_town_49 : decode cX10_town 49 = .ok (.iconst 1, 1) := by decide +kernel
theorem dX10_town_50 : decode cX10_town 50 = .ok (.isub, 1) := by decide +kernel
theorem dX10_town_51 : decode cX10_town 51 = .ok (.ireturn, 1) := by decide +kernel
theorem dX10_add_0 : decode cX10_add 0 = .ok (.aload_n 0, 1) := by decide +kernel
theorem dX10_add_1 : decode cX10_add 1 = .ok (.getfield 35, 3) := by decide +kernel
theorem dX10_add_4 : decode cX10_add 4 = .ok (.aload_n 0, 1) := by decide +kernel
theorem dX10_add_5 : decode cX10_add 5 = .ok (.getfield 13, 3) := by decide +kernel
theorem dX10_add_8 : decode cX10_add 8 = .ok (.iload_n 1, 1) := by decide +kernel
theorem dX10_add_9 : decode cX10_add 9 = .ok (.iastore, 1) := by decide +kernel
theorem dX10_add_10 : decode cX10_add 10 = .ok (.aload_n 0, 1) := by decide +kernel
theorem dX10_add_11 : decode cX10_add 11 = .ok (.getfield 38, 3) := by decide +kernel
theorem dX10_add_14 : decode cX10_add 14 = .ok (.aload_n 0, 1) := by decide +kernel
theorem dX10_add_15 : decode cX10_add 15 = .ok (.getfield 13, 3) := by decide +kernel
theorem dX10_add_18 : decode cX10_add 18 = .ok (.iload_n 2, 1) := by decide +kernel
theorem dX10_add_19 : decode cX10_add 19 = .ok (.iastore, 1) := by decide +kernel
theorem dX10_add_20 : decode cX10_add 20 = .ok (.aload_n 0, 1) := by decide +kernel
theorem dX10_add_21 : decode cX10_add 21 = .ok (.getfield 41, 3) := by decide +kernel
theorem dX10_add_24 : decode cX10_add 24 = .ok (.aload_n 0, 1) := by decide +kernel
theorem dX10_add_25 : decode cX10_add 25 = .ok (.getfield 13, 3) := by decide +kernel
theorem dX10_add_28 : decode cX10_add 28 = .ok (.iload_n 3, 1) := by decide +kernel
theorem dX10_add_29 : decode cX10_add 29 = .ok (.iastore, 1) := by decide +kernel
theorem dX10_add_30 : decode cX10_add 30 = .ok (.aload_n 0, 1) := by decide +kernel
theorem dX10_add_31 : decode cX10_add 31 = .ok (.getfield 44, 3) := by decide +kernel
theorem dX10_add_34 : decode cX10_add 34 = .ok (.aload_n 0, 1) := by decide +kernel
theorem dX10_add_35 : decode cX10_add 35 = .ok (.getfield 13, 3) := by decide +kernel
theorem dX10_add_38 : decode cX10_add 38 = .ok (.iload_n 3, 1) := by decide +kernel
theorem dX10_add_39 : decode cX10_add 39 = .ok (.iastore, 1) := by decide +kernel
theorem dX10_add_40 : decode cX10_add 40 = .ok (.aload_n 0, 1) := by decide +kernel
theorem dX10_add_41 : decode cX10_add 41 = .ok (.dup, 1) := by decide +kernel
theorem dX10_add_42 : decode cX10_add 42 = .ok (.getfield 13, 3) := by decide +kernel
theorem dX10_add_45 : decode cX10_add 45 = .ok (.iconst 1, 1) := by decide +kernel
theorem dX10_add_46 : decode cX10_add 46 = .ok (.iadd, 1) := by decide +kernel
theorem dX10_add_47 : decode cX10_add 47 = .ok (.putfield 13, 3) := by decide +kernel
theorem dX10_add_50 : decode cX10_add 50 = .ok (.aload_n 0, 1) := by decide +kernel
theorem dX10_add_51 : decode cX10_add 51 = .ok (.iconst 0, 1) := by decide +kernel
theorem dX10_add_52 : decode cX10_add 52 = .ok (.putfield 98, 3) := by decide +kernel
theorem dX10_add_55 : decode cX10_add 55 = .ok (.return_, 1) := by decide +kernel
theorem dX10_family_0 : decode cX10_family 0 = .ok (.aload_n 0, 1) := by decide +kernel
theorem dX10_family_1 : decode cX10_family 1 = .ok (.iload_n 3, 1) := by decide +kernel
theorem dX10_family_2 : decode cX10_family 2 = .ok (.invokevirtual 205, 3) := by decide +kernel
theorem dX10_family_5 : decode cX10_family 5 = .ok (.ifCond .ne 5, 3) := by decide +kernel
theorem dX10_family_8 : decode cX10_family 8 = .ok (.iconst (-1), 1) := by decide +kernel
theorem dX10_family_9 : decode cX10_family 9 = .ok (.ireturn, 1) := by decide +kernel
theorem dX10_family_10 : decode cX10_family 10 = .ok (.aload_n 0, 1) := by decide +kernel
theorem dX10_family_11 : decode cX10_family 11 = .ok (.iload_n 1, 1) := by decide +kernel
theorem dX10_family_12 : decode cX10_family 12 = .ok (.iconst 0, 1) := by decide +kernel
theorem dX10_family_13 : decode cX10_family 13 = .ok (.iconst 3, 1) := by decide +kernel
theorem dX10_family_14 : decode cX10_family 14 = .ok (.invokevirtual 197, 3) := by decide +kernel
theorem dX10_family_17 : decode cX10_family 17 = .ok (.ifCond .eq 14, 3) := by decide +kernel
theorem dX10_family_20 : decode cX10_family 20 = .ok (.aload_n 0, 1) := by decide +kernel
theorem dX10_family_21 : decode cX10_family 21 = .ok (.iload_n 2, 1) := by decide +kernel
theorem dX10_family_22 : decode cX10_family 22 = .ok (.iconst 1, 1) := by decide +kernel
theorem dX10_family_23 : decode cX10_family 23 = .ok (.bipush 99, 2) := by decide +kernel
theorem dX10_family_25 : decode cX10_family 25 = .ok (.invokevirtual 197, 3) := by decide +kernel
theorem dX10_family_28 : decode cX10_family 28 = .ok (.ifCond .ne 6, 3) := by decide +kernel
theorem dX10_family_31 : decode cX10_family 31 = .ok (.bipush (-2), 2) := by decide +kernel
theorem dX10_family_33 : decode cX10_family 33 = .ok (.ireturn, 1) := by decide +kernel
theorem dX10_family_34 : decode cX10_family 34 = .ok (.aload_n 0, 1) := by decide +kernel
theorem dX10_family_35 : decode cX10_family 35 = .ok (.iload_n 3, 1) := by decide +kernel
theorem dX10_family_36 : decode cX10_family 36 = .ok (.invokevirtual 209, 3) := by decide +kernel
theorem dX10_family_39 : decode cX10_family 39 = .ok (.ifCond .ne 6, 3) := by decide +kernel
theorem dX10_family_42 : decode cX10_family 42 = .ok (.bipush (-3), 2) := by decide +kernel
theorem dX10_family_44 : decode cX10_family 44 = .ok (.ireturn, 1) := by decide +kernel
theorem dX10_family_45 : decode cX10_family 45 = .ok (.aload_n 0, 1) := by decide +kernel
theorem dX10_family_46 : decode cX10_family 46 = .ok (.getfield 13, 3) := by decide +kernel
theorem dX10_family_49 : decode cX10_family 49 = .ok (.bipush 8, 2) := by decide +kernel
theorem dX10_family_51 : decode cX10_family 51 = .ok (.if_icmp .ne 6, 3) := by decide +kernel
theorem dX10_family_54 : decode cX10_family 54 = .ok (.bipush (-4), 2) := by decide +kernel
theorem dX10_family_56 : decode cX10_family 56 = .ok (.ireturn, 1) := by decide +kernel
theorem dX10_family_57 : decode cX10_family 57 = .ok (.aload_n 0, 1) := by decide +kernel
theorem dX10_family_58 : decode cX10_family 58 = .ok (.iload_n 1, 1) := by decide +kernel
theorem dX10_family_59 : decode cX10_family 59 = .ok (.iload_n 2, 1) := by decide +kernel
theorem dX10_family_60 : decode cX10_family 60 = .ok (.iload_n 3, 1) := by decide +kernel
theorem dX10_family_61 : decode cX10_family 61 = .ok (.invokevirtual 212, 3) := by decide +kernel
theorem dX10_family_64 : decode cX10_family 64 = .ok (.aload_n 0, 1) := by decide +kernel
theorem dX10_family_65 : decode cX10_family 65 = .ok (.getfield 13, 3) := by decide +kernel
theorem dX10_family_68 : decode cX10_family 68 = .ok (.iconst 1, 1) := by decide +kernel
theorem dX10_family_69 : decode cX10_family 69 = .ok (.isub, 1) := by decide +kernel
theorem dX10_family_70 : decode cX10_family 70 = .ok (.ireturn, 1) := by decide +kernel
theorem dX10_put_0 : decode cX10_put 0 = .ok (.aload_n 0, 1) := by decide +kernel
theorem dX10_put_1 : decode cX10_put 1 = .ok (.iload_n 1, 1) := by decide +kernel
theorem dX10_put_2 : decode cX10_put 2 = .ok (.invokevirtual 205, 3) := by decide +kernel
theorem dX10_put_5 : decode cX10_put 5 = .ok (.ifCond .eq 13, 3) := by decide +kernel
theorem dX10_put_8 : decode cX10_put 8 = .ok (.aload_n 0, 1) := by decide +kernel
theorem dX10_put_9 : decode cX10_put 9 = .ok (.iload_n 2, 1) := by decide +kernel
theorem dX10_put_10 : decode cX10_put 10 = .ok (.iconst 0, 1) := by decide +kernel
theorem dX10_put_11 : decode cX10_put 11 = .ok (.iconst 5, 1) := by decide +kernel
theorem dX10_put_12 : decode cX10_put 12 = .ok (.invokevirtual 197, 3) := by decide +kernel
theorem dX10_put_15 : decode cX10_put 15 = .ok (.ifCond .ne 5, 3) := by decide +kernel
theorem dX10_put_18 : decode cX10_put 18 = .ok (.iconst (-1), 1) := by decide +kernel
theorem dX10_put_19 : decode cX10_put 19 = .ok (.ireturn, 1) := by decide +kernel
theorem dX10_put_20 : decode cX10_put 20 = .ok (.aload_n 0, 1) := by decide +kernel
theorem dX10_put_21 : decode cX10_put 21 = .ok (.iload_n 3, 1) := by decide +kernel
theorem dX10_put_22 : decode cX10_put 22 = .ok (.iconst 0, 1) := by decide +kernel
theorem dX10_put_23 : decode cX10_put 23 = .ok (.iload_n 2, 1) := by decide +kernel
theorem dX10_put_24 : decode cX10_put 24 = .ok (.iconst 3, 1) := by decide +kernel
theorem dX10_put_25 : decode cX10_put 25 = .ok (.if_icmp .ge 7, 3) := by decide +kernel
theorem dX10_put_28 : decode cX10_put 28 = .ok (.iconst 5, 1) := by decide +kernel
theorem dX10_put_29 : decode cX10_put 29 = .ok (.goto 16, 3) := by decide +kernel
theorem dX10_put_32 : decode cX10_put 32 = .ok (.iload_n 2, 1) := by decide +kernel
theorem dX10_put_33 : decode cX10_put 33 = .ok (.iconst 4, 1) := by decide +kernel
theorem dX10_put_34 : decode cX10_put 34 = .ok (.if_icmp .ne 8, 3) := by decide +kernel
theorem dX10_put_37 : decode cX10_put 37 = .ok (.bipush 99, 2) := by decide +kernel
theorem dX10_put_39 : decode cX10_put 39 = .ok (.goto 6, 3) := by decide +kernel
theorem dX10_put_42 : decode cX10_put 42 = .ok (.sipush 999, 3) := by decide +kernel
theorem dX10_put_45 : decode cX10_put 45 = .ok (.invokevirtual 197, 3) := by decide +kernel
theorem dX10_put_48 : decode cX10_put 48 = .ok (.ifCond .ne 6, 3) := by decide +kernel
theorem dX10_put_51 : decode cX10_put 51 = .ok (.bipush (-2), 2) := by decide +kernel
theorem dX10_put_53 : decode cX10_put 53 = .ok (.ireturn, 1) := by decide +kernel
theorem dX10_put_54 : decode cX10_put 54 = .ok (.iload_n 2, 1) := by decide +kernel
theorem dX10_put_55 : decode cX10_put 55 = .ok (.iconst 3, 1) := by decide +kernel
theorem dX10_put_56 : decode cX10_put 56 = .ok (.if_icmp .ge 16, 3) := by decide +kernel
theorem dX10_put_59 : decode cX10_put 59 = .ok (.aload_n 0, 1) := by decide +kernel
theorem dX10_put_60 : decode cX10_put 60 = .ok (.getfield 23, 3) := by decide +kernel
theorem dX10_put_63 : decode cX10_put 63 = .ok (.iconst 3, 1) := by decide +kernel
theorem dX10_put_64 : decode cX10_put 64 = .ok (.iload_n 1, 1) := by decide +kernel
theorem dX10_put_65 : decode cX10_put 65 = .ok (.imul, 1) := by decide +kernel
theorem dX10_put_66 : decode cX10_put 66 = .ok (.iload_n 2, 1) := by decide +kernel
theorem dX10_put_67 : decode cX10_put 67 = .ok (.iadd, 1) := by decide +kernel
theorem dX10_put_68 : decode cX10_put 68 = .ok (.iaload, 1) := by decide +kernel
theorem dX10_put_69 : decode cX10_put 69 = .ok (.goto 37, 3) := by decide +kernel
theorem dX10_put_72 : decode cX10_put 72 = .ok (.iload_n 2, 1) := by decide +kernel
theorem dX10_put_73 : decode cX10_put 73 = .ok (.iconst 3, 1) := by decide +kernel
theorem dX10_put_74 : decode cX10_put 74 = .ok (.if_icmp .ne 12, 3) := by decide +kernel
theorem dX10_put_77 : decode cX10_put 77 = .ok (.aload_n 0, 1) := by decide +kernel
theorem dX10_put_78 : decode cX10_put 78 = .ok (.getfield 26, 3) := by decide +kernel
theorem dX10_put_81 : decode cX10_put 81 = .ok (.iload_n 1, 1) := by decide +kernel
theorem dX10_put_82 : decode cX10_put 82 = .ok (.iaload, 1) := by decide +kernel
theorem dX10_put_83 : decode cX10_put 83 = .ok (.goto 23, 3) := by decide +kernel
theorem dX10_put_86 : decode cX10_put 86 = .ok (.iload_n 2, 1) := by decide +kernel
theorem dX10_put_87 : decode cX10_put 87 = .ok (.iconst 4, 1) := by decide +kernel
theorem dX10_put_88 : decode cX10_put 88 = .ok (.if_icmp .ne 12, 3) := by decide +kernel
theorem dX10_put_91 : decode cX10_put 91 = .ok (.aload_n 0, 1) := by decide +kernel
theorem dX10_put_92 : decode cX10_put 92 = .ok (.getfield 29, 3) := by decide +kernel
theorem dX10_put_95 : decode cX10_put 95 = .ok (.iload_n 1, 1) := by decide +kernel
theorem dX10_put_96 : decode cX10_put 96 = .ok (.iaload, 1) := by decide +kernel
theorem dX10_put_97 : decode cX10_put 97 = .ok (.goto 9, 3) := by decide +kernel
theorem dX10_put_100 : decode cX10_put 100 = .ok (.aload_n 0, 1) := by decide +kernel
theorem dX10_put_101 : decode cX10_put 101 = .ok (.getfield 32, 3) := by decide +kernel
theorem dX10_put_104 : decode cX10_put 104 = .ok (.iload_n 1, 1) := by decide +kernel
theorem dX10_put_105 : decode cX10_put 105 = .ok (.iaload, 1) := by decide +kernel
theorem dX10_put_106 : decode cX10_put 106 = .ok (.istore 4, 2) := by decide +kernel
theorem dX10_put_108 : decode cX10_put 108 = .ok (.iload_n 2, 1) := by decide +kernel
theorem dX10_put_109 : decode cX10_put 109 = .ok (.iconst 3, 1) := by decide +kernel
theorem dX10_put_110 : decode cX10_put 110 = .ok (.if_icmp .ge 14, 3) := by decide +kernel
theorem dX10_put_113 : decode cX10_put 113 = .ok (.aload_n 0, 1) := by decide +kernel
theorem dX10_put_114 : decode cX10_put 114 = .ok (.getfield 23, 3) := by decide +kernel
theorem dX10_put_117 : decode cX10_put 117 = .ok (.iconst 3, 1) := by decide +kernel
theorem dX10_put_118 : decode cX10_put 118 = .ok (.iload_n 1, 1) := by decide +kernel
theorem dX10_put_119 : decode cX10_put 119 = .ok (.imul, 1) := by decide +kernel
theorem dX10_put_120 : decode cX10_put 120 = .ok (.iload_n 2, 1) := by decide +kernel
theorem dX10_put_121 : decode cX10_put 121 = .ok (.iadd, 1) := by decide +kernel
theorem dX10_put_122 : decode cX10_put 122 = .ok (.iload_n 3, 1) := by decide +kernel
theorem dX10_put_123 : decode cX10_put 123 = .ok (.iastore, 1) := by decide +kernel
theorem dX10_put_124 : decode cX10_put 124 = .ok (.iload_n 2, 1) := by decide +kernel
theorem dX10_put_125 : decode cX10_put 125 = .ok (.iconst 3, 1) := by decide +kernel
theorem dX10_put_126 : decode cX10_put 126 = .ok (.if_icmp .ne 10, 3) := by decide +kernel
theorem dX10_put_129 : decode cX10_put 129 = .ok (.aload_n 0, 1) := by decide +kernel
theorem dX10_put_130 : decode cX10_put 130 = .ok (.getfield 26, 3) := by decide +kernel
theorem dX10_put_133 : decode cX10_put 133 = .ok (.iload_n 1, 1) := by decide +kernel
theorem dX10_put_134 : decode cX10_put 134 = .ok (.iload_n 3, 1) := by decide +kernel
theorem dX10_put_135 : decode cX10_put 135 = .ok (.iastore, 1) := by decide +kernel
theorem dX10_put_136 : decode cX10_put 136 = .ok (.iload_n 2, 1) := by decide +kernel
theorem dX10_put_137 : decode cX10_put 137 = .ok (.iconst 4, 1) := by decide +kernel
theorem dX10_put_138 : decode cX10_put 138 = .ok (.if_icmp .ne 10, 3) := by decide +kernel
theorem dX10_put_141 : decode cX10_put 141 = .ok (.aload_n 0, 1) := by decide +kernel
theorem dX10_put_142 : decode cX10_put 142 = .ok (.getfield 29, 3) := by decide +kernel
theorem dX10_put_145 : decode cX10_put 145 = .ok (.iload_n 1, 1) := by decide +kernel
theorem dX10_put_146 : decode cX10_put 146 = .ok (.iload_n 3, 1) := by decide +kernel
theorem dX10_put_147 : decode cX10_put 147 = .ok (.iastore, 1) := by decide +kernel
theorem dX10_put_148 : decode cX10_put 148 = .ok (.iload_n 2, 1) := by decide +kernel
theorem dX10_put_149 : decode cX10_put 149 = .ok (.iconst 5, 1) := by decide +kernel
theorem dX10_put_150 : decode cX10_put 150 = .ok (.if_icmp .ne 10, 3) := by decide +kernel
theorem dX10_put_153 : decode cX10_put 153 = .ok (.aload_n 0, 1) := by decide +kernel
theorem dX10_put_154 : decode cX10_put 154 = .ok (.getfield 32, 3) := by decide +kernel
theorem dX10_put_157 : decode cX10_put 157 = .ok (.iload_n 1, 1) := by decide +kernel
theorem dX10_put_158 : decode cX10_put 158 = .ok (.iload_n 3, 1) := by decide +kernel
theorem dX10_put_159 : decode cX10_put 159 = .ok (.iastore, 1) := by decide +kernel
theorem dX10_put_160 : decode cX10_put 160 = .ok (.iload 4, 2) := by decide +kernel
theorem dX10_put_162 : decode cX10_put 162 = .ok (.ireturn, 1) := by decide +kernel
theorem dX10_of_0 : decode cX10_of 0 = .ok (.aload_n 0, 1) := by decide +kernel
theorem dX10_of_1 : decode cX10_of 1 = .ok (.iload_n 1, 1) := by decide +kernel
theorem dX10_of_2 : decode cX10_of 2 = .ok (.invokevirtual 216, 3) := by decide +kernel
theorem dX10_of_5 : decode cX10_of 5 = .ok (.ifCond .ne 7, 3) := by decide +kernel
theorem dX10_of_8 : decode cX10_of 8 = .ok (.ldc2_w 219, 3) := by decide +kernel
theorem dX10_of_11 : decode cX10_of 11 = .ok (.lreturn, 1) := by decide +kernel
theorem dX10_of_12 : decode cX10_of 12 = .ok (.iload_n 2, 1) := by decide +kernel
theorem dX10_of_13 : decode cX10_of 13 = .ok (.tableswitch 96 0 5 #[39, 47, 55, 63, 71, 84], 39) := by decide +kernel
theorem dX10_of_52 : decode cX10_of 52 = .ok (.aload_n 0, 1) := by decide +kernel
theorem dX10_of_53 : decode cX10_of 53 = .ok (.getfield 35, 3) := by decide +kernel
theorem dX10_of_56 : decode cX10_of 56 = .ok (.iload_n 1, 1) := by decide +kernel
theorem dX10_of_57 : decode cX10_of 57 = .ok (.iaload, 1) := by decide +kernel
theorem dX10_of_58 : decode cX10_of 58 = .ok (.i2l, 1) := by decide +kernel
theorem dX10_of_59 : decode cX10_of 59 = .ok (.lreturn, 1) := by decide +kernel
theorem dX10_of_60 : decode cX10_of 60 = .ok (.aload_n 0, 1) := by decide +kernel
theorem dX10_of_61 : decode cX10_of 61 = .ok (.getfield 38, 3) := by decide +kernel
theorem dX10_of_64 : decode cX10_of 64 = .ok (.iload_n 1, 1) := by decide +kernel
theorem dX10_of_65 : decode cX10_of 65 = .ok (.iaload, 1) := by decide +kernel
theorem dX10_of_66 : decode cX10_of 66 = .ok (.i2l, 1) := by decide +kernel
theorem dX10_of_67 : decode cX10_of 67 = .ok (.lreturn, 1) := by decide +kernel
theorem dX10_of_68 : decode cX10_of 68 = .ok (.aload_n 0, 1) := by decide +kernel
theorem dX10_of_69 : decode cX10_of 69 = .ok (.getfield 41, 3) := by decide +kernel
theorem dX10_of_72 : decode cX10_of 72 = .ok (.iload_n 1, 1) := by decide +kernel
theorem dX10_of_73 : decode cX10_of 73 = .ok (.iaload, 1) := by decide +kernel
theorem dX10_of_74 : decode cX10_of 74 = .ok (.i2l, 1) := by decide +kernel
theorem dX10_of_75 : decode cX10_of 75 = .ok (.lreturn, 1) := by decide +kernel
theorem dX10_of_76 : decode cX10_of 76 = .ok (.aload_n 0, 1) := by decide +kernel
theorem dX10_of_77 : decode cX10_of 77 = .ok (.getfield 44, 3) := by decide +kernel
theorem dX10_of_80 : decode cX10_of 80 = .ok (.iload_n 1, 1) := by decide +kernel
theorem dX10_of_81 : decode cX10_of 81 = .ok (.iaload, 1) := by decide +kernel
theorem dX10_of_82 : decode cX10_of 82 = .ok (.i2l, 1) := by decide +kernel
theorem dX10_of_83 : decode cX10_of 83 = .ok (.lreturn, 1) := by decide +kernel
theorem dX10_of_84 : decode cX10_of 84 = .ok (.aload_n 0, 1) := by decide +kernel
theorem dX10_of_85 : decode cX10_of 85 = .ok (.iload_n 1, 1) := by decide +kernel
theorem dX10_of_86 : decode cX10_of 86 = .ok (.aload_n 0, 1) := by decide +kernel
theorem dX10_of_87 : decode cX10_of 87 = .ok (.getfield 41, 3) := by decide +kernel
theorem dX10_of_90 : decode cX10_of 90 = .ok (.iload_n 1, 1) := by decide +kernel
theorem dX10_of_91 : decode cX10_of 91 = .ok (.iaload, 1) := by decide +kernel
theorem dX10_of_92 : decode cX10_of 92 = .ok (.invokevirtual 221, 3) := by decide +kernel
theorem dX10_of_95 : decode cX10_of 95 = .ok (.i2l, 1) := by decide +kernel
theorem dX10_of_96 : decode cX10_of 96 = .ok (.lreturn, 1) := by decide +kernel
theorem dX10_of_97 : decode cX10_of 97 = .ok (.aload_n 0, 1) := by decide +kernel
theorem dX10_of_98 : decode cX10_of 98 = .ok (.iload_n 1, 1) := by decide +kernel
theorem dX10_of_99 : decode cX10_of 99 = .ok (.aload_n 0, 1) := by decide +kernel
theorem dX10_of_100 : decode cX10_of 100 = .ok (.getfield 41, 3) := by decide +kernel
theorem dX10_of_103 : decode cX10_of 103 = .ok (.iload_n 1, 1) := by decide +kernel
theorem dX10_of_104 : decode cX10_of 104 = .ok (.iaload, 1) := by decide +kernel
theorem dX10_of_105 : decode cX10_of 105 = .ok (.invokevirtual 225, 3) := by decide +kernel
theorem dX10_of_108 : decode cX10_of 108 = .ok (.lreturn, 1) := by decide +kernel
theorem dX10_of_109 : decode cX10_of 109 = .ok (.ldc2_w 219, 3) := by decide +kernel
theorem dX10_of_112 : decode cX10_of 112 = .ok (.lreturn, 1) := by decide +kernel
theorem dX10_has_0 : decode cX10_has 0 = .ok (.aload_n 0, 1) := by decide +kernel
theorem dX10_has_1 : decode cX10_has 1 = .ok (.iload_n 1, 1) := by decide +kernel
theorem dX10_has_2 : decode cX10_has 2 = .ok (.invokevirtual 205, 3) := by decide +kernel
theorem dX10_has_5 : decode cX10_has 5 = .ok (.ifCond .eq 14, 3) := by decide +kernel
theorem dX10_has_8 : decode cX10_has 8 = .ok (.aload_n 0, 1) := by decide +kernel
theorem dX10_has_9 : decode cX10_has 9 = .ok (.iload_n 2, 1) := by decide +kernel
theorem dX10_has_10 : decode cX10_has 10 = .ok (.iconst 0, 1) := by decide +kernel
theorem dX10_has_11 : decode cX10_has 11 = .ok (.bipush 8, 2) := by decide +kernel
theorem dX10_has_13 : decode cX10_has 13 = .ok (.invokevirtual 197, 3) := by decide +kernel
theorem dX10_has_16 : decode cX10_has 16 = .ok (.ifCond .ne 5, 3) := by decide +kernel
theorem dX10_has_19 : decode cX10_has 19 = .ok (.iconst (-1), 1) := by decide +kernel
theorem dX10_has_20 : decode cX10_has 20 = .ok (.ireturn, 1) := by decide +kernel
theorem dX10_has_21 : decode cX10_has 21 = .ok (.iload_n 2, 1) := by decide +kernel
theorem dX10_has_22 : decode cX10_has 22 = .ok (.tableswitch 90 0 8 #[50, 57, 63, 90, 90, 90, 69, 76, 83], 50) := by decide +kernel
theorem dX10_has_72 : decode cX10_has 72 = .ok (.aload_n 0, 1) := by decide +kernel
theorem dX10_has_73 : decode cX10_has 73 = .ok (.getfield 19, 3) := by decide +kernel
theorem dX10_has_76 : decode cX10_has 76 = .ok (.iload_n 1, 1) := by decide +kernel
theorem dX10_has_77 : decode cX10_has 77 = .ok (.iaload, 1) := by decide +kernel
theorem dX10_has_78 : decode cX10_has 78 = .ok (.ireturn, 1) := by decide +kernel
theorem dX10_has_79 : decode cX10_has 79 = .ok (.aload_n 0, 1) := by decide +kernel
theorem dX10_has_80 : decode cX10_has 80 = .ok (.iload_n 1, 1) := by decide +kernel
theorem dX10_has_81 : decode cX10_has 81 = .ok (.invokevirtual 201, 3) := by decide +kernel
theorem dX10_has_84 : decode cX10_has 84 = .ok (.ireturn, 1) := by decide +kernel
theorem dX10_has_85 : decode cX10_has 85 = .ok (.aload_n 0, 1) := by decide +kernel
theorem dX10_has_86 : decode cX10_has 86 = .ok (.iload_n 1, 1) := by decide +kernel
theorem dX10_has_87 : decode cX10_has 87 = .ok (.invokevirtual 229, 3) := by decide +kernel
theorem dX10_has_90 : decode cX10_has 90 = .ok (.ireturn, 1) := by decide +kernel
theorem dX10_has_91 : decode cX10_has 91 = .ok (.aload_n 0, 1) := by decide +kernel
theorem dX10_has_92 : decode cX10_has 92 = .ok (.getfield 26, 3) := by decide +kernel
theorem dX10_has_95 : decode cX10_has 95 = .ok (.iload_n 1, 1) := by decide +kernel
theorem dX10_has_96 : decode cX10_has 96 = .ok (.iaload, 1) := by decide +kernel
theorem dX10_has_97 : decode cX10_has 97 = .ok (.ireturn, 1) := by decide +kernel
theorem dX10_has_98 : decode cX10_has 98 = .ok (.aload_n 0, 1) := by decide +kernel
theorem dX10_has_99 : decode cX10_has 99 = .ok (.getfield 29, 3) := by decide +kernel
theorem dX10_has_102 : decode cX10_has 102 = .ok (.iload_n 1, 1) := by decide +kernel
theorem dX10_has_103 : decode cX10_has 103 = .ok (.iaload, 1) := by decide +kernel
theorem dX10_has_104 : decode cX10_has 104 = .ok (.ireturn, 1) := by decide +kernel
theorem dX10_has_105 : decode cX10_has 105 = .ok (.aload_n 0, 1) := by decide +kernel
theorem dX10_has_106 : decode cX10_has 106 = .ok (.getfield 32, 3) := by decide +kernel
theorem dX10_has_109 : decode cX10_has 109 = .ok (.iload_n 1, 1) := by decide +kernel
theorem dX10_has_110 : decode cX10_has 110 = .ok (.iaload, 1) := by decide +kernel
theorem dX10_has_111 : decode cX10_has 111 = .ok (.ireturn, 1) := by decide +kernel
theorem dX10_has_112 : decode cX10_has 112 = .ok (.aload_n 0, 1) := by decide +kernel
theorem dX10_has_113 : decode cX10_has 113 = .ok (.getfield 23, 3) := by decide +kernel
theorem dX10_has_116 : decode cX10_has 116 = .ok (.iconst 3, 1) := by decide +kernel
theorem dX10_has_117 : decode cX10_has 117 = .ok (.iload_n 1, 1) := by decide +kernel
theorem dX10_has_118 : decode cX10_has 118 = .ok (.imul, 1) := by decide +kernel
theorem dX10_has_119 : decode cX10_has 119 = .ok (.iload_n 2, 1) := by decide +kernel
theorem dX10_has_120 : decode cX10_has 120 = .ok (.iadd, 1) := by decide +kernel
theorem dX10_has_121 : decode cX10_has 121 = .ok (.iconst 3, 1) := by decide +kernel
theorem dX10_has_122 : decode cX10_has 122 = .ok (.isub, 1) := by decide +kernel
theorem dX10_has_123 : decode cX10_has 123 = .ok (.iaload, 1) := by decide +kernel
theorem dX10_has_124 : decode cX10_has 124 = .ok (.ireturn, 1) := by decide +kernel
theorem dX10_feed_0 : decode cX10_feed 0 = .ok (.aload_n 0, 1) := by decide +kernel
theorem dX10_feed_1 : decode cX10_feed 1 = .ok (.iload_n 2, 1) := by decide +kernel
theorem dX10_feed_2 : decode cX10_feed 2 = .ok (.iconst 0, 1) := by decide +kernel
theorem dX10_feed_3 : decode cX10_feed 3 = .ok (.iconst 4, 1) := by decide +kernel
theorem dX10_feed_4 : decode cX10_feed 4 = .ok (.invokevirtual 197, 3) := by decide +kernel
theorem dX10_feed_7 : decode cX10_feed 7 = .ok (.ifCond .ne 6, 3) := by decide +kernel
theorem dX10_feed_10 : decode cX10_feed 10 = .ok (.bipush (-2), 2) := by decide +kernel
theorem dX10_feed_12 : decode cX10_feed 12 = .ok (.ireturn, 1) := by decide +kernel
theorem dX10_feed_13 : decode cX10_feed 13 = .ok (.aload_n 0, 1) := by decide +kernel
theorem dX10_feed_14 : decode cX10_feed 14 = .ok (.getfield 50, 3) := by decide +kernel
theorem dX10_feed_17 : decode cX10_feed 17 = .ok (.iload_n 2, 1) := by decide +kernel
theorem dX10_feed_18 : decode cX10_feed 18 = .ok (.iadd, 1) := by decide +kernel
theorem dX10_feed_19 : decode cX10_feed 19 = .ok (.bipush 120, 2) := by decide +kernel
theorem dX10_feed_21 : decode cX10_feed 21 = .ok (.if_icmp .le 6, 3) := by decide +kernel
theorem dX10_feed_24 : decode cX10_feed 24 = .ok (.bipush (-4), 2) := by decide +kernel
theorem dX10_feed_26 : decode cX10_feed 26 = .ok (.ireturn, 1) := by decide +kernel
theorem dX10_feed_27 : decode cX10_feed 27 = .ok (.iload_n 2, 1) := by decide +kernel
theorem dX10_feed_28 : decode cX10_feed 28 = .ok (.iconst 1, 1) := by decide +kernel
theorem dX10_feed_29 : decode cX10_feed 29 = .ok (.isub, 1) := by decide +kernel
theorem dX10_feed_30 : decode cX10_feed 30 = .ok (.istore_n 3, 1) := by decide +kernel
theorem dX10_feed_31 : decode cX10_feed 31 = .ok (.iload_n 3, 1) := by decide +kernel
theorem dX10_feed_32 : decode cX10_feed 32 = .ok (.ifCond .lt 38, 3) := by decide +kernel
theorem dX10_feed_35 : decode cX10_feed 35 = .ok (.aload_n 0, 1) := by decide +kernel
theorem dX10_feed_36 : decode cX10_feed 36 = .ok (.getfield 53, 3) := by decide +kernel
theorem dX10_feed_39 : decode cX10_feed 39 = .ok (.bipush 120, 2) := by decide +kernel
theorem dX10_feed_41 : decode cX10_feed 41 = .ok (.aload_n 0, 1) := by decide +kernel
theorem dX10_feed_42 : decode cX10_feed 42 = .ok (.getfield 50, 3) := by decide +kernel
theorem dX10_feed_45 : decode cX10_feed 45 = .ok (.iadd, 1) := by decide +kernel
theorem dX10_feed_46 : decode cX10_feed 46 = .ok (.iload_n 1, 1) := by decide +kernel
theorem dX10_feed_47 : decode cX10_feed 47 = .ok (.bipush 8, 2) := by decide +kernel
theorem dX10_feed_49 : decode cX10_feed 49 = .ok (.iload_n 3, 1) := by decide +kernel
theorem dX10_feed_50 : decode cX10_feed 50 = .ok (.imul, 1) := by decide +kernel
theorem dX10_feed_51 : decode cX10_feed 51 = .ok (.ishr, 1) := by decide +kernel
theorem dX10_feed_52 : decode cX10_feed 52 = .ok (.i2b, 1) := by decide +kernel
theorem dX10_feed_53 : decode cX10_feed 53 = .ok (.iastore, 1) := by decide +kernel
theorem dX10_feed_54 : decode cX10_feed 54 = .ok (.aload_n 0, 1) := by decide +kernel
theorem dX10_feed_55 : decode cX10_feed 55 = .ok (.dup, 1) := by decide +kernel
theorem dX10_feed_56 : decode cX10_feed 56 = .ok (.getfield 50, 3) := by decide +kernel
theorem dX10_feed_59 : decode cX10_feed 59 = .ok (.iconst 1, 1) := by decide +kernel
theorem dX10_feed_60 : decode cX10_feed 60 = .ok (.iadd, 1) := by decide +kernel
theorem dX10_feed_61 : decode cX10_feed 61 = .ok (.putfield 50, 3) := by decide +kernel
theorem dX10_feed_64 : decode cX10_feed 64 = .ok (.iinc 3 (-1), 3) := by decide +kernel
theorem dX10_feed_67 : decode cX10_feed 67 = .ok (.goto (-36), 3) := by decide +kernel
theorem dX10_feed_70 : decode cX10_feed 70 = .ok (.aload_n 0, 1) := by decide +kernel
theorem dX10_feed_71 : decode cX10_feed 71 = .ok (.getfield 50, 3) := by decide +kernel
theorem dX10_feed_74 : decode cX10_feed 74 = .ok (.ireturn, 1) := by decide +kernel
theorem dX10_next_0 : decode cX10_next 0 = .ok (.aload_n 0, 1) := by decide +kernel
theorem dX10_next_1 : decode cX10_next 1 = .ok (.getfield 68, 3) := by decide +kernel
theorem dX10_next_4 : decode cX10_next 4 = .ok (.aload_n 0, 1) := by decide +kernel
theorem dX10_next_5 : decode cX10_next 5 = .ok (.getfield 65, 3) := by decide +kernel
theorem dX10_next_8 : decode cX10_next 8 = .ok (.if_icmp .ge 20, 3) := by decide +kernel
theorem dX10_next_11 : decode cX10_next 11 = .ok (.aload_n 0, 1) := by decide +kernel
theorem dX10_next_12 : decode cX10_next 12 = .ok (.getfield 53, 3) := by decide +kernel
theorem dX10_next_15 : decode cX10_next 15 = .ok (.aload_n 0, 1) := by decide +kernel
theorem dX10_next_16 : decode cX10_next 16 = .ok (.getfield 62, 3) := by decide +kernel
theorem dX10_next_19 : decode cX10_next 19 = .ok (.aload_n 0, 1) := by decide +kernel
theorem dX10_next_20 : decode cX10_next 20 = .ok (.getfield 68, 3) := by decide +kernel
theorem dX10_next_23 : decode cX10_next 23 = .ok (.iadd, 1) := by decide +kernel
theorem dX10_next_24 : decode cX10_next 24 = .ok (.iaload, 1) := by decide +kernel
theorem dX10_next_25 : decode cX10_next 25 = .ok (.goto 4, 3) := by decide +kernel
theorem dX10_next_28 : decode cX10_next 28 = .ok (.iconst (-1), 1) := by decide +kernel
theorem dX10_next_29 : decode cX10_next 29 = .ok (.ireturn, 1) := by decide +kernel
theorem dX10_isDigit_0 : decode cX10_isDigit 0 = .ok (.aload_n 0, 1) := by decide +kernel
theorem dX10_isDigit_1 : decode cX10_isDigit 1 = .ok (.aload_n 0, 1) := by decide +kernel
theorem dX10_isDigit_2 : decode cX10_isDigit 2 = .ok (.invokevirtual 232, 3) := by decide +kernel
theorem dX10_isDigit_5 : decode cX10_isDigit 5 = .ok (.bipush 48, 2) := by decide +kernel
theorem dX10_isDigit_7 : decode cX10_isDigit 7 = .ok (.bipush 57, 2) := by decide +kernel
theorem dX10_isDigit_9 : decode cX10_isDigit 9 = .ok (.invokevirtual 197, 3) := by decide +kernel
theorem dX10_isDigit_12 : decode cX10_isDigit 12 = .ok (.ireturn, 1) := by decide +kernel
theorem dX10_takes_0 : decode cX10_takes 0 = .ok (.aload_n 0, 1) := by decide +kernel
theorem dX10_takes_1 : decode cX10_takes 1 = .ok (.invokevirtual 232, 3) := by decide +kernel
theorem dX10_takes_4 : decode cX10_takes 4 = .ok (.iload_n 1, 1) := by decide +kernel
theorem dX10_takes_5 : decode cX10_takes 5 = .ok (.if_icmp .eq 5, 3) := by decide +kernel
theorem dX10_takes_8 : decode cX10_takes 8 = .ok (.iconst 0, 1) := by decide +kernel
theorem dX10_takes_9 : decode cX10_takes 9 = .ok (.ireturn, 1) := by decide +kernel
theorem dX10_takes_10 : decode cX10_takes 10 = .ok (.aload_n 0, 1) := by decide +kernel
theorem dX10_takes_11 : decode cX10_takes 11 = .ok (.dup, 1) := by decide +kernel
theorem dX10_takes_12 : decode cX10_takes 12 = .ok (.getfield 68, 3) := by decide +kernel
theorem dX10_takes_15 : decode cX10_takes 15 = .ok (.iconst 1, 1) := by decide +kernel
theorem dX10_takes_16 : decode cX10_takes 16 = .ok (.iadd, 1) := by decide +kernel
theorem dX10_takes_17 : decode cX10_takes 17 = .ok (.putfield 68, 3) := by decide +kernel
theorem dX10_takes_20 : decode cX10_takes 20 = .ok (.iconst 1, 1) := by decide +kernel
theorem dX10_takes_21 : decode cX10_takes 21 = .ok (.ireturn, 1) := by decide +kernel
theorem dX10_takesWord_0 : decode cX10_takesWord 0 = .ok (.iload_n 2, 1) := by decide +kernel
theorem dX10_takesWord_1 : decode cX10_takesWord 1 = .ok (.iconst 1, 1) := by decide +kernel
theorem dX10_takesWord_2 : decode cX10_takesWord 2 = .ok (.isub, 1) := by decide +kernel
theorem dX10_takesWord_3 : decode cX10_takesWord 3 = .ok (.istore_n 3, 1) := by decide +kernel
theorem dX10_takesWord_4 : decode cX10_takesWord 4 = .ok (.iload_n 3, 1) := by decide +kernel
theorem dX10_takesWord_5 : decode cX10_takesWord 5 = .ok (.ifCond .lt 29, 3) := by decide +kernel
theorem dX10_takesWord_8 : decode cX10_takesWord 8 = .ok (.aload_n 0, 1) := by decide +kernel
theorem dX10_takesWord_9 : decode cX10_takesWord 9 = .ok (.bipush 96, 2) := by decide +kernel
theorem dX10_takesWord_11 : decode cX10_takesWord 11 = .ok (.iload_n 1, 1) := by decide +kernel
theorem dX10_takesWord_12 : decode cX10_takesWord 12 = .ok (.iconst 5, 1) := by decide +kernel
theorem dX10_takesWord_13 : decode cX10_takesWord 13 = .ok (.iload_n 3, 1) := by decide +kernel
theorem dX10_takesWord_14 : decode cX10_takesWord 14 = .ok (.imul, 1) := by decide +kernel
theorem dX10_takesWord_15 : decode cX10_takesWord 15 = .ok (.ishr, 1) := by decide +kernel
theorem dX10_takesWord_16 : decode cX10_takesWord 16 = .ok (.bipush 31, 2) := by decide +kernel
theorem dX10_takesWord_18 : decode cX10_takesWord 18 = .ok (.iand, 1) := by decide +kernel
theorem dX10_takesWord_19 : decode cX10_takesWord 19 = .ok (.iadd, 1) := by decide +kernel
theorem dX10_takesWord_20 : decode cX10_takesWord 20 = .ok (.invokevirtual 236, 3) := by decide +kernel
theorem dX10_takesWord_23 : decode cX10_takesWord 23 = .ok (.ifCond .ne 5, 3) := by decide +kernel
theorem dX10_takesWord_26 : decode cX10_takesWord 26 = .ok (.iconst 0, 1) := by decide +kernel
theorem dX10_takesWord_27 : decode cX10_takesWord 27 = .ok (.ireturn, 1) := by decide +kernel
theorem dX10_takesWord_28 : decode cX10_takesWord 28 = .ok (.iinc 3 (-1), 3) := by decide +kernel
theorem dX10_takesWord_31 : decode cX10_takesWord 31 = .ok (.goto (-27), 3) := by decide +kernel
theorem dX10_takesWord_34 : decode cX10_takesWord 34 = .ok (.aload_n 0, 1) := by decide +kernel
theorem dX10_takesWord_35 : decode cX10_takesWord 35 = .ok (.bipush 32, 2) := by decide +kernel
theorem dX10_takesWord_37 : decode cX10_takesWord 37 = .ok (.invokevirtual 236, 3) := by decide +kernel
theorem dX10_takesWord_40 : decode cX10_takesWord 40 = .ok (.ireturn, 1) := by decide +kernel
theorem dX10_takesNumber_0 : decode cX10_takesNumber 0 = .ok (.aload_n 0, 1) := by decide +kernel
theorem dX10_takesNumber_1 : decode cX10_takesNumber 1 = .ok (.invokevirtual 239, 3) := by decide +kernel
theorem dX10_takesNumber_4 : decode cX10_takesNumber 4 = .ok (.ifCond .ne 5, 3) := by decide +kernel
theorem dX10_takesNumber_7 : decode cX10_takesNumber 7 = .ok (.iconst 0, 1) := by decide +kernel
theorem dX10_takesNumber_8 : decode cX10_takesNumber 8 = .ok (.ireturn, 1) := by decide +kernel
theorem dX10_takesNumber_9 : decode cX10_takesNumber 9 = .ok (.aload_n 0, 1) := by decide +kernel
theorem dX10_takesNumber_10 : decode cX10_takesNumber 10 = .ok (.iconst 0, 1) := by decide +kernel
theorem dX10_takesNumber_11 : decode cX10_takesNumber 11 = .ok (.putfield 71, 3) := by decide +kernel
theorem dX10_takesNumber_14 : decode cX10_takesNumber 14 = .ok (.iconst 0, 1) := by decide +kernel
theorem dX10_takesNumber_15 : decode cX10_takesNumber 15 = .ok (.istore_n 1, 1) := by decide +kernel
theorem dX10_takesNumber_16 : decode cX10_takesNumber 16 = .ok (.iload_n 1, 1) := by decide +kernel
theorem dX10_takesNumber_17 : decode cX10_takesNumber 17 = .ok (.iconst 3, 1) := by decide +kernel
theorem dX10_takesNumber_18 : decode cX10_takesNumber 18 = .ok (.if_icmp .ge 45, 3) := by decide +kernel
theorem dX10_takesNumber_21 : decode cX10_takesNumber 21 = .ok (.aload_n 0, 1) := by decide +kernel
theorem dX10_takesNumber_22 : decode cX10_takesNumber 22 = .ok (.invokevirtual 239, 3) := by decide +kernel
theorem dX10_takesNumber_25 : decode cX10_takesNumber 25 = .ok (.ifCond .eq 38, 3) := by decide +kernel
theorem dX10_takesNumber_28 : decode cX10_takesNumber 28 = .ok (.aload_n 0, 1) := by decide +kernel
theorem dX10_takesNumber_29 : decode cX10_takesNumber 29 = .ok (.bipush 10, 2) := by decide +kernel
theorem dX10_takesNumber_31 : decode cX10_takesNumber 31 = .ok (.aload_n 0, 1) := by decide +kernel
theorem dX10_takesNumber_32 : decode cX10_takesNumber 32 = .ok (.getfield 71, 3) := by decide +kernel
theorem dX10_takesNumber_35 : decode cX10_takesNumber 35 = .ok (.imul, 1) := by decide +kernel
theorem dX10_takesNumber_36 : decode cX10_takesNumber 36 = .ok (.aload_n 0, 1) := by decide +kernel
theorem dX10_takesNumber_37 : decode cX10_takesNumber 37 = .ok (.invokevirtual 232, 3) := by decide +kernel
theorem dX10_takesNumber_40 : decode cX10_takesNumber 40 = .ok (.iadd, 1) := by decide +kernel
theorem dX10_takesNumber_41 : decode cX10_takesNumber 41 = .ok (.bipush 48, 2) := by decide +kernel
theorem dX10_takesNumber_43 : decode cX10_takesNumber 43 = .ok (.isub, 1) := by decide +kernel
theorem dX10_takesNumber_44 : decode cX10_takesNumber 44 = .ok (.putfield 71, 3) := by decide +kernel
theorem dX10_takesNumber_47 : decode cX10_takesNumber 47 = .ok (.aload_n 0, 1) := by decide +kernel
theorem dX10_takesNumber_48 : decode cX10_takesNumber 48 = .ok (.dup, 1) := by decide +kernel
theorem dX10_takesNumber_49 : decode cX10_takesNumber 49 = .ok (.getfield 68, 3) := by decide +kernel
theorem dX10_takesNumber_52 : decode cX10_takesNumber 52 = .ok (.iconst 1, 1) := by decide +kernel
theorem dX10_takesNumber_53 : decode cX10_takesNumber 53 = .ok (.iadd, 1) := by decide +kernel
theorem dX10_takesNumber_54 : decode cX10_takesNumber 54 = .ok (.putfield 68, 3) := by decide +kernel
theorem dX10_takesNumber_57 : decode cX10_takesNumber 57 = .ok (.iinc 1 1, 3) := by decide +kernel
theorem dX10_takesNumber_60 : decode cX10_takesNumber 60 = .ok (.goto (-44), 3) := by decide +kernel
theorem dX10_takesNumber_63 : decode cX10_takesNumber 63 = .ok (.iconst 1, 1) := by decide +kernel
theorem dX10_takesNumber_64 : decode cX10_takesNumber 64 = .ok (.ireturn, 1) := by decide +kernel
theorem dX10_takesFigure_0 : decode cX10_takesFigure 0 = .ok (.aload_n 0, 1) := by decide +kernel
theorem dX10_takesFigure_1 : decode cX10_takesFigure 1 = .ok (.aload_n 0, 1) := by decide +kernel
theorem dX10_takesFigure_2 : decode cX10_takesFigure 2 = .ok (.invokevirtual 232, 3) := by decide +kernel
theorem dX10_takesFigure_5 : decode cX10_takesFigure 5 = .ok (.bipush 48, 2) := by decide +kernel
theorem dX10_takesFigure_7 : decode cX10_takesFigure 7 = .ok (.isub, 1) := by decide +kernel
theorem dX10_takesFigure_8 : decode cX10_takesFigure 8 = .ok (.iconst 0, 1) := by decide +kernel
theorem dX10_takesFigure_9 : decode cX10_takesFigure 9 = .ok (.iload_n 1, 1) := by decide +kernel
theorem dX10_takesFigure_10 : decode cX10_takesFigure 10 = .ok (.invokevirtual 197, 3) := by decide +kernel
theorem dX10_takesFigure_13 : decode cX10_takesFigure 13 = .ok (.ifCond .ne 5, 3) := by decide +kernel
theorem dX10_takesFigure_16 : decode cX10_takesFigure 16 = .ok (.iconst 0, 1) := by decide +kernel
theorem dX10_takesFigure_17 : decode cX10_takesFigure 17 = .ok (.ireturn, 1) := by decide +kernel
theorem dX10_takesFigure_18 : decode cX10_takesFigure 18 = .ok (.aload_n 0, 1) := by decide +kernel
theorem dX10_takesFigure_19 : decode cX10_takesFigure 19 = .ok (.aload_n 0, 1) := by decide +kernel
theorem dX10_takesFigure_20 : decode cX10_takesFigure 20 = .ok (.invokevirtual 232, 3) := by decide +kernel
theorem dX10_takesFigure_23 : decode cX10_takesFigure 23 = .ok (.bipush 48, 2) := by decide +kernel
theorem dX10_takesFigure_25 : decode cX10_takesFigure 25 = .ok (.isub, 1) := by decide +kernel
theorem dX10_takesFigure_26 : decode cX10_takesFigure 26 = .ok (.putfield 71, 3) := by decide +kernel
theorem dX10_takesFigure_29 : decode cX10_takesFigure 29 = .ok (.aload_n 0, 1) := by decide +kernel
theorem dX10_takesFigure_30 : decode cX10_takesFigure 30 = .ok (.dup, 1) := by decide +kernel
theorem dX10_takesFigure_31 : decode cX10_takesFigure 31 = .ok (.getfield 68, 3) := by decide +kernel
theorem dX10_takesFigure_34 : decode cX10_takesFigure 34 = .ok (.iconst 1, 1) := by decide +kernel
theorem dX10_takesFigure_35 : decode cX10_takesFigure 35 = .ok (.iadd, 1) := by decide +kernel
theorem dX10_takesFigure_36 : decode cX10_takesFigure 36 = .ok (.putfield 68, 3) := by decide +kernel
theorem dX10_takesFigure_39 : decode cX10_takesFigure 39 = .ok (.iconst 1, 1) := by decide +kernel
theorem dX10_takesFigure_40 : decode cX10_takesFigure 40 = .ok (.ireturn, 1) := by decide +kernel
theorem dX10_push_0 : decode cX10_push 0 = .ok (.iload_n 1, 1) := by decide +kernel
theorem dX10_push_1 : decode cX10_push 1 = .ok (.istore_n 2, 1) := by decide +kernel
theorem dX10_push_2 : decode cX10_push 2 = .ok (.aload_n 0, 1) := by decide +kernel
theorem dX10_push_3 : decode cX10_push 3 = .ok (.getfield 109, 3) := by decide +kernel
theorem dX10_push_6 : decode cX10_push 6 = .ok (.ifCond .le 52, 3) := by decide +kernel
theorem dX10_push_9 : decode cX10_push 9 = .ok (.aload_n 0, 1) := by decide +kernel
theorem dX10_push_10 : decode cX10_push 10 = .ok (.getfield 102, 3) := by decide +kernel
theorem dX10_push_13 : decode cX10_push 13 = .ok (.aload_n 0, 1) := by decide +kernel
theorem dX10_push_14 : decode cX10_push 14 = .ok (.getfield 109, 3) := by decide +kernel
theorem dX10_push_17 : decode cX10_push 17 = .ok (.iconst 1, 1) := by decide +kernel
theorem dX10_push_18 : decode cX10_push 18 = .ok (.isub, 1) := by decide +kernel
theorem dX10_push_19 : decode cX10_push 19 = .ok (.iaload, 1) := by decide +kernel
theorem dX10_push_20 : decode cX10_push 20 = .ok (.bipush 33, 2) := by decide +kernel
theorem dX10_push_22 : decode cX10_push 22 = .ok (.if_icmp .ne 36, 3) := by decide +kernel
theorem dX10_push_25 : decode cX10_push 25 = .ok (.iload_n 2, 1) := by decide +kernel
theorem dX10_push_26 : decode cX10_push 26 = .ok (.ifCond .ne 7, 3) := by decide +kernel
theorem dX10_push_29 : decode cX10_push 29 = .ok (.iconst 1, 1) := by decide +kernel
theorem dX10_push_30 : decode cX10_push 30 = .ok (.goto 4, 3) := by decide +kernel
theorem dX10_push_33 : decode cX10_push 33 = .ok (.iconst 0, 1) := by decide +kernel
theorem dX10_push_34 : decode cX10_push 34 = .ok (.istore_n 2, 1) := by decide +kernel
theorem dX10_push_35 : decode cX10_push 35 = .ok (.aload_n 0, 1) := by decide +kernel
theorem dX10_push_36 : decode cX10_push 36 = .ok (.dup, 1) := by decide +kernel
theorem dX10_push_37 : decode cX10_push 37 = .ok (.getfield 109, 3) := by decide +kernel
theorem dX10_push_40 : decode cX10_push 40 = .ok (.iconst 1, 1) := by decide +kernel
theorem dX10_push_41 : decode cX10_push 41 = .ok (.isub, 1) := by decide +kernel
theorem dX10_push_42 : decode cX10_push 42 = .ok (.putfield 109, 3) := by decide +kernel
theorem dX10_push_45 : decode cX10_push 45 = .ok (.aload_n 0, 1) := by decide +kernel
theorem dX10_push_46 : decode cX10_push 46 = .ok (.dup, 1) := by decide +kernel
theorem dX10_push_47 : decode cX10_push 47 = .ok (.getfield 115, 3) := by decide +kernel
theorem dX10_push_50 : decode cX10_push 50 = .ok (.iconst 1, 1) := by decide +kernel
theorem dX10_push_51 : decode cX10_push 51 = .ok (.isub, 1) := by decide +kernel
theorem dX10_push_52 : decode cX10_push 52 = .ok (.putfield 115, 3) := by decide +kernel
theorem dX10_push_55 : decode cX10_push 55 = .ok (.goto (-53), 3) := by decide +kernel
theorem dX10_push_58 : decode cX10_push 58 = .ok (.aload_n 0, 1) := by decide +kernel
theorem dX10_push_59 : decode cX10_push 59 = .ok (.getfield 105, 3) := by decide +kernel
theorem dX10_push_62 : decode cX10_push 62 = .ok (.aload_n 0, 1) := by decide +kernel
theorem dX10_push_63 : decode cX10_push 63 = .ok (.getfield 112, 3) := by decide +kernel
theorem dX10_push_66 : decode cX10_push 66 = .ok (.iload_n 2, 1) := by decide +kernel
theorem dX10_push_67 : decode cX10_push 67 = .ok (.bastore, 1) := by decide +kernel
theorem dX10_push_68 : decode cX10_push 68 = .ok (.aload_n 0, 1) := by decide +kernel
theorem dX10_push_69 : decode cX10_push 69 = .ok (.dup, 1) := by decide +kernel
theorem dX10_push_70 : decode cX10_push 70 = .ok (.getfield 112, 3) := by decide +kernel
theorem dX10_push_73 : decode cX10_push 73 = .ok (.iconst 1, 1) := by decide +kernel
theorem dX10_push_74 : decode cX10_push 74 = .ok (.iadd, 1) := by decide +kernel
theorem dX10_push_75 : decode cX10_push 75 = .ok (.putfield 112, 3) := by decide +kernel
theorem dX10_push_78 : decode cX10_push 78 = .ok (.return_, 1) := by decide +kernel
theorem dX10_settle_0 : decode cX10_settle 0 = .ok (.aload_n 0, 1) := by decide +kernel
theorem dX10_settle_1 : decode cX10_settle 1 = .ok (.getfield 109, 3) := by decide +kernel
theorem dX10_settle_4 : decode cX10_settle 4 = .ok (.ifCond .le 154, 3) := by decide +kernel
theorem dX10_settle_7 : decode cX10_settle 7 = .ok (.aload_n 0, 1) := by decide +kernel
theorem dX10_settle_8 : decode cX10_settle 8 = .ok (.getfield 102, 3) := by decide +kernel
theorem dX10_settle_11 : decode cX10_settle 11 = .ok (.aload_n 0, 1) := by decide +kernel
theorem dX10_settle_12 : decode cX10_settle 12 = .ok (.getfield 109, 3) := by decide +kernel
theorem dX10_settle_15 : decode cX10_settle 15 = .ok (.iconst 1, 1) := by decide +kernel
theorem dX10_settle_16 : decode cX10_settle 16 = .ok (.isub, 1) := by decide +kernel
theorem dX10_settle_17 : decode cX10_settle 17 = .ok (.iaload, 1) := by decide +kernel
theorem dX10_settle_18 : decode cX10_settle 18 = .ok (.bipush 38, 2) := by decide +kernel
theorem dX10_settle_20 : decode cX10_settle 20 = .ok (.if_icmp .eq 25, 3) := by decide +kernel
theorem dX10_settle_23 : decode cX10_settle 23 = .ok (.aload_n 0, 1) := by decide +kernel
theorem dX10_settle_24 : decode cX10_settle 24 = .ok (.getfield 102, 3) := by decide +kernel
theorem dX10_settle_27 : decode cX10_settle 27 = .ok (.aload_n 0, 1) := by decide +kernel
theorem dX10_settle_28 : decode cX10_settle 28 = .ok (.getfield 109, 3) := by decide +kernel
theorem dX10_settle_31 : decode cX10_settle 31 = .ok (.iconst 1, 1) := by decide +kernel
theorem dX10_settle_32 : decode cX10_settle 32 = .ok (.isub, 1) := by decide +kernel
theorem dX10_settle_33 : decode cX10_settle 33 = .ok (.iaload, 1) := by decide +kernel
theorem dX10_settle_34 : decode cX10_settle 34 = .ok (.bipush 124, 2) := by decide +kernel
theorem dX10_settle_36 : decode cX10_settle 36 = .ok (.if_icmp .ne 122, 3) := by decide +kernel
theorem dX10_settle_39 : decode cX10_settle 39 = .ok (.iload_n 1, 1) := by decide +kernel
theorem dX10_settle_40 : decode cX10_settle 40 = .ok (.bipush 38, 2) := by decide +kernel
theorem dX10_settle_42 : decode cX10_settle 42 = .ok (.if_icmp .eq 116, 3) := by decide +kernel
theorem dX10_settle_45 : decode cX10_settle 45 = .ok (.aload_n 0, 1) := by decide +kernel
theorem dX10_settle_46 : decode cX10_settle 46 = .ok (.dup, 1) := by decide +kernel
theorem dX10_settle_47 : decode cX10_settle 47 = .ok (.getfield 109, 3) := by decide +kernel
theorem dX10_settle_50 : decode cX10_settle 50 = .ok (.iconst 1, 1) := by decide +kernel
theorem dX10_settle_51 : decode cX10_settle 51 = .ok (.isub, 1) := by decide +kernel
theorem dX10_settle_52 : decode cX10_settle 52 = .ok (.putfield 109, 3) := by decide +kernel
theorem dX10_settle_55 : decode cX10_settle 55 = .ok (.aload_n 0, 1) := by decide +kernel
theorem dX10_settle_56 : decode cX10_settle 56 = .ok (.dup, 1) := by decide +kernel
theorem dX10_settle_57 : decode cX10_settle 57 = .ok (.getfield 112, 3) := by decide +kernel
theorem dX10_settle_60 : decode cX10_settle 60 = .ok (.iconst 1, 1) := by decide +kernel
theorem dX10_settle_61 : decode cX10_settle 61 = .ok (.isub, 1) := by decide +kernel
theorem dX10_settle_62 : decode cX10_settle 62 = .ok (.putfield 112, 3) := by decide +kernel
theorem dX10_settle_65 : decode cX10_settle 65 = .ok (.aload_n 0, 1) := by decide +kernel
theorem dX10_settle_66 : decode cX10_settle 66 = .ok (.getfield 105, 3) := by decide +kernel
theorem dX10_settle_69 : decode cX10_settle 69 = .ok (.aload_n 0, 1) := by decide +kernel
theorem dX10_settle_70 : decode cX10_settle 70 = .ok (.getfield 112, 3) := by decide +kernel
theorem dX10_settle_73 : decode cX10_settle 73 = .ok (.iconst 1, 1) := by decide +kernel
theorem dX10_settle_74 : decode cX10_settle 74 = .ok (.isub, 1) := by decide +kernel
theorem dX10_settle_75 : decode cX10_settle 75 = .ok (.aload_n 0, 1) := by decide +kernel
theorem dX10_settle_76 : decode cX10_settle 76 = .ok (.getfield 102, 3) := by decide +kernel
theorem dX10_settle_79 : decode cX10_settle 79 = .ok (.aload_n 0, 1) := by decide +kernel
theorem dX10_settle_80 : decode cX10_settle 80 = .ok (.getfield 109, 3) := by decide +kernel
theorem dX10_settle_83 : decode cX10_settle 83 = .ok (.iaload, 1) := by decide +kernel
theorem dX10_settle_84 : decode cX10_settle 84 = .ok (.bipush 38, 2) := by decide +kernel
theorem dX10_settle_86 : decode cX10_settle 86 = .ok (.if_icmp .ne 37, 3) := by decide +kernel
theorem dX10_settle_89 : decode cX10_settle 89 = .ok (.aload_n 0, 1) := by decide +kernel
theorem dX10_settle_90 : decode cX10_settle 90 = .ok (.getfield 105, 3) := by decide +kernel
theorem dX10_settle_93 : decode cX10_settle 93 = .ok (.aload_n 0, 1) := by decide +kernel
theorem dX10_settle_94 : decode cX10_settle 94 = .ok (.getfield 112, 3) := by decide +kernel
theorem dX10_settle_97 : decode cX10_settle 97 = .ok (.iconst 1, 1) := by decide +kernel
theorem dX10_settle_98 : decode cX10_settle 98 = .ok (.isub, 1) := by decide +kernel
theorem dX10_settle_99 : decode cX10_settle 99 = .ok (.baload, 1) := by decide +kernel
theorem dX10_settle_100 : decode cX10_settle 100 = .ok (.ifCond .eq 19, 3) := by decide +kernel
theorem dX10_settle_103 : decode cX10_settle 103 = .ok (.aload_n 0, 1) := by decide +kernel
theorem dX10_settle_104 : decode cX10_settle 104 = .ok (.getfield 105, 3) := by decide +kernel
theorem dX10_settle_107 : decode cX10_settle 107 = .ok (.aload_n 0, 1) := by decide +kernel
theorem dX10_settle_108 : decode cX10_settle 108 = .ok (.getfield 112, 3) := by decide +kernel
theorem dX10_settle_111 : decode cX10_settle 111 = .ok (.baload, 1) := by decide +kernel
theorem dX10_settle_112 : decode cX10_settle 112 = .ok (.ifCond .eq 7, 3) := by decide +kernel
theorem dX10_settle_115 : decode cX10_settle 115 = .ok (.iconst 1, 1) := by decide +kernel
theorem dX10_settle_116 : decode cX10_settle 116 = .ok (.goto 38, 3) := by decide +kernel
theorem dX10_settle_119 : decode cX10_settle 119 = .ok (.iconst 0, 1) := by decide +kernel
theorem dX10_settle_120 : decode cX10_settle 120 = .ok (.goto 34, 3) := by decide +kernel
theorem dX10_settle_123 : decode cX10_settle 123 = .ok (.aload_n 0, 1) := by decide +kernel
theorem dX10_settle_124 : decode cX10_settle 124 = .ok (.getfield 105, 3) := by decide +kernel
theorem dX10_settle_127 : decode cX10_settle 127 = .ok (.aload_n 0, 1) := by decide +kernel
theorem dX10_settle_128 : decode cX10_settle 128 = .ok (.getfield 112, 3) := by decide +kernel
theorem dX10_settle_131 : decode cX10_settle 131 = .ok (.iconst 1, 1) := by decide +kernel
theorem dX10_settle_132 : decode cX10_settle 132 = .ok (.isub, 1) := by decide +kernel
theorem dX10_settle_133 : decode cX10_settle 133 = .ok (.baload, 1) := by decide +kernel
theorem dX10_settle_134 : decode cX10_settle 134 = .ok (.ifCond .ne 15, 3) := by decide +kernel
theorem dX10_settle_137 : decode cX10_settle 137 = .ok (.aload_n 0, 1) := by decide +kernel
theorem dX10_settle_138 : decode cX10_settle 138 = .ok (.getfield 105, 3) := by decide +kernel
theorem dX10_settle_141 : decode cX10_settle 141 = .ok (.aload_n 0, 1) := by decide +kernel
theorem dX10_settle_142 : decode cX10_settle 142 = .ok (.getfield 112, 3) := by decide +kernel
theorem dX10_settle_145 : decode cX10_settle 145 = .ok (.baload, 1) := by decide +kernel
theorem dX10_settle_146 : decode cX10_settle 146 = .ok (.ifCond .eq 7, 3) := by decide +kernel
theorem dX10_settle_149 : decode cX10_settle 149 = .ok (.iconst 1, 1) := by decide +kernel
theorem dX10_settle_150 : decode cX10_settle 150 = .ok (.goto 4, 3) := by decide +kernel
theorem dX10_settle_153 : decode cX10_settle 153 = .ok (.iconst 0, 1) := by decide +kernel
theorem dX10_settle_154 : decode cX10_settle 154 = .ok (.bastore, 1) := by decide +kernel
theorem dX10_settle_155 : decode cX10_settle 155 = .ok (.goto (-155), 3) := by decide +kernel
theorem dX10_settle_158 : decode cX10_settle 158 = .ok (.return_, 1) := by decide +kernel
theorem dX10_takesTest_0 : decode cX10_takesTest 0 = .ok (.aload_n 0, 1) := by decide +kernel
theorem dX10_takesTest_1 : decode cX10_takesTest 1 = .ok (.invokevirtual 232, 3) := by decide +kernel
theorem dX10_takesTest_4 : decode cX10_takesTest 4 = .ok (.istore_n 1, 1) := by decide +kernel
theorem dX10_takesTest_5 : decode cX10_takesTest 5 = .ok (.iload_n 1, 1) := by decide +kernel
theorem dX10_takesTest_6 : decode cX10_takesTest 6 = .ok (.bipush 115, 2) := by decide +kernel
theorem dX10_takesTest_8 : decode cX10_takesTest 8 = .ok (.if_icmp .ne 7, 3) := by decide +kernel
theorem dX10_takesTest_11 : decode cX10_takesTest 11 = .ok (.iconst 0, 1) := by decide +kernel
theorem dX10_takesTest_12 : decode cX10_takesTest 12 = .ok (.goto 34, 3) := by decide +kernel
theorem dX10_takesTest_15 : decode cX10_takesTest 15 = .ok (.iload_n 1, 1) := by decide +kernel
theorem dX10_takesTest_16 : decode cX10_takesTest 16 = .ok (.bipush 105, 2) := by decide +kernel
theorem dX10_takesTest_18 : decode cX10_takesTest 18 = .ok (.if_icmp .ne 7, 3) := by decide +kernel
theorem dX10_takesTest_21 : decode cX10_takesTest 21 = .ok (.iconst 1, 1) := by decide +kernel
theorem dX10_takesTest_22 : decode cX10_takesTest 22 = .ok (.goto 24, 3) := by decide +kernel
theorem dX10_takesTest_25 : decode cX10_takesTest 25 = .ok (.iload_n 1, 1) := by decide +kernel
theorem dX10_takesTest_26 : decode cX10_takesTest 26 = .ok (.bipush 116, 2) := by decide +kernel
theorem dX10_takesTest_28 : decode cX10_takesTest 28 = .ok (.if_icmp .ne 7, 3) := by decide +kernel
theorem dX10_takesTest_31 : decode cX10_takesTest 31 = .ok (.iconst 2, 1) := by decide +kernel
theorem dX10_takesTest_32 : decode cX10_takesTest 32 = .ok (.goto 14, 3) := by decide +kernel
theorem dX10_takesTest_35 : decode cX10_takesTest 35 = .ok (.iload_n 1, 1) := by decide +kernel
theorem dX10_takesTest_36 : decode cX10_takesTest 36 = .ok (.bipush 102, 2) := by decide +kernel
theorem dX10_takesTest_38 : decode cX10_takesTest 38 = .ok (.if_icmp .ne 7, 3) := by decide +kernel
theorem dX10_takesTest_41 : decode cX10_takesTest 41 = .ok (.iconst 3, 1) := by decide +kernel
theorem dX10_takesTest_42 : decode cX10_takesTest 42 = .ok (.goto 4, 3) := by decide +kernel
theorem dX10_takesTest_45 : decode cX10_takesTest 45 = .ok (.iconst (-1), 1) := by decide +kernel
theorem dX10_takesTest_46 : decode cX10_takesTest 46 = .ok (.istore_n 2, 1) := by decide +kernel
theorem dX10_takesTest_47 : decode cX10_takesTest 47 = .ok (.iload_n 2, 1) := by decide +kernel
theorem dX10_takesTest_48 : decode cX10_takesTest 48 = .ok (.ifCond .ge 5, 3) := by decide +kernel
theorem dX10_takesTest_51 : decode cX10_takesTest 51 = .ok (.iconst 0, 1) := by decide +kernel
theorem dX10_takesTest_52 : decode cX10_takesTest 52 = .ok (.ireturn, 1) := by decide +kernel
theorem dX10_takesTest_53 : decode cX10_takesTest 53 = .ok (.aload_n 0, 1) := by decide +kernel
theorem dX10_takesTest_54 : decode cX10_takesTest 54 = .ok (.dup, 1) := by decide +kernel
theorem dX10_takesTest_55 : decode cX10_takesTest 55 = .ok (.getfield 68, 3) := by decide +kernel
theorem dX10_takesTest_58 : decode cX10_takesTest 58 = .ok (.iconst 1, 1) := by decide +kernel
theorem dX10_takesTest_59 : decode cX10_takesTest 59 = .ok (.iadd, 1) := by decide +kernel
theorem dX10_takesTest_60 : decode cX10_takesTest 60 = .ok (.putfield 68, 3) := by decide +kernel
theorem dX10_takesTest_63 : decode cX10_takesTest 63 = .ok (.aload_n 0, 1) := by decide +kernel
theorem dX10_takesTest_64 : decode cX10_takesTest 64 = .ok (.invokevirtual 232, 3) := by decide +kernel
theorem dX10_takesTest_67 : decode cX10_takesTest 67 = .ok (.istore_n 3, 1) := by decide +kernel
theorem dX10_takesTest_68 : decode cX10_takesTest 68 = .ok (.aload_n 0, 1) := by decide +kernel
theorem dX10_takesTest_69 : decode cX10_takesTest 69 = .ok (.iload_n 3, 1) := by decide +kernel
theorem dX10_takesTest_70 : decode cX10_takesTest 70 = .ok (.bipush 60, 2) := by decide +kernel
theorem dX10_takesTest_72 : decode cX10_takesTest 72 = .ok (.bipush 62, 2) := by decide +kernel
theorem dX10_takesTest_74 : decode cX10_takesTest 74 = .ok (.invokevirtual 197, 3) := by decide +kernel
theorem dX10_takesTest_77 : decode cX10_takesTest 77 = .ok (.ifCond .ne 5, 3) := by decide +kernel
theorem dX10_takesTest_80 : decode cX10_takesTest 80 = .ok (.iconst 0, 1) := by decide +kernel
theorem dX10_takesTest_81 : decode cX10_takesTest 81 = .ok (.ireturn, 1) := by decide +kernel
theorem dX10_takesTest_82 : decode cX10_takesTest 82 = .ok (.aload_n 0, 1) := by decide +kernel
theorem dX10_takesTest_83 : decode cX10_takesTest 83 = .ok (.dup, 1) := by decide +kernel
theorem dX10_takesTest_84 : decode cX10_takesTest 84 = .ok (.getfield 68, 3) := by decide +kernel
theorem dX10_takesTest_87 : decode cX10_takesTest 87 = .ok (.iconst 1, 1) := by decide +kernel
theorem dX10_takesTest_88 : decode cX10_takesTest 88 = .ok (.iadd, 1) := by decide +kernel
theorem dX10_takesTest_89 : decode cX10_takesTest 89 = .ok (.putfield 68, 3) := by decide +kernel
theorem dX10_takesTest_92 : decode cX10_takesTest 92 = .ok (.aload_n 0, 1) := by decide +kernel
theorem dX10_takesTest_93 : decode cX10_takesTest 93 = .ok (.invokevirtual 243, 3) := by decide +kernel
theorem dX10_takesTest_96 : decode cX10_takesTest 96 = .ok (.ifCond .ne 5, 3) := by decide +kernel
theorem dX10_takesTest_99 : decode cX10_takesTest 99 = .ok (.iconst 0, 1) := by decide +kernel
theorem dX10_takesTest_100 : decode cX10_takesTest 100 = .ok (.ireturn, 1) := by decide +kernel
theorem dX10_takesTest_101 : decode cX10_takesTest 101 = .ok (.aload_n 0, 1) := by decide +kernel
theorem dX10_takesTest_102 : decode cX10_takesTest 102 = .ok (.iload_n 3, 1) := by decide +kernel
theorem dX10_takesTest_103 : decode cX10_takesTest 103 = .ok (.bipush 60, 2) := by decide +kernel
theorem dX10_takesTest_105 : decode cX10_takesTest 105 = .ok (.if_icmp .ne 24, 3) := by decide +kernel
theorem dX10_takesTest_108 : decode cX10_takesTest 108 = .ok (.aload_n 0, 1) := by decide +kernel
theorem dX10_takesTest_109 : decode cX10_takesTest 109 = .ok (.getfield 59, 3) := by decide +kernel
theorem dX10_takesTest_112 : decode cX10_takesTest 112 = .ok (.iload_n 2, 1) := by decide +kernel
theorem dX10_takesTest_113 : decode cX10_takesTest 113 = .ok (.iaload, 1) := by decide +kernel
theorem dX10_takesTest_114 : decode cX10_takesTest 114 = .ok (.aload_n 0, 1) := by decide +kernel
theorem dX10_takesTest_115 : decode cX10_takesTest 115 = .ok (.getfield 71, 3) := by decide +kernel
theorem dX10_takesTest_118 : decode cX10_takesTest 118 = .ok (.if_icmp .ge 7, 3) := by decide +kernel
theorem dX10_takesTest_121 : decode cX10_takesTest 121 = .ok (.iconst 1, 1) := by decide +kernel
theorem dX10_takesTest_122 : decode cX10_takesTest 122 = .ok (.goto 52, 3) := by decide +kernel
theorem dX10_takesTest_125 : decode cX10_takesTest 125 = .ok (.iconst 0, 1) := by decide +kernel
theorem dX10_takesTest_126 : decode cX10_takesTest 126 = .ok (.goto 48, 3) := by decide +kernel
theorem dX10_takesTest_129 : decode cX10_takesTest 129 = .ok (.iload_n 3, 1) := by decide +kernel
theorem dX10_takesTest_130 : decode cX10_takesTest 130 = .ok (.bipush 61, 2) := by decide +kernel
theorem dX10_takesTest_132 : decode cX10_takesTest 132 = .ok (.if_icmp .ne 24, 3) := by decide +kernel
theorem dX10_takesTest_135 : decode cX10_takesTest 135 = .ok (.aload_n 0, 1) := by decide +kernel
theorem dX10_takesTest_136 : decode cX10_takesTest 136 = .ok (.getfield 59, 3) := by decide +kernel
theorem dX10_takesTest_139 : decode cX10_takesTest 139 = .ok (.iload_n 2, 1) := by decide +kernel
theorem dX10_takesTest_140 : decode cX10_takesTest 140 = .ok (.iaload, 1) := by decide +kernel
theorem dX10_takesTest_141 : decode cX10_takesTest 141 = .ok (.aload_n 0, 1) := by decide +kernel
theorem dX10_takesTest_142 : decode cX10_takesTest 142 = .ok (.getfield 71, 3) := by decide +kernel
theorem dX10_takesTest_145 : decode cX10_takesTest 145 = .ok (.if_icmp .ne 7, 3) := by decide +kernel
theorem dX10_takesTest_148 : decode cX10_takesTest 148 = .ok (.iconst 1, 1) := by decide +kernel
theorem dX10_takesTest_149 : decode cX10_takesTest 149 = .ok (.goto 25, 3) := by decide +kernel
theorem dX10_takesTest_152 : decode cX10_takesTest 152 = .ok (.iconst 0, 1) := by decide +kernel
theorem dX10_takesTest_153 : decode cX10_takesTest 153 = .ok (.goto 21, 3) := by decide +kernel
theorem dX10_takesTest_156 : decode cX10_takesTest 156 = .ok (.aload_n 0, 1) := by decide +kernel
theorem dX10_takesTest_157 : decode cX10_takesTest 157 = .ok (.getfield 59, 3) := by decide +kernel
theorem dX10_takesTest_160 : decode cX10_takesTest 160 = .ok (.iload_n 2, 1) := by decide +kernel
theorem dX10_takesTest_161 : decode cX10_takesTest 161 = .ok (.iaload, 1) := by decide +kernel
theorem dX10_takesTest_162 : decode cX10_takesTest 162 = .ok (.aload_n 0, 1) := by decide +kernel
theorem dX10_takesTest_163 : decode cX10_takesTest 163 = .ok (.getfield 71, 3) := by decide +kernel
theorem dX10_takesTest_166 : decode cX10_takesTest 166 = .ok (.if_icmp .le 7, 3) := by decide +kernel
theorem dX10_takesTest_169 : decode cX10_takesTest 169 = .ok (.iconst 1, 1) := by decide +kernel
theorem dX10_takesTest_170 : decode cX10_takesTest 170 = .ok (.goto 4, 3) := by decide +kernel
theorem dX10_takesTest_173 : decode cX10_takesTest 173 = .ok (.iconst 0, 1) := by decide +kernel
theorem dX10_takesTest_174 : decode cX10_takesTest 174 = .ok (.invokevirtual 246, 3) := by decide +kernel
theorem dX10_takesTest_177 : decode cX10_takesTest 177 = .ok (.iconst 1, 1) := by decide +kernel
theorem dX10_takesTest_178 : decode cX10_takesTest 178 = .ok (.ireturn, 1) := by decide +kernel
theorem dX10_takesE_0 : decode cX10_takesE 0 = .ok (.aload_n 0, 1) := by decide +kernel
theorem dX10_takesE_1 : decode cX10_takesE 1 = .ok (.iconst 0, 1) := by decide +kernel
theorem dX10_takesE_2 : decode cX10_takesE 2 = .ok (.putfield 109, 3) := by decide +kernel
theorem dX10_takesE_5 : decode cX10_takesE 5 = .ok (.aload_n 0, 1) := by decide +kernel
theorem dX10_takesE_6 : decode cX10_takesE 6 = .ok (.iconst 0, 1) := by decide +kernel
theorem dX10_takesE_7 : decode cX10_takesE 7 = .ok (.putfield 112, 3) := by decide +kernel
theorem dX10_takesE_10 : decode cX10_takesE 10 = .ok (.aload_n 0, 1) := by decide +kernel
theorem dX10_takesE_11 : decode cX10_takesE 11 = .ok (.iconst 0, 1) := by decide +kernel
theorem dX10_takesE_12 : decode cX10_takesE 12 = .ok (.putfield 115, 3) := by decide +kernel
theorem dX10_takesE_15 : decode cX10_takesE 15 = .ok (.iconst 1, 1) := by decide +kernel
theorem dX10_takesE_16 : decode cX10_takesE 16 = .ok (.istore_n 1, 1) := by decide +kernel
theorem dX10_takesE_17 : decode cX10_takesE 17 = .ok (.aload_n 0, 1) := by decide +kernel
theorem dX10_takesE_18 : decode cX10_takesE 18 = .ok (.invokevirtual 232, 3) := by decide +kernel
theorem dX10_takesE_21 : decode cX10_takesE 21 = .ok (.istore_n 2, 1) := by decide +kernel
theorem dX10_takesE_22 : decode cX10_takesE 22 = .ok (.iload_n 1, 1) := by decide +kernel
theorem dX10_takesE_23 : decode cX10_takesE 23 = .ok (.ifCond .eq 82, 3) := by decide +kernel
theorem dX10_takesE_26 : decode cX10_takesE 26 = .ok (.iload_n 2, 1) := by decide +kernel
theorem dX10_takesE_27 : decode cX10_takesE 27 = .ok (.bipush 33, 2) := by decide +kernel
theorem dX10_takesE_29 : decode cX10_takesE 29 = .ok (.if_icmp .eq 9, 3) := by decide +kernel
theorem dX10_takesE_32 : decode cX10_takesE 32 = .ok (.iload_n 2, 1) := by decide +kernel
theorem dX10_takesE_33 : decode cX10_takesE 33 = .ok (.bipush 40, 2) := by decide +kernel
theorem dX10_takesE_35 : decode cX10_takesE 35 = .ok (.if_icmp .ne 56, 3) := by decide +kernel
theorem dX10_takesE_38 : decode cX10_takesE 38 = .ok (.aload_n 0, 1) := by decide +kernel
