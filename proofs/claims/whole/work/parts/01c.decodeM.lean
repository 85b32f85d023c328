theorem d_M_init_0 : decode b_M_init 0 = .ok (.aload_n 0, 1) := by decide +kernel
theorem d_M_init_1 : decode b_M_init 1 = .ok (.invokespecial 1, 3) := by decide +kernel
theorem d_M_init_4 : decode b_M_init 4 = .ok (.aload_n 0, 1) := by decide +kernel
theorem d_M_init_5 : decode b_M_init 5 = .ok (.sipush 256, 3) := by decide +kernel
theorem d_M_init_8 : decode b_M_init 8 = .ok (.newarray .int, 2) := by decide +kernel
theorem d_M_init_10 : decode b_M_init 10 = .ok (.putfield 7, 3) := by decide +kernel
theorem d_M_init_13 : decode b_M_init 13 = .ok (.aload_n 0, 1) := by decide +kernel
theorem d_M_init_14 : decode b_M_init 14 = .ok (.sipush 256, 3) := by decide +kernel
theorem d_M_init_17 : decode b_M_init 17 = .ok (.newarray .int, 2) := by decide +kernel
theorem d_M_init_19 : decode b_M_init 19 = .ok (.putfield 13, 3) := by decide +kernel
theorem d_M_init_22 : decode b_M_init 22 = .ok (.aload_n 0, 1) := by decide +kernel
theorem d_M_init_23 : decode b_M_init 23 = .ok (.bipush 64, 2) := by decide +kernel
theorem d_M_init_25 : decode b_M_init 25 = .ok (.newarray .int, 2) := by decide +kernel
theorem d_M_init_27 : decode b_M_init 27 = .ok (.putfield 16, 3) := by decide +kernel
theorem d_M_init_30 : decode b_M_init 30 = .ok (.aload_n 0, 1) := by decide +kernel
theorem d_M_init_31 : decode b_M_init 31 = .ok (.bipush 64, 2) := by decide +kernel
theorem d_M_init_33 : decode b_M_init 33 = .ok (.newarray .int, 2) := by decide +kernel
theorem d_M_init_35 : decode b_M_init 35 = .ok (.putfield 19, 3) := by decide +kernel
theorem d_M_init_38 : decode b_M_init 38 = .ok (.aload_n 0, 1) := by decide +kernel
theorem d_M_init_39 : decode b_M_init 39 = .ok (.sipush 256, 3) := by decide +kernel
theorem d_M_init_42 : decode b_M_init 42 = .ok (.newarray .int, 2) := by decide +kernel
theorem d_M_init_44 : decode b_M_init 44 = .ok (.putfield 22, 3) := by decide +kernel
theorem d_M_init_47 : decode b_M_init 47 = .ok (.aload_n 0, 1) := by decide +kernel
theorem d_M_init_48 : decode b_M_init 48 = .ok (.sipush 300, 3) := by decide +kernel
theorem d_M_init_51 : decode b_M_init 51 = .ok (.newarray .int, 2) := by decide +kernel
theorem d_M_init_53 : decode b_M_init 53 = .ok (.putfield 25, 3) := by decide +kernel
theorem d_M_init_56 : decode b_M_init 56 = .ok (.aload_n 0, 1) := by decide +kernel
theorem d_M_init_57 : decode b_M_init 57 = .ok (.bipush 6, 2) := by decide +kernel
theorem d_M_init_59 : decode b_M_init 59 = .ok (.newarray .int, 2) := by decide +kernel
theorem d_M_init_61 : decode b_M_init 61 = .ok (.putfield 28, 3) := by decide +kernel
theorem d_M_init_64 : decode b_M_init 64 = .ok (.aload_n 0, 1) := by decide +kernel
theorem d_M_init_65 : decode b_M_init 65 = .ok (.iload_n 1, 1) := by decide +kernel
theorem d_M_init_66 : decode b_M_init 66 = .ok (.iconst 1, 1) := by decide +kernel
theorem d_M_init_67 : decode b_M_init 67 = .ok (.if_icmp .ge 7, 3) := by decide +kernel
theorem d_M_init_70 : decode b_M_init 70 = .ok (.iconst 1, 1) := by decide +kernel
theorem d_M_init_71 : decode b_M_init 71 = .ok (.goto 17, 3) := by decide +kernel
theorem d_M_init_74 : decode b_M_init 74 = .ok (.iload_n 1, 1) := by decide +kernel
theorem d_M_init_75 : decode b_M_init 75 = .ok (.sipush 247, 3) := by decide +kernel
theorem d_M_init_78 : decode b_M_init 78 = .ok (.if_icmp .le 9, 3) := by decide +kernel
theorem d_M_init_81 : decode b_M_init 81 = .ok (.sipush 247, 3) := by decide +kernel
theorem d_M_init_84 : decode b_M_init 84 = .ok (.goto 4, 3) := by decide +kernel
theorem d_M_init_87 : decode b_M_init 87 = .ok (.iload_n 1, 1) := by decide +kernel
theorem d_M_init_88 : decode b_M_init 88 = .ok (.putfield 31, 3) := by decide +kernel
theorem d_M_init_91 : decode b_M_init 91 = .ok (.return_, 1) := by decide +kernel
theorem d_M_hear_0 : decode b_M_hear 0 = .ok (.aload_n 0, 1) := by decide +kernel
theorem d_M_hear_1 : decode b_M_hear 1 = .ok (.iconst 0, 1) := by decide +kernel
theorem d_M_hear_2 : decode b_M_hear 2 = .ok (.putfield 35, 3) := by decide +kernel
theorem d_M_hear_5 : decode b_M_hear 5 = .ok (.iload_n 1, 1) := by decide +kernel
theorem d_M_hear_6 : decode b_M_hear 6 = .ok (.ifCond .lt 10, 3) := by decide +kernel
theorem d_M_hear_9 : decode b_M_hear 9 = .ok (.iload_n 1, 1) := by decide +kernel
theorem d_M_hear_10 : decode b_M_hear 10 = .ok (.sipush 255, 3) := by decide +kernel
theorem d_M_hear_13 : decode b_M_hear 13 = .ok (.if_icmp .le 5, 3) := by decide +kernel
theorem d_M_hear_16 : decode b_M_hear 16 = .ok (.iconst (-1), 1) := by decide +kernel
theorem d_M_hear_17 : decode b_M_hear 17 = .ok (.ireturn, 1) := by decide +kernel
theorem d_M_hear_18 : decode b_M_hear 18 = .ok (.aload_n 0, 1) := by decide +kernel
theorem d_M_hear_19 : decode b_M_hear 19 = .ok (.aload_n 0, 1) := by decide +kernel
theorem d_M_hear_20 : decode b_M_hear 20 = .ok (.getfield 38, 3) := by decide +kernel
theorem d_M_hear_23 : decode b_M_hear 23 = .ok (.ifCond .ne 29, 3) := by decide +kernel
theorem d_M_hear_26 : decode b_M_hear 26 = .ok (.aload_n 0, 1) := by decide +kernel
theorem d_M_hear_27 : decode b_M_hear 27 = .ok (.getfield 42, 3) := by decide +kernel
theorem d_M_hear_30 : decode b_M_hear 30 = .ok (.ifCond .le 12, 3) := by decide +kernel
theorem d_M_hear_33 : decode b_M_hear 33 = .ok (.aload_n 0, 1) := by decide +kernel
theorem d_M_hear_34 : decode b_M_hear 34 = .ok (.getfield 45, 3) := by decide +kernel
theorem d_M_hear_37 : decode b_M_hear 37 = .ok (.bipush 7, 2) := by decide +kernel
theorem d_M_hear_39 : decode b_M_hear 39 = .ok (.if_icmp .ge 13, 3) := by decide +kernel
theorem d_M_hear_42 : decode b_M_hear 42 = .ok (.aload_n 0, 1) := by decide +kernel
theorem d_M_hear_43 : decode b_M_hear 43 = .ok (.getfield 42, 3) := by decide +kernel
theorem d_M_hear_46 : decode b_M_hear 46 = .ok (.sipush 256, 3) := by decide +kernel
theorem d_M_hear_49 : decode b_M_hear 49 = .ok (.if_icmp .lt 7, 3) := by decide +kernel
theorem d_M_hear_52 : decode b_M_hear 52 = .ok (.iconst 1, 1) := by decide +kernel
theorem d_M_hear_53 : decode b_M_hear 53 = .ok (.goto 4, 3) := by decide +kernel
theorem d_M_hear_56 : decode b_M_hear 56 = .ok (.iconst 0, 1) := by decide +kernel
theorem d_M_hear_57 : decode b_M_hear 57 = .ok (.putfield 38, 3) := by decide +kernel
theorem d_M_hear_60 : decode b_M_hear 60 = .ok (.aload_n 0, 1) := by decide +kernel
theorem d_M_hear_61 : decode b_M_hear 61 = .ok (.iconst 0, 1) := by decide +kernel
theorem d_M_hear_62 : decode b_M_hear 62 = .ok (.putfield 45, 3) := by decide +kernel
theorem d_M_hear_65 : decode b_M_hear 65 = .ok (.aload_n 0, 1) := by decide +kernel
theorem d_M_hear_66 : decode b_M_hear 66 = .ok (.getfield 42, 3) := by decide +kernel
theorem d_M_hear_69 : decode b_M_hear 69 = .ok (.sipush 256, 3) := by decide +kernel
theorem d_M_hear_72 : decode b_M_hear 72 = .ok (.if_icmp .ge 13, 3) := by decide +kernel
theorem d_M_hear_75 : decode b_M_hear 75 = .ok (.aload_n 0, 1) := by decide +kernel
theorem d_M_hear_76 : decode b_M_hear 76 = .ok (.getfield 22, 3) := by decide +kernel
theorem d_M_hear_79 : decode b_M_hear 79 = .ok (.aload_n 0, 1) := by decide +kernel
theorem d_M_hear_80 : decode b_M_hear 80 = .ok (.getfield 42, 3) := by decide +kernel
theorem d_M_hear_83 : decode b_M_hear 83 = .ok (.iload_n 1, 1) := by decide +kernel
theorem d_M_hear_84 : decode b_M_hear 84 = .ok (.iastore, 1) := by decide +kernel
theorem d_M_hear_85 : decode b_M_hear 85 = .ok (.aload_n 0, 1) := by decide +kernel
theorem d_M_hear_86 : decode b_M_hear 86 = .ok (.aload_n 0, 1) := by decide +kernel
theorem d_M_hear_87 : decode b_M_hear 87 = .ok (.getfield 42, 3) := by decide +kernel
theorem d_M_hear_90 : decode b_M_hear 90 = .ok (.sipush 256, 3) := by decide +kernel
theorem d_M_hear_93 : decode b_M_hear 93 = .ok (.if_icmp .le 10, 3) := by decide +kernel
theorem d_M_hear_96 : decode b_M_hear 96 = .ok (.aload_n 0, 1) := by decide +kernel
theorem d_M_hear_97 : decode b_M_hear 97 = .ok (.getfield 42, 3) := by decide +kernel
theorem d_M_hear_100 : decode b_M_hear 100 = .ok (.goto 9, 3) := by decide +kernel
theorem d_M_hear_103 : decode b_M_hear 103 = .ok (.aload_n 0, 1) := by decide +kernel
theorem d_M_hear_104 : decode b_M_hear 104 = .ok (.getfield 42, 3) := by decide +kernel
theorem d_M_hear_107 : decode b_M_hear 107 = .ok (.iconst 1, 1) := by decide +kernel
theorem d_M_hear_108 : decode b_M_hear 108 = .ok (.iadd, 1) := by decide +kernel
theorem d_M_hear_109 : decode b_M_hear 109 = .ok (.putfield 42, 3) := by decide +kernel
theorem d_M_hear_112 : decode b_M_hear 112 = .ok (.aload_n 0, 1) := by decide +kernel
theorem d_M_hear_113 : decode b_M_hear 113 = .ok (.getfield 42, 3) := by decide +kernel
theorem d_M_hear_116 : decode b_M_hear 116 = .ok (.ireturn, 1) := by decide +kernel
theorem d_M_listen_0 : decode b_M_listen 0 = .ok (.aload_n 0, 1) := by decide +kernel
theorem d_M_listen_1 : decode b_M_listen 1 = .ok (.iconst 0, 1) := by decide +kernel
theorem d_M_listen_2 : decode b_M_listen 2 = .ok (.putfield 35, 3) := by decide +kernel
theorem d_M_listen_5 : decode b_M_listen 5 = .ok (.iload_n 1, 1) := by decide +kernel
theorem d_M_listen_6 : decode b_M_listen 6 = .ok (.iconst 1, 1) := by decide +kernel
theorem d_M_listen_7 : decode b_M_listen 7 = .ok (.if_icmp .lt 9, 3) := by decide +kernel
theorem d_M_listen_10 : decode b_M_listen 10 = .ok (.iload_n 1, 1) := by decide +kernel
theorem d_M_listen_11 : decode b_M_listen 11 = .ok (.bipush 8, 2) := by decide +kernel
theorem d_M_listen_13 : decode b_M_listen 13 = .ok (.if_icmp .le 5, 3) := by decide +kernel
theorem d_M_listen_16 : decode b_M_listen 16 = .ok (.iconst (-1), 1) := by decide +kernel
theorem d_M_listen_17 : decode b_M_listen 17 = .ok (.ireturn, 1) := by decide +kernel
theorem d_M_listen_18 : decode b_M_listen 18 = .ok (.iconst 0, 1) := by decide +kernel
theorem d_M_listen_19 : decode b_M_listen 19 = .ok (.istore 4, 2) := by decide +kernel
theorem d_M_listen_21 : decode b_M_listen 21 = .ok (.iload_n 1, 1) := by decide +kernel
theorem d_M_listen_22 : decode b_M_listen 22 = .ok (.iconst 1, 1) := by decide +kernel
theorem d_M_listen_23 : decode b_M_listen 23 = .ok (.isub, 1) := by decide +kernel
theorem d_M_listen_24 : decode b_M_listen 24 = .ok (.istore 5, 2) := by decide +kernel
theorem d_M_listen_26 : decode b_M_listen 26 = .ok (.iload 5, 2) := by decide +kernel
theorem d_M_listen_28 : decode b_M_listen 28 = .ok (.ifCond .lt 27, 3) := by decide +kernel
theorem d_M_listen_31 : decode b_M_listen 31 = .ok (.aload_n 0, 1) := by decide +kernel
theorem d_M_listen_32 : decode b_M_listen 32 = .ok (.lload_n 2, 1) := by decide +kernel
theorem d_M_listen_33 : decode b_M_listen 33 = .ok (.bipush 8, 2) := by decide +kernel
theorem d_M_listen_35 : decode b_M_listen 35 = .ok (.iload 5, 2) := by decide +kernel
theorem d_M_listen_37 : decode b_M_listen 37 = .ok (.imul, 1) := by decide +kernel
theorem d_M_listen_38 : decode b_M_listen 38 = .ok (.lshr, 1) := by decide +kernel
theorem d_M_listen_39 : decode b_M_listen 39 = .ok (.ldc2_w 48, 3) := by decide +kernel
theorem d_M_listen_42 : decode b_M_listen 42 = .ok (.land, 1) := by decide +kernel
theorem d_M_listen_43 : decode b_M_listen 43 = .ok (.l2i, 1) := by decide +kernel
theorem d_M_listen_44 : decode b_M_listen 44 = .ok (.invokevirtual 50, 3) := by decide +kernel
theorem d_M_listen_47 : decode b_M_listen 47 = .ok (.istore 4, 2) := by decide +kernel
theorem d_M_listen_49 : decode b_M_listen 49 = .ok (.iinc 5 (-1), 3) := by decide +kernel
theorem d_M_listen_52 : decode b_M_listen 52 = .ok (.goto (-26), 3) := by decide +kernel
theorem d_M_listen_55 : decode b_M_listen 55 = .ok (.iload 4, 2) := by decide +kernel
theorem d_M_listen_57 : decode b_M_listen 57 = .ok (.ireturn, 1) := by decide +kernel
theorem d_M_rest_0 : decode b_M_rest 0 = .ok (.aload_n 0, 1) := by decide +kernel
theorem d_M_rest_1 : decode b_M_rest 1 = .ok (.iconst 0, 1) := by decide +kernel
theorem d_M_rest_2 : decode b_M_rest 2 = .ok (.putfield 35, 3) := by decide +kernel
theorem d_M_rest_5 : decode b_M_rest 5 = .ok (.iload_n 1, 1) := by decide +kernel
theorem d_M_rest_6 : decode b_M_rest 6 = .ok (.ifCond .lt 10, 3) := by decide +kernel
theorem d_M_rest_9 : decode b_M_rest 9 = .ok (.iload_n 1, 1) := by decide +kernel
theorem d_M_rest_10 : decode b_M_rest 10 = .ok (.sipush 1000, 3) := by decide +kernel
theorem d_M_rest_13 : decode b_M_rest 13 = .ok (.if_icmp .le 5, 3) := by decide +kernel
theorem d_M_rest_16 : decode b_M_rest 16 = .ok (.iconst (-1), 1) := by decide +kernel
theorem d_M_rest_17 : decode b_M_rest 17 = .ok (.ireturn, 1) := by decide +kernel
theorem d_M_rest_18 : decode b_M_rest 18 = .ok (.aload_n 0, 1) := by decide +kernel
theorem d_M_rest_19 : decode b_M_rest 19 = .ok (.dup, 1) := by decide +kernel
theorem d_M_rest_20 : decode b_M_rest 20 = .ok (.getfield 45, 3) := by decide +kernel
theorem d_M_rest_23 : decode b_M_rest 23 = .ok (.iload_n 1, 1) := by decide +kernel
theorem d_M_rest_24 : decode b_M_rest 24 = .ok (.iadd, 1) := by decide +kernel
theorem d_M_rest_25 : decode b_M_rest 25 = .ok (.putfield 45, 3) := by decide +kernel
theorem d_M_rest_28 : decode b_M_rest 28 = .ok (.aload_n 0, 1) := by decide +kernel
theorem d_M_rest_29 : decode b_M_rest 29 = .ok (.getfield 42, 3) := by decide +kernel
theorem d_M_rest_32 : decode b_M_rest 32 = .ok (.ifCond .eq 12, 3) := by decide +kernel
theorem d_M_rest_35 : decode b_M_rest 35 = .ok (.aload_n 0, 1) := by decide +kernel
theorem d_M_rest_36 : decode b_M_rest 36 = .ok (.getfield 45, 3) := by decide +kernel
theorem d_M_rest_39 : decode b_M_rest 39 = .ok (.bipush 14, 2) := by decide +kernel
theorem d_M_rest_41 : decode b_M_rest 41 = .ok (.if_icmp .ge 25, 3) := by decide +kernel
theorem d_M_rest_44 : decode b_M_rest 44 = .ok (.aload_n 0, 1) := by decide +kernel
theorem d_M_rest_45 : decode b_M_rest 45 = .ok (.aload_n 0, 1) := by decide +kernel
theorem d_M_rest_46 : decode b_M_rest 46 = .ok (.getfield 42, 3) := by decide +kernel
theorem d_M_rest_49 : decode b_M_rest 49 = .ok (.ifCond .ne 7, 3) := by decide +kernel
theorem d_M_rest_52 : decode b_M_rest 52 = .ok (.iconst 0, 1) := by decide +kernel
theorem d_M_rest_53 : decode b_M_rest 53 = .ok (.goto 7, 3) := by decide +kernel
theorem d_M_rest_56 : decode b_M_rest 56 = .ok (.aload_n 0, 1) := by decide +kernel
theorem d_M_rest_57 : decode b_M_rest 57 = .ok (.getfield 45, 3) := by decide +kernel
theorem d_M_rest_60 : decode b_M_rest 60 = .ok (.putfield 45, 3) := by decide +kernel
theorem d_M_rest_63 : decode b_M_rest 63 = .ok (.bipush (-2), 2) := by decide +kernel
theorem d_M_rest_65 : decode b_M_rest 65 = .ok (.ireturn, 1) := by decide +kernel
theorem d_M_rest_66 : decode b_M_rest 66 = .ok (.aload_n 0, 1) := by decide +kernel
theorem d_M_rest_67 : decode b_M_rest 67 = .ok (.invokevirtual 54, 3) := by decide +kernel
theorem d_M_rest_70 : decode b_M_rest 70 = .ok (.istore_n 2, 1) := by decide +kernel
theorem d_M_rest_71 : decode b_M_rest 71 = .ok (.aload_n 0, 1) := by decide +kernel
theorem d_M_rest_72 : decode b_M_rest 72 = .ok (.iconst 0, 1) := by decide +kernel
theorem d_M_rest_73 : decode b_M_rest 73 = .ok (.putfield 42, 3) := by decide +kernel
theorem d_M_rest_76 : decode b_M_rest 76 = .ok (.aload_n 0, 1) := by decide +kernel
theorem d_M_rest_77 : decode b_M_rest 77 = .ok (.iconst 0, 1) := by decide +kernel
theorem d_M_rest_78 : decode b_M_rest 78 = .ok (.putfield 45, 3) := by decide +kernel
theorem d_M_rest_81 : decode b_M_rest 81 = .ok (.aload_n 0, 1) := by decide +kernel
theorem d_M_rest_82 : decode b_M_rest 82 = .ok (.iconst 0, 1) := by decide +kernel
theorem d_M_rest_83 : decode b_M_rest 83 = .ok (.putfield 38, 3) := by decide +kernel
theorem d_M_rest_86 : decode b_M_rest 86 = .ok (.iload_n 2, 1) := by decide +kernel
theorem d_M_rest_87 : decode b_M_rest 87 = .ok (.ireturn, 1) := by decide +kernel
theorem d_M_with_0 : decode b_M_with 0 = .ok (.iload_n 1, 1) := by decide +kernel
theorem d_M_with_1 : decode b_M_with 1 = .ok (.iload_n 2, 1) := by decide +kernel
theorem d_M_with_2 : decode b_M_with 2 = .ok (.ixor, 1) := by decide +kernel
theorem d_M_with_3 : decode b_M_with 3 = .ok (.istore_n 3, 1) := by decide +kernel
theorem d_M_with_4 : decode b_M_with 4 = .ok (.iconst 0, 1) := by decide +kernel
theorem d_M_with_5 : decode b_M_with 5 = .ok (.istore 4, 2) := by decide +kernel
theorem d_M_with_7 : decode b_M_with 7 = .ok (.iload 4, 2) := by decide +kernel
theorem d_M_with_9 : decode b_M_with 9 = .ok (.bipush 8, 2) := by decide +kernel
theorem d_M_with_11 : decode b_M_with 11 = .ok (.if_icmp .ge 29, 3) := by decide +kernel
theorem d_M_with_14 : decode b_M_with 14 = .ok (.iload_n 3, 1) := by decide +kernel
theorem d_M_with_15 : decode b_M_with 15 = .ok (.iconst 2, 1) := by decide +kernel
theorem d_M_with_16 : decode b_M_with 16 = .ok (.irem, 1) := by decide +kernel
theorem d_M_with_17 : decode b_M_with 17 = .ok (.iconst 1, 1) := by decide +kernel
theorem d_M_with_18 : decode b_M_with 18 = .ok (.if_icmp .ne 12, 3) := by decide +kernel
theorem d_M_with_21 : decode b_M_with 21 = .ok (.iload_n 3, 1) := by decide +kernel
theorem d_M_with_22 : decode b_M_with 22 = .ok (.iconst 2, 1) := by decide +kernel
theorem d_M_with_23 : decode b_M_with 23 = .ok (.idiv, 1) := by decide +kernel
theorem d_M_with_24 : decode b_M_with 24 = .ok (.ldc 58, 2) := by decide +kernel
theorem d_M_with_26 : decode b_M_with 26 = .ok (.ixor, 1) := by decide +kernel
theorem d_M_with_27 : decode b_M_with 27 = .ok (.goto 6, 3) := by decide +kernel
theorem d_M_with_30 : decode b_M_with 30 = .ok (.iload_n 3, 1) := by decide +kernel
theorem d_M_with_31 : decode b_M_with 31 = .ok (.iconst 2, 1) := by decide +kernel
theorem d_M_with_32 : decode b_M_with 32 = .ok (.idiv, 1) := by decide +kernel
theorem d_M_with_33 : decode b_M_with 33 = .ok (.istore_n 3, 1) := by decide +kernel
theorem d_M_with_34 : decode b_M_with 34 = .ok (.iinc 4 1, 3) := by decide +kernel
theorem d_M_with_37 : decode b_M_with 37 = .ok (.goto (-30), 3) := by decide +kernel
theorem d_M_with_40 : decode b_M_with 40 = .ok (.iload_n 3, 1) := by decide +kernel
theorem d_M_with_41 : decode b_M_with 41 = .ok (.ireturn, 1) := by decide +kernel
theorem d_M_sumOf_0 : decode b_M_sumOf 0 = .ok (.ldc 59, 2) := by decide +kernel
theorem d_M_sumOf_2 : decode b_M_sumOf 2 = .ok (.istore_n 3, 1) := by decide +kernel
theorem d_M_sumOf_3 : decode b_M_sumOf 3 = .ok (.iconst 0, 1) := by decide +kernel
theorem d_M_sumOf_4 : decode b_M_sumOf 4 = .ok (.istore 4, 2) := by decide +kernel
theorem d_M_sumOf_6 : decode b_M_sumOf 6 = .ok (.iload 4, 2) := by decide +kernel
theorem d_M_sumOf_8 : decode b_M_sumOf 8 = .ok (.iload_n 2, 1) := by decide +kernel
theorem d_M_sumOf_9 : decode b_M_sumOf 9 = .ok (.if_icmp .ge 19, 3) := by decide +kernel
theorem d_M_sumOf_12 : decode b_M_sumOf 12 = .ok (.aload_n 0, 1) := by decide +kernel
theorem d_M_sumOf_13 : decode b_M_sumOf 13 = .ok (.iload_n 3, 1) := by decide +kernel
theorem d_M_sumOf_14 : decode b_M_sumOf 14 = .ok (.aload_n 1, 1) := by decide +kernel
theorem d_M_sumOf_15 : decode b_M_sumOf 15 = .ok (.iload 4, 2) := by decide +kernel
theorem d_M_sumOf_17 : decode b_M_sumOf 17 = .ok (.iaload, 1) := by decide +kernel
theorem d_M_sumOf_18 : decode b_M_sumOf 18 = .ok (.invokevirtual 60, 3) := by decide +kernel
theorem d_M_sumOf_21 : decode b_M_sumOf 21 = .ok (.istore_n 3, 1) := by decide +kernel
theorem d_M_sumOf_22 : decode b_M_sumOf 22 = .ok (.iinc 4 1, 3) := by decide +kernel
theorem d_M_sumOf_25 : decode b_M_sumOf 25 = .ok (.goto (-19), 3) := by decide +kernel
theorem d_M_sumOf_28 : decode b_M_sumOf 28 = .ok (.iload_n 3, 1) := by decide +kernel
theorem d_M_sumOf_29 : decode b_M_sumOf 29 = .ok (.ireturn, 1) := by decide +kernel
theorem d_M_sum_0 : decode b_M_sum 0 = .ok (.aload_n 0, 1) := by decide +kernel
theorem d_M_sum_1 : decode b_M_sum 1 = .ok (.iconst 0, 1) := by decide +kernel
theorem d_M_sum_2 : decode b_M_sum 2 = .ok (.putfield 35, 3) := by decide +kernel
theorem d_M_sum_5 : decode b_M_sum 5 = .ok (.iload_n 1, 1) := by decide +kernel
theorem d_M_sum_6 : decode b_M_sum 6 = .ok (.ifCond .lt 9, 3) := by decide +kernel
theorem d_M_sum_9 : decode b_M_sum 9 = .ok (.iload_n 1, 1) := by decide +kernel
theorem d_M_sum_10 : decode b_M_sum 10 = .ok (.bipush 8, 2) := by decide +kernel
theorem d_M_sum_12 : decode b_M_sum 12 = .ok (.if_icmp .le 5, 3) := by decide +kernel
theorem d_M_sum_15 : decode b_M_sum 15 = .ok (.iconst (-1), 1) := by decide +kernel
theorem d_M_sum_16 : decode b_M_sum 16 = .ok (.ireturn, 1) := by decide +kernel
theorem d_M_sum_17 : decode b_M_sum 17 = .ok (.ldc 59, 2) := by decide +kernel
theorem d_M_sum_19 : decode b_M_sum 19 = .ok (.istore 4, 2) := by decide +kernel
theorem d_M_sum_21 : decode b_M_sum 21 = .ok (.iload_n 1, 1) := by decide +kernel
theorem d_M_sum_22 : decode b_M_sum 22 = .ok (.iconst 1, 1) := by decide +kernel
theorem d_M_sum_23 : decode b_M_sum 23 = .ok (.isub, 1) := by decide +kernel
theorem d_M_sum_24 : decode b_M_sum 24 = .ok (.istore 5, 2) := by decide +kernel
theorem d_M_sum_26 : decode b_M_sum 26 = .ok (.iload 5, 2) := by decide +kernel
theorem d_M_sum_28 : decode b_M_sum 28 = .ok (.ifCond .lt 29, 3) := by decide +kernel
theorem d_M_sum_31 : decode b_M_sum 31 = .ok (.aload_n 0, 1) := by decide +kernel
theorem d_M_sum_32 : decode b_M_sum 32 = .ok (.iload 4, 2) := by decide +kernel
theorem d_M_sum_34 : decode b_M_sum 34 = .ok (.lload_n 2, 1) := by decide +kernel
theorem d_M_sum_35 : decode b_M_sum 35 = .ok (.bipush 8, 2) := by decide +kernel
theorem d_M_sum_37 : decode b_M_sum 37 = .ok (.iload 5, 2) := by decide +kernel
theorem d_M_sum_39 : decode b_M_sum 39 = .ok (.imul, 1) := by decide +kernel
theorem d_M_sum_40 : decode b_M_sum 40 = .ok (.lshr, 1) := by decide +kernel
theorem d_M_sum_41 : decode b_M_sum 41 = .ok (.ldc2_w 48, 3) := by decide +kernel
theorem d_M_sum_44 : decode b_M_sum 44 = .ok (.land, 1) := by decide +kernel
theorem d_M_sum_45 : decode b_M_sum 45 = .ok (.l2i, 1) := by decide +kernel
theorem d_M_sum_46 : decode b_M_sum 46 = .ok (.invokevirtual 60, 3) := by decide +kernel
theorem d_M_sum_49 : decode b_M_sum 49 = .ok (.istore 4, 2) := by decide +kernel
theorem d_M_sum_51 : decode b_M_sum 51 = .ok (.iinc 5 (-1), 3) := by decide +kernel
theorem d_M_sum_54 : decode b_M_sum 54 = .ok (.goto (-28), 3) := by decide +kernel
theorem d_M_sum_57 : decode b_M_sum 57 = .ok (.iload 4, 2) := by decide +kernel
theorem d_M_sum_59 : decode b_M_sum 59 = .ok (.ireturn, 1) := by decide +kernel
theorem d_M_data_0 : decode b_M_data 0 = .ok (.aload_n 0, 1) := by decide +kernel
theorem d_M_data_1 : decode b_M_data 1 = .ok (.getfield 22, 3) := by decide +kernel
theorem d_M_data_4 : decode b_M_data 4 = .ok (.iconst 2, 1) := by decide +kernel
theorem d_M_data_5 : decode b_M_data 5 = .ok (.iload_n 1, 1) := by decide +kernel
theorem d_M_data_6 : decode b_M_data 6 = .ok (.iadd, 1) := by decide +kernel
theorem d_M_data_7 : decode b_M_data 7 = .ok (.iaload, 1) := by decide +kernel
theorem d_M_data_8 : decode b_M_data 8 = .ok (.ireturn, 1) := by decide +kernel
theorem d_M_two_0 : decode b_M_two 0 = .ok (.sipush 256, 3) := by decide +kernel
theorem d_M_two_3 : decode b_M_two 3 = .ok (.aload_n 0, 1) := by decide +kernel
theorem d_M_two_4 : decode b_M_two 4 = .ok (.iload_n 1, 1) := by decide +kernel
theorem d_M_two_5 : decode b_M_two 5 = .ok (.invokevirtual 64, 3) := by decide +kernel
theorem d_M_two_8 : decode b_M_two 8 = .ok (.imul, 1) := by decide +kernel
theorem d_M_two_9 : decode b_M_two 9 = .ok (.aload_n 0, 1) := by decide +kernel
theorem d_M_two_10 : decode b_M_two 10 = .ok (.iload_n 1, 1) := by decide +kernel
theorem d_M_two_11 : decode b_M_two 11 = .ok (.iconst 1, 1) := by decide +kernel
theorem d_M_two_12 : decode b_M_two 12 = .ok (.iadd, 1) := by decide +kernel
theorem d_M_two_13 : decode b_M_two 13 = .ok (.invokevirtual 64, 3) := by decide +kernel
theorem d_M_two_16 : decode b_M_two 16 = .ok (.iadd, 1) := by decide +kernel
theorem d_M_two_17 : decode b_M_two 17 = .ok (.ireturn, 1) := by decide +kernel
theorem d_M_ends_0 : decode b_M_ends 0 = .ok (.aload_n 0, 1) := by decide +kernel
theorem d_M_ends_1 : decode b_M_ends 1 = .ok (.iconst 0, 1) := by decide +kernel
theorem d_M_ends_2 : decode b_M_ends 2 = .ok (.putfield 67, 3) := by decide +kernel
theorem d_M_ends_5 : decode b_M_ends 5 = .ok (.aload_n 0, 1) := by decide +kernel
theorem d_M_ends_6 : decode b_M_ends 6 = .ok (.getfield 28, 3) := by decide +kernel
theorem d_M_ends_9 : decode b_M_ends 9 = .ok (.iconst 0, 1) := by decide +kernel
theorem d_M_ends_10 : decode b_M_ends 10 = .ok (.dup2, 1) := by decide +kernel
theorem d_M_ends_11 : decode b_M_ends 11 = .ok (.iaload, 1) := by decide +kernel
theorem d_M_ends_12 : decode b_M_ends 12 = .ok (.iconst 1, 1) := by decide +kernel
theorem d_M_ends_13 : decode b_M_ends 13 = .ok (.iadd, 1) := by decide +kernel
theorem d_M_ends_14 : decode b_M_ends 14 = .ok (.iastore, 1) := by decide +kernel
theorem d_M_ends_15 : decode b_M_ends 15 = .ok (.aload_n 0, 1) := by decide +kernel
theorem d_M_ends_16 : decode b_M_ends 16 = .ok (.getfield 38, 3) := by decide +kernel
theorem d_M_ends_19 : decode b_M_ends 19 = .ok (.ifCond .ne 11, 3) := by decide +kernel
theorem d_M_ends_22 : decode b_M_ends 22 = .ok (.aload_n 0, 1) := by decide +kernel
theorem d_M_ends_23 : decode b_M_ends 23 = .ok (.getfield 42, 3) := by decide +kernel
theorem d_M_ends_26 : decode b_M_ends 26 = .ok (.iconst 4, 1) := by decide +kernel
theorem d_M_ends_27 : decode b_M_ends 27 = .ok (.if_icmp .ge 7, 3) := by decide +kernel
theorem d_M_ends_30 : decode b_M_ends 30 = .ok (.iconst 0, 1) := by decide +kernel
theorem d_M_ends_31 : decode b_M_ends 31 = .ok (.goto 17, 3) := by decide +kernel
theorem d_M_ends_34 : decode b_M_ends 34 = .ok (.aload_n 0, 1) := by decide +kernel
theorem d_M_ends_35 : decode b_M_ends 35 = .ok (.aload_n 0, 1) := by decide +kernel
theorem d_M_ends_36 : decode b_M_ends 36 = .ok (.getfield 22, 3) := by decide +kernel
theorem d_M_ends_39 : decode b_M_ends 39 = .ok (.aload_n 0, 1) := by decide +kernel
theorem d_M_ends_40 : decode b_M_ends 40 = .ok (.getfield 42, 3) := by decide +kernel
theorem d_M_ends_43 : decode b_M_ends 43 = .ok (.iconst 2, 1) := by decide +kernel
theorem d_M_ends_44 : decode b_M_ends 44 = .ok (.isub, 1) := by decide +kernel
theorem d_M_ends_45 : decode b_M_ends 45 = .ok (.invokevirtual 70, 3) := by decide +kernel
theorem d_M_ends_48 : decode b_M_ends 48 = .ok (.istore_n 1, 1) := by decide +kernel
theorem d_M_ends_49 : decode b_M_ends 49 = .ok (.aload_n 0, 1) := by decide +kernel
theorem d_M_ends_50 : decode b_M_ends 50 = .ok (.getfield 38, 3) := by decide +kernel
theorem d_M_ends_53 : decode b_M_ends 53 = .ok (.ifCond .ne 49, 3) := by decide +kernel
theorem d_M_ends_56 : decode b_M_ends 56 = .ok (.aload_n 0, 1) := by decide +kernel
theorem d_M_ends_57 : decode b_M_ends 57 = .ok (.getfield 42, 3) := by decide +kernel
theorem d_M_ends_60 : decode b_M_ends 60 = .ok (.iconst 4, 1) := by decide +kernel
theorem d_M_ends_61 : decode b_M_ends 61 = .ok (.if_icmp .lt 41, 3) := by decide +kernel
theorem d_M_ends_64 : decode b_M_ends 64 = .ok (.aload_n 0, 1) := by decide +kernel
theorem d_M_ends_65 : decode b_M_ends 65 = .ok (.getfield 22, 3) := by decide +kernel
theorem d_M_ends_68 : decode b_M_ends 68 = .ok (.aload_n 0, 1) := by decide +kernel
theorem d_M_ends_69 : decode b_M_ends 69 = .ok (.getfield 42, 3) := by decide +kernel
theorem d_M_ends_72 : decode b_M_ends 72 = .ok (.iconst 2, 1) := by decide +kernel
theorem d_M_ends_73 : decode b_M_ends 73 = .ok (.isub, 1) := by decide +kernel
theorem d_M_ends_74 : decode b_M_ends 74 = .ok (.iaload, 1) := by decide +kernel
theorem d_M_ends_75 : decode b_M_ends 75 = .ok (.iload_n 1, 1) := by decide +kernel
theorem d_M_ends_76 : decode b_M_ends 76 = .ok (.sipush 256, 3) := by decide +kernel
theorem d_M_ends_79 : decode b_M_ends 79 = .ok (.irem, 1) := by decide +kernel
theorem d_M_ends_80 : decode b_M_ends 80 = .ok (.if_icmp .ne 22, 3) := by decide +kernel
theorem d_M_ends_83 : decode b_M_ends 83 = .ok (.aload_n 0, 1) := by decide +kernel
theorem d_M_ends_84 : decode b_M_ends 84 = .ok (.getfield 22, 3) := by decide +kernel
theorem d_M_ends_87 : decode b_M_ends 87 = .ok (.aload_n 0, 1) := by decide +kernel
theorem d_M_ends_88 : decode b_M_ends 88 = .ok (.getfield 42, 3) := by decide +kernel
theorem d_M_ends_91 : decode b_M_ends 91 = .ok (.iconst 1, 1) := by decide +kernel
theorem d_M_ends_92 : decode b_M_ends 92 = .ok (.isub, 1) := by decide +kernel
theorem d_M_ends_93 : decode b_M_ends 93 = .ok (.iaload, 1) := by decide +kernel
theorem d_M_ends_94 : decode b_M_ends 94 = .ok (.iload_n 1, 1) := by decide +kernel
theorem d_M_ends_95 : decode b_M_ends 95 = .ok (.sipush 256, 3) := by decide +kernel
theorem d_M_ends_98 : decode b_M_ends 98 = .ok (.idiv, 1) := by decide +kernel
theorem d_M_ends_99 : decode b_M_ends 99 = .ok (.if_icmp .eq 15, 3) := by decide +kernel
theorem d_M_ends_102 : decode b_M_ends 102 = .ok (.aload_n 0, 1) := by decide +kernel
theorem d_M_ends_103 : decode b_M_ends 103 = .ok (.getfield 28, 3) := by decide +kernel
theorem d_M_ends_106 : decode b_M_ends 106 = .ok (.iconst 1, 1) := by decide +kernel
theorem d_M_ends_107 : decode b_M_ends 107 = .ok (.dup2, 1) := by decide +kernel
theorem d_M_ends_108 : decode b_M_ends 108 = .ok (.iaload, 1) := by decide +kernel
theorem d_M_ends_109 : decode b_M_ends 109 = .ok (.iconst 1, 1) := by decide +kernel
theorem d_M_ends_110 : decode b_M_ends 110 = .ok (.iadd, 1) := by decide +kernel
theorem d_M_ends_111 : decode b_M_ends 111 = .ok (.iastore, 1) := by decide +kernel
theorem d_M_ends_112 : decode b_M_ends 112 = .ok (.iconst 0, 1) := by decide +kernel
theorem d_M_ends_113 : decode b_M_ends 113 = .ok (.ireturn, 1) := by decide +kernel
theorem d_M_ends_114 : decode b_M_ends 114 = .ok (.aload_n 0, 1) := by decide +kernel
theorem d_M_ends_115 : decode b_M_ends 115 = .ok (.getfield 22, 3) := by decide +kernel
theorem d_M_ends_118 : decode b_M_ends 118 = .ok (.iconst 0, 1) := by decide +kernel
theorem d_M_ends_119 : decode b_M_ends 119 = .ok (.iaload, 1) := by decide +kernel
theorem d_M_ends_120 : decode b_M_ends 120 = .ok (.ifCond .eq 28, 3) := by decide +kernel
theorem d_M_ends_123 : decode b_M_ends 123 = .ok (.aload_n 0, 1) := by decide +kernel
theorem d_M_ends_124 : decode b_M_ends 124 = .ok (.getfield 22, 3) := by decide +kernel
theorem d_M_ends_127 : decode b_M_ends 127 = .ok (.iconst 0, 1) := by decide +kernel
theorem d_M_ends_128 : decode b_M_ends 128 = .ok (.iaload, 1) := by decide +kernel
theorem d_M_ends_129 : decode b_M_ends 129 = .ok (.aload_n 0, 1) := by decide +kernel
theorem d_M_ends_130 : decode b_M_ends 130 = .ok (.getfield 31, 3) := by decide +kernel
theorem d_M_ends_133 : decode b_M_ends 133 = .ok (.if_icmp .eq 15, 3) := by decide +kernel
theorem d_M_ends_136 : decode b_M_ends 136 = .ok (.aload_n 0, 1) := by decide +kernel
theorem d_M_ends_137 : decode b_M_ends 137 = .ok (.getfield 28, 3) := by decide +kernel
theorem d_M_ends_140 : decode b_M_ends 140 = .ok (.iconst 2, 1) := by decide +kernel
theorem d_M_ends_141 : decode b_M_ends 141 = .ok (.dup2, 1) := by decide +kernel
theorem d_M_ends_142 : decode b_M_ends 142 = .ok (.iaload, 1) := by decide +kernel
theorem d_M_ends_143 : decode b_M_ends 143 = .ok (.iconst 1, 1) := by decide +kernel
theorem d_M_ends_144 : decode b_M_ends 144 = .ok (.iadd, 1) := by decide +kernel
theorem d_M_ends_145 : decode b_M_ends 145 = .ok (.iastore, 1) := by decide +kernel
theorem d_M_ends_146 : decode b_M_ends 146 = .ok (.iconst 0, 1) := by decide +kernel
theorem d_M_ends_147 : decode b_M_ends 147 = .ok (.ireturn, 1) := by decide +kernel
theorem d_M_ends_148 : decode b_M_ends 148 = .ok (.aload_n 0, 1) := by decide +kernel
theorem d_M_ends_149 : decode b_M_ends 149 = .ok (.aload_n 0, 1) := by decide +kernel
theorem d_M_ends_150 : decode b_M_ends 150 = .ok (.getfield 22, 3) := by decide +kernel
theorem d_M_ends_153 : decode b_M_ends 153 = .ok (.iconst 1, 1) := by decide +kernel
theorem d_M_ends_154 : decode b_M_ends 154 = .ok (.iaload, 1) := by decide +kernel
theorem d_M_ends_155 : decode b_M_ends 155 = .ok (.aload_n 0, 1) := by decide +kernel
theorem d_M_ends_156 : decode b_M_ends 156 = .ok (.getfield 42, 3) := by decide +kernel
theorem d_M_ends_159 : decode b_M_ends 159 = .ok (.iconst 4, 1) := by decide +kernel
theorem d_M_ends_160 : decode b_M_ends 160 = .ok (.isub, 1) := by decide +kernel
theorem d_M_ends_161 : decode b_M_ends 161 = .ok (.invokevirtual 74, 3) := by decide +kernel
theorem d_M_ends_164 : decode b_M_ends 164 = .ok (.istore_n 2, 1) := by decide +kernel
theorem d_M_ends_165 : decode b_M_ends 165 = .ok (.aload_n 0, 1) := by decide +kernel
theorem d_M_ends_166 : decode b_M_ends 166 = .ok (.getfield 28, 3) := by decide +kernel
theorem d_M_ends_169 : decode b_M_ends 169 = .ok (.iload_n 2, 1) := by decide +kernel
theorem d_M_ends_170 : decode b_M_ends 170 = .ok (.ifCond .le 7, 3) := by decide +kernel
theorem d_M_ends_173 : decode b_M_ends 173 = .ok (.iconst 3, 1) := by decide +kernel
theorem d_M_ends_174 : decode b_M_ends 174 = .ok (.goto 4, 3) := by decide +kernel
theorem d_M_ends_177 : decode b_M_ends 177 = .ok (.iconst 4, 1) := by decide +kernel
theorem d_M_ends_178 : decode b_M_ends 178 = .ok (.dup2, 1) := by decide +kernel
theorem d_M_ends_179 : decode b_M_ends 179 = .ok (.iaload, 1) := by decide +kernel
theorem d_M_ends_180 : decode b_M_ends 180 = .ok (.iconst 1, 1) := by decide +kernel
theorem d_M_ends_181 : decode b_M_ends 181 = .ok (.iadd, 1) := by decide +kernel
theorem d_M_ends_182 : decode b_M_ends 182 = .ok (.iastore, 1) := by decide +kernel
theorem d_M_ends_183 : decode b_M_ends 183 = .ok (.iload_n 2, 1) := by decide +kernel
theorem d_M_ends_184 : decode b_M_ends 184 = .ok (.ifCond .ne 13, 3) := by decide +kernel
theorem d_M_ends_187 : decode b_M_ends 187 = .ok (.aload_n 0, 1) := by decide +kernel
theorem d_M_ends_188 : decode b_M_ends 188 = .ok (.aload_n 0, 1) := by decide +kernel
theorem d_M_ends_189 : decode b_M_ends 189 = .ok (.getfield 22, 3) := by decide +kernel
theorem d_M_ends_192 : decode b_M_ends 192 = .ok (.iconst 1, 1) := by decide +kernel
theorem d_M_ends_193 : decode b_M_ends 193 = .ok (.iaload, 1) := by decide +kernel
theorem d_M_ends_194 : decode b_M_ends 194 = .ok (.invokevirtual 77, 3) := by decide +kernel
theorem d_M_ends_197 : decode b_M_ends 197 = .ok (.aload_n 0, 1) := by decide +kernel
theorem d_M_ends_198 : decode b_M_ends 198 = .ok (.getfield 22, 3) := by decide +kernel
theorem d_M_ends_201 : decode b_M_ends 201 = .ok (.iconst 0, 1) := by decide +kernel
theorem d_M_ends_202 : decode b_M_ends 202 = .ok (.iaload, 1) := by decide +kernel
theorem d_M_ends_203 : decode b_M_ends 203 = .ok (.ifCond .ne 5, 3) := by decide +kernel
theorem d_M_ends_206 : decode b_M_ends 206 = .ok (.iconst 0, 1) := by decide +kernel
theorem d_M_ends_207 : decode b_M_ends 207 = .ok (.ireturn, 1) := by decide +kernel
theorem d_M_ends_208 : decode b_M_ends 208 = .ok (.aload_n 0, 1) := by decide +kernel
theorem d_M_ends_209 : decode b_M_ends 209 = .ok (.getfield 28, 3) := by decide +kernel
theorem d_M_ends_212 : decode b_M_ends 212 = .ok (.iconst 5, 1) := by decide +kernel
theorem d_M_ends_213 : decode b_M_ends 213 = .ok (.dup2, 1) := by decide +kernel
theorem d_M_ends_214 : decode b_M_ends 214 = .ok (.iaload, 1) := by decide +kernel
theorem d_M_ends_215 : decode b_M_ends 215 = .ok (.iconst 1, 1) := by decide +kernel
theorem d_M_ends_216 : decode b_M_ends 216 = .ok (.iadd, 1) := by decide +kernel
theorem d_M_ends_217 : decode b_M_ends 217 = .ok (.iastore, 1) := by decide +kernel
theorem d_M_ends_218 : decode b_M_ends 218 = .ok (.aload_n 0, 1) := by decide +kernel
theorem d_M_ends_219 : decode b_M_ends 219 = .ok (.aload_n 0, 1) := by decide +kernel
theorem d_M_ends_220 : decode b_M_ends 220 = .ok (.getfield 31, 3) := by decide +kernel
theorem d_M_ends_223 : decode b_M_ends 223 = .ok (.invokevirtual 81, 3) := by decide +kernel
theorem d_M_ends_226 : decode b_M_ends 226 = .ok (.iload_n 2, 1) := by decide +kernel
theorem d_M_ends_227 : decode b_M_ends 227 = .ok (.ifCond .le 29, 3) := by decide +kernel
theorem d_M_ends_230 : decode b_M_ends 230 = .ok (.aload_n 0, 1) := by decide +kernel
theorem d_M_ends_231 : decode b_M_ends 231 = .ok (.aload_n 0, 1) := by decide +kernel
theorem d_M_ends_232 : decode b_M_ends 232 = .ok (.getfield 22, 3) := by decide +kernel
theorem d_M_ends_235 : decode b_M_ends 235 = .ok (.iconst 1, 1) := by decide +kernel
theorem d_M_ends_236 : decode b_M_ends 236 = .ok (.iaload, 1) := by decide +kernel
theorem d_M_ends_237 : decode b_M_ends 237 = .ok (.sipush 128, 3) := by decide +kernel
theorem d_M_ends_240 : decode b_M_ends 240 = .ok (.irem, 1) := by decide +kernel
theorem d_M_ends_241 : decode b_M_ends 241 = .ok (.sipush 128, 3) := by decide +kernel
theorem d_M_ends_244 : decode b_M_ends 244 = .ok (.iadd, 1) := by decide +kernel
theorem d_M_ends_245 : decode b_M_ends 245 = .ok (.invokevirtual 81, 3) := by decide +kernel
theorem d_M_ends_248 : decode b_M_ends 248 = .ok (.aload_n 0, 1) := by decide +kernel
theorem d_M_ends_249 : decode b_M_ends 249 = .ok (.iload_n 2, 1) := by decide +kernel
theorem d_M_ends_250 : decode b_M_ends 250 = .ok (.invokevirtual 81, 3) := by decide +kernel
theorem d_M_ends_253 : decode b_M_ends 253 = .ok (.goto 13, 3) := by decide +kernel
theorem d_M_ends_256 : decode b_M_ends 256 = .ok (.aload_n 0, 1) := by decide +kernel
theorem d_M_ends_257 : decode b_M_ends 257 = .ok (.aload_n 0, 1) := by decide +kernel
theorem d_M_ends_258 : decode b_M_ends 258 = .ok (.getfield 22, 3) := by decide +kernel
theorem d_M_ends_261 : decode b_M_ends 261 = .ok (.iconst 1, 1) := by decide +kernel
theorem d_M_ends_262 : decode b_M_ends 262 = .ok (.iaload, 1) := by decide +kernel
theorem d_M_ends_263 : decode b_M_ends 263 = .ok (.invokevirtual 84, 3) := by decide +kernel
theorem d_M_ends_266 : decode b_M_ends 266 = .ok (.aload_n 0, 1) := by decide +kernel
theorem d_M_ends_267 : decode b_M_ends 267 = .ok (.aload_n 0, 1) := by decide +kernel
theorem d_M_ends_268 : decode b_M_ends 268 = .ok (.getfield 25, 3) := by decide +kernel
theorem d_M_ends_271 : decode b_M_ends 271 = .ok (.aload_n 0, 1) := by decide +kernel
theorem d_M_ends_272 : decode b_M_ends 272 = .ok (.getfield 67, 3) := by decide +kernel
theorem d_M_ends_275 : decode b_M_ends 275 = .ok (.invokevirtual 70, 3) := by decide +kernel
theorem d_M_ends_278 : decode b_M_ends 278 = .ok (.istore_n 3, 1) := by decide +kernel
theorem d_M_ends_279 : decode b_M_ends 279 = .ok (.aload_n 0, 1) := by decide +kernel
theorem d_M_ends_280 : decode b_M_ends 280 = .ok (.iload_n 3, 1) := by decide +kernel
theorem d_M_ends_281 : decode b_M_ends 281 = .ok (.sipush 256, 3) := by decide +kernel
theorem d_M_ends_284 : decode b_M_ends 284 = .ok (.irem, 1) := by decide +kernel
theorem d_M_ends_285 : decode b_M_ends 285 = .ok (.invokevirtual 81, 3) := by decide +kernel
theorem d_M_ends_288 : decode b_M_ends 288 = .ok (.aload_n 0, 1) := by decide +kernel
theorem d_M_ends_289 : decode b_M_ends 289 = .ok (.iload_n 3, 1) := by decide +kernel
theorem d_M_ends_290 : decode b_M_ends 290 = .ok (.sipush 256, 3) := by decide +kernel
theorem d_M_ends_293 : decode b_M_ends 293 = .ok (.idiv, 1) := by decide +kernel
theorem d_M_ends_294 : decode b_M_ends 294 = .ok (.invokevirtual 81, 3) := by decide +kernel
theorem d_M_ends_297 : decode b_M_ends 297 = .ok (.aload_n 0, 1) := by decide +kernel
theorem d_M_ends_298 : decode b_M_ends 298 = .ok (.getfield 67, 3) := by decide +kernel
theorem d_M_ends_301 : decode b_M_ends 301 = .ok (.ireturn, 1) := by decide +kernel
theorem d_M_add_0 : decode b_M_add 0 = .ok (.aload_n 0, 1) := by decide +kernel
theorem d_M_add_1 : decode b_M_add 1 = .ok (.getfield 25, 3) := by decide +kernel
theorem d_M_add_4 : decode b_M_add 4 = .ok (.aload_n 0, 1) := by decide +kernel
theorem d_M_add_5 : decode b_M_add 5 = .ok (.getfield 67, 3) := by decide +kernel
theorem d_M_add_8 : decode b_M_add 8 = .ok (.iload_n 1, 1) := by decide +kernel
theorem d_M_add_9 : decode b_M_add 9 = .ok (.iastore, 1) := by decide +kernel
theorem d_M_add_10 : decode b_M_add 10 = .ok (.aload_n 0, 1) := by decide +kernel
theorem d_M_add_11 : decode b_M_add 11 = .ok (.dup, 1) := by decide +kernel
theorem d_M_add_12 : decode b_M_add 12 = .ok (.getfield 67, 3) := by decide +kernel
theorem d_M_add_15 : decode b_M_add 15 = .ok (.iconst 1, 1) := by decide +kernel
theorem d_M_add_16 : decode b_M_add 16 = .ok (.iadd, 1) := by decide +kernel
theorem d_M_add_17 : decode b_M_add 17 = .ok (.putfield 67, 3) := by decide +kernel
theorem d_M_add_20 : decode b_M_add 20 = .ok (.return_, 1) := by decide +kernel
theorem d_M_table_0 : decode b_M_table 0 = .ok (.iload_n 1, 1) := by decide +kernel
theorem d_M_table_1 : decode b_M_table 1 = .ok (.iconst 2, 1) := by decide +kernel
theorem d_M_table_2 : decode b_M_table 2 = .ok (.if_icmp .ne 10, 3) := by decide +kernel
theorem d_M_table_5 : decode b_M_table 5 = .ok (.aload_n 0, 1) := by decide +kernel
theorem d_M_table_6 : decode b_M_table 6 = .ok (.getfield 13, 3) := by decide +kernel
theorem d_M_table_9 : decode b_M_table 9 = .ok (.goto 42, 3) := by decide +kernel
theorem d_M_table_12 : decode b_M_table 12 = .ok (.iload_n 1, 1) := by decide +kernel
theorem d_M_table_13 : decode b_M_table 13 = .ok (.iconst 4, 1) := by decide +kernel
theorem d_M_table_14 : decode b_M_table 14 = .ok (.if_icmp .ne 10, 3) := by decide +kernel
theorem d_M_table_17 : decode b_M_table 17 = .ok (.aload_n 0, 1) := by decide +kernel
theorem d_M_table_18 : decode b_M_table 18 = .ok (.getfield 19, 3) := by decide +kernel
theorem d_M_table_21 : decode b_M_table 21 = .ok (.goto 30, 3) := by decide +kernel
theorem d_M_table_24 : decode b_M_table 24 = .ok (.iload_n 1, 1) := by decide +kernel
theorem d_M_table_25 : decode b_M_table 25 = .ok (.iconst 1, 1) := by decide +kernel
theorem d_M_table_26 : decode b_M_table 26 = .ok (.if_icmp .eq 14, 3) := by decide +kernel
theorem d_M_table_29 : decode b_M_table 29 = .ok (.iload_n 1, 1) := by decide +kernel
theorem d_M_table_30 : decode b_M_table 30 = .ok (.iconst 5, 1) := by decide +kernel
theorem d_M_table_31 : decode b_M_table 31 = .ok (.if_icmp .eq 9, 3) := by decide +kernel
theorem d_M_table_34 : decode b_M_table 34 = .ok (.iload_n 1, 1) := by decide +kernel
theorem d_M_table_35 : decode b_M_table 35 = .ok (.bipush 15, 2) := by decide +kernel
theorem d_M_table_37 : decode b_M_table 37 = .ok (.if_icmp .ne 10, 3) := by decide +kernel
theorem d_M_table_40 : decode b_M_table 40 = .ok (.aload_n 0, 1) := by decide +kernel
theorem d_M_table_41 : decode b_M_table 41 = .ok (.getfield 7, 3) := by decide +kernel
theorem d_M_table_44 : decode b_M_table 44 = .ok (.goto 7, 3) := by decide +kernel
theorem d_M_table_47 : decode b_M_table 47 = .ok (.aload_n 0, 1) := by decide +kernel
theorem d_M_table_48 : decode b_M_table 48 = .ok (.getfield 16, 3) := by decide +kernel
theorem d_M_table_51 : decode b_M_table 51 = .ok (.areturn, 1) := by decide +kernel
theorem d_M_why_0 : decode b_M_why 0 = .ok (.iload_n 1, 1) := by decide +kernel
theorem d_M_why_1 : decode b_M_why 1 = .ok (.iconst 1, 1) := by decide +kernel
theorem d_M_why_2 : decode b_M_why 2 = .ok (.if_icmp .lt 9, 3) := by decide +kernel
theorem d_M_why_5 : decode b_M_why 5 = .ok (.iload_n 1, 1) := by decide +kernel
theorem d_M_why_6 : decode b_M_why 6 = .ok (.bipush 6, 2) := by decide +kernel
theorem d_M_why_8 : decode b_M_why 8 = .ok (.if_icmp .le 15, 3) := by decide +kernel
theorem d_M_why_11 : decode b_M_why 11 = .ok (.iload_n 1, 1) := by decide +kernel
theorem d_M_why_12 : decode b_M_why 12 = .ok (.bipush 15, 2) := by decide +kernel
theorem d_M_why_14 : decode b_M_why 14 = .ok (.if_icmp .eq 9, 3) := by decide +kernel
theorem d_M_why_17 : decode b_M_why 17 = .ok (.iload_n 1, 1) := by decide +kernel
theorem d_M_why_18 : decode b_M_why 18 = .ok (.bipush 16, 2) := by decide +kernel
theorem d_M_why_20 : decode b_M_why 20 = .ok (.if_icmp .ne 7, 3) := by decide +kernel
theorem d_M_why_23 : decode b_M_why 23 = .ok (.iconst 1, 1) := by decide +kernel
theorem d_M_why_24 : decode b_M_why 24 = .ok (.goto 4, 3) := by decide +kernel
theorem d_M_why_27 : decode b_M_why 27 = .ok (.iconst 0, 1) := by decide +kernel
theorem d_M_why_28 : decode b_M_why 28 = .ok (.istore_n 3, 1) := by decide +kernel
theorem d_M_why_29 : decode b_M_why 29 = .ok (.iload_n 3, 1) := by decide +kernel
theorem d_M_why_30 : decode b_M_why 30 = .ok (.ifCond .ne 5, 3) := by decide +kernel
theorem d_M_why_33 : decode b_M_why 33 = .ok (.iconst 1, 1) := by decide +kernel
theorem d_M_why_34 : decode b_M_why 34 = .ok (.ireturn, 1) := by decide +kernel
theorem d_M_why_35 : decode b_M_why 35 = .ok (.iload_n 1, 1) := by decide +kernel
theorem d_M_why_36 : decode b_M_why 36 = .ok (.bipush 7, 2) := by decide +kernel
theorem d_M_why_38 : decode b_M_why 38 = .ok (.if_icmp .ge 11, 3) := by decide +kernel
theorem d_M_why_41 : decode b_M_why 41 = .ok (.iload_n 2, 1) := by decide +kernel
theorem d_M_why_42 : decode b_M_why 42 = .ok (.iconst 4, 1) := by decide +kernel
theorem d_M_why_43 : decode b_M_why 43 = .ok (.if_icmp .eq 25, 3) := by decide +kernel
theorem d_M_why_46 : decode b_M_why 46 = .ok (.goto 20, 3) := by decide +kernel
theorem d_M_why_49 : decode b_M_why 49 = .ok (.iload_n 2, 1) := by decide +kernel
theorem d_M_why_50 : decode b_M_why 50 = .ok (.bipush 6, 2) := by decide +kernel
theorem d_M_why_52 : decode b_M_why 52 = .ok (.if_icmp .lt 14, 3) := by decide +kernel
theorem d_M_why_55 : decode b_M_why 55 = .ok (.iload_n 2, 1) := by decide +kernel
theorem d_M_why_56 : decode b_M_why 56 = .ok (.iconst 5, 1) := by decide +kernel
theorem d_M_why_57 : decode b_M_why 57 = .ok (.aload_n 0, 1) := by decide +kernel
theorem d_M_why_58 : decode b_M_why 58 = .ok (.iconst 4, 1) := by decide +kernel
theorem d_M_why_59 : decode b_M_why 59 = .ok (.invokevirtual 64, 3) := by decide +kernel
theorem d_M_why_62 : decode b_M_why 62 = .ok (.iadd, 1) := by decide +kernel
theorem d_M_why_63 : decode b_M_why 63 = .ok (.if_icmp .eq 5, 3) := by decide +kernel
theorem d_M_why_66 : decode b_M_why 66 = .ok (.iconst 3, 1) := by decide +kernel
theorem d_M_why_67 : decode b_M_why 67 = .ok (.ireturn, 1) := by decide +kernel
theorem d_M_why_68 : decode b_M_why 68 = .ok (.aload_n 0, 1) := by decide +kernel
theorem d_M_why_69 : decode b_M_why 69 = .ok (.iconst 2, 1) := by decide +kernel
theorem d_M_why_70 : decode b_M_why 70 = .ok (.invokevirtual 87, 3) := by decide +kernel
theorem d_M_why_73 : decode b_M_why 73 = .ok (.istore 4, 2) := by decide +kernel
theorem d_M_why_75 : decode b_M_why 75 = .ok (.iload_n 1, 1) := by decide +kernel
theorem d_M_why_76 : decode b_M_why 76 = .ok (.tableswitch 224 1 16 #[80, 80, 104, 104, 127, 224, 224, 224, 224, 224, 224, 224, 224, 224, 149, 189], 80) := by decide +kernel
theorem d_M_why_156 : decode b_M_why 156 = .ok (.iload 4, 2) := by decide +kernel
theorem d_M_why_158 : decode b_M_why 158 = .ok (.iconst 1, 1) := by decide +kernel
theorem d_M_why_159 : decode b_M_why 159 = .ok (.if_icmp .lt 11, 3) := by decide +kernel
theorem d_M_why_162 : decode b_M_why 162 = .ok (.iload 4, 2) := by decide +kernel
theorem d_M_why_164 : decode b_M_why 164 = .ok (.sipush 2000, 3) := by decide +kernel
theorem d_M_why_167 : decode b_M_why 167 = .ok (.if_icmp .le 7, 3) := by decide +kernel
theorem d_M_why_170 : decode b_M_why 170 = .ok (.iconst 1, 1) := by decide +kernel
theorem d_M_why_171 : decode b_M_why 171 = .ok (.goto 4, 3) := by decide +kernel
theorem d_M_why_174 : decode b_M_why 174 = .ok (.iconst 0, 1) := by decide +kernel
theorem d_M_why_175 : decode b_M_why 175 = .ok (.istore 5, 2) := by decide +kernel
theorem d_M_why_177 : decode b_M_why 177 = .ok (.goto 126, 3) := by decide +kernel
theorem d_M_why_180 : decode b_M_why 180 = .ok (.iload 4, 2) := by decide +kernel
theorem d_M_why_182 : decode b_M_why 182 = .ok (.iconst 1, 1) := by decide +kernel
theorem d_M_why_183 : decode b_M_why 183 = .ok (.if_icmp .lt 10, 3) := by decide +kernel
theorem d_M_why_186 : decode b_M_why 186 = .ok (.iload 4, 2) := by decide +kernel
theorem d_M_why_188 : decode b_M_why 188 = .ok (.bipush 125, 2) := by decide +kernel
theorem d_M_why_190 : decode b_M_why 190 = .ok (.if_icmp .le 7, 3) := by decide +kernel
theorem d_M_why_193 : decode b_M_why 193 = .ok (.iconst 1, 1) := by decide +kernel
theorem d_M_why_194 : decode b_M_why 194 = .ok (.goto 4, 3) := by decide +kernel
theorem d_M_why_197 : decode b_M_why 197 = .ok (.iconst 0, 1) := by decide +kernel
theorem d_M_why_198 : decode b_M_why 198 = .ok (.istore 5, 2) := by decide +kernel
theorem d_M_why_200 : decode b_M_why 200 = .ok (.goto 103, 3) := by decide +kernel
theorem d_M_why_203 : decode b_M_why 203 = .ok (.iload 4, 2) := by decide +kernel
theorem d_M_why_205 : decode b_M_why 205 = .ok (.ifCond .eq 14, 3) := by decide +kernel
theorem d_M_why_208 : decode b_M_why 208 = .ok (.iload 4, 2) := by decide +kernel
theorem d_M_why_210 : decode b_M_why 210 = .ok (.ldc 90, 2) := by decide +kernel
theorem d_M_why_212 : decode b_M_why 212 = .ok (.if_icmp .eq 7, 3) := by decide +kernel
theorem d_M_why_215 : decode b_M_why 215 = .ok (.iconst 1, 1) := by decide +kernel
theorem d_M_why_216 : decode b_M_why 216 = .ok (.goto 4, 3) := by decide +kernel
theorem d_M_why_219 : decode b_M_why 219 = .ok (.iconst 0, 1) := by decide +kernel
theorem d_M_why_220 : decode b_M_why 220 = .ok (.istore 5, 2) := by decide +kernel
theorem d_M_why_222 : decode b_M_why 222 = .ok (.goto 81, 3) := by decide +kernel
theorem d_M_why_225 : decode b_M_why 225 = .ok (.iload 4, 2) := by decide +kernel
theorem d_M_why_227 : decode b_M_why 227 = .ok (.iconst 1, 1) := by decide +kernel
theorem d_M_why_228 : decode b_M_why 228 = .ok (.if_icmp .lt 27, 3) := by decide +kernel
theorem d_M_why_231 : decode b_M_why 231 = .ok (.iload 4, 2) := by decide +kernel
theorem d_M_why_233 : decode b_M_why 233 = .ok (.sipush 1968, 3) := by decide +kernel
theorem d_M_why_236 : decode b_M_why 236 = .ok (.if_icmp .gt 19, 3) := by decide +kernel
theorem d_M_why_239 : decode b_M_why 239 = .ok (.aload_n 0, 1) := by decide +kernel
theorem d_M_why_240 : decode b_M_why 240 = .ok (.iconst 4, 1) := by decide +kernel
theorem d_M_why_241 : decode b_M_why 241 = .ok (.invokevirtual 64, 3) := by decide +kernel
theorem d_M_why_244 : decode b_M_why 244 = .ok (.iload 4, 2) := by decide +kernel
theorem d_M_why_246 : decode b_M_why 246 = .ok (.bipush 7, 2) := by decide +kernel
theorem d_M_why_248 : decode b_M_why 248 = .ok (.iadd, 1) := by decide +kernel
theorem d_M_why_249 : decode b_M_why 249 = .ok (.bipush 8, 2) := by decide +kernel
theorem d_M_why_251 : decode b_M_why 251 = .ok (.idiv, 1) := by decide +kernel
theorem d_M_why_252 : decode b_M_why 252 = .ok (.if_icmp .eq 7, 3) := by decide +kernel
theorem d_M_why_255 : decode b_M_why 255 = .ok (.iconst 1, 1) := by decide +kernel
theorem d_M_why_256 : decode b_M_why 256 = .ok (.goto 4, 3) := by decide +kernel
theorem d_M_why_259 : decode b_M_why 259 = .ok (.iconst 0, 1) := by decide +kernel
theorem d_M_why_260 : decode b_M_why 260 = .ok (.istore 5, 2) := by decide +kernel
theorem d_M_why_262 : decode b_M_why 262 = .ok (.goto 41, 3) := by decide +kernel
theorem d_M_why_265 : decode b_M_why 265 = .ok (.iload 4, 2) := by decide +kernel
theorem d_M_why_267 : decode b_M_why 267 = .ok (.iconst 1, 1) := by decide +kernel
theorem d_M_why_268 : decode b_M_why 268 = .ok (.if_icmp .lt 22, 3) := by decide +kernel
theorem d_M_why_271 : decode b_M_why 271 = .ok (.iload 4, 2) := by decide +kernel
theorem d_M_why_273 : decode b_M_why 273 = .ok (.bipush 123, 2) := by decide +kernel
theorem d_M_why_275 : decode b_M_why 275 = .ok (.if_icmp .gt 15, 3) := by decide +kernel
theorem d_M_why_278 : decode b_M_why 278 = .ok (.aload_n 0, 1) := by decide +kernel
theorem d_M_why_279 : decode b_M_why 279 = .ok (.iconst 4, 1) := by decide +kernel
theorem d_M_why_280 : decode b_M_why 280 = .ok (.invokevirtual 64, 3) := by decide +kernel
theorem d_M_why_283 : decode b_M_why 283 = .ok (.iconst 2, 1) := by decide +kernel
theorem d_M_why_284 : decode b_M_why 284 = .ok (.iload 4, 2) := by decide +kernel
theorem d_M_why_286 : decode b_M_why 286 = .ok (.imul, 1) := by decide +kernel
theorem d_M_why_287 : decode b_M_why 287 = .ok (.if_icmp .eq 7, 3) := by decide +kernel
theorem d_M_why_290 : decode b_M_why 290 = .ok (.iconst 1, 1) := by decide +kernel
theorem d_M_why_291 : decode b_M_why 291 = .ok (.goto 4, 3) := by decide +kernel
theorem d_M_why_294 : decode b_M_why 294 = .ok (.iconst 0, 1) := by decide +kernel
theorem d_M_why_295 : decode b_M_why 295 = .ok (.istore 5, 2) := by decide +kernel
theorem d_M_why_297 : decode b_M_why 297 = .ok (.goto 6, 3) := by decide +kernel
theorem d_M_why_300 : decode b_M_why 300 = .ok (.iconst 0, 1) := by decide +kernel
theorem d_M_why_301 : decode b_M_why 301 = .ok (.istore 5, 2) := by decide +kernel
theorem d_M_why_303 : decode b_M_why 303 = .ok (.iload 5, 2) := by decide +kernel
theorem d_M_why_305 : decode b_M_why 305 = .ok (.ifCond .eq 5, 3) := by decide +kernel
theorem d_M_why_308 : decode b_M_why 308 = .ok (.iconst 3, 1) := by decide +kernel
theorem d_M_why_309 : decode b_M_why 309 = .ok (.ireturn, 1) := by decide +kernel
theorem d_M_why_310 : decode b_M_why 310 = .ok (.iload_n 1, 1) := by decide +kernel
theorem d_M_why_311 : decode b_M_why 311 = .ok (.iconst 5, 1) := by decide +kernel
theorem d_M_why_312 : decode b_M_why 312 = .ok (.if_icmp .eq 9, 3) := by decide +kernel
theorem d_M_why_315 : decode b_M_why 315 = .ok (.iload_n 1, 1) := by decide +kernel
theorem d_M_why_316 : decode b_M_why 316 = .ok (.bipush 6, 2) := by decide +kernel
theorem d_M_why_318 : decode b_M_why 318 = .ok (.if_icmp .ne 7, 3) := by decide +kernel
theorem d_M_why_321 : decode b_M_why 321 = .ok (.iconst 1, 1) := by decide +kernel
theorem d_M_why_322 : decode b_M_why 322 = .ok (.goto 5, 3) := by decide +kernel
theorem d_M_why_325 : decode b_M_why 325 = .ok (.iload 4, 2) := by decide +kernel
theorem d_M_why_327 : decode b_M_why 327 = .ok (.istore 6, 2) := by decide +kernel
theorem d_M_why_329 : decode b_M_why 329 = .ok (.aload_n 0, 1) := by decide +kernel
theorem d_M_why_330 : decode b_M_why 330 = .ok (.iconst 0, 1) := by decide +kernel
theorem d_M_why_331 : decode b_M_why 331 = .ok (.invokevirtual 87, 3) := by decide +kernel
theorem d_M_why_334 : decode b_M_why 334 = .ok (.iload 6, 2) := by decide +kernel
theorem d_M_why_336 : decode b_M_why 336 = .ok (.iadd, 1) := by decide +kernel
theorem d_M_why_337 : decode b_M_why 337 = .ok (.aload_n 0, 1) := by decide +kernel
theorem d_M_why_338 : decode b_M_why 338 = .ok (.iload_n 1, 1) := by decide +kernel
theorem d_M_why_339 : decode b_M_why 339 = .ok (.invokevirtual 91, 3) := by decide +kernel
theorem d_M_why_342 : decode b_M_why 342 = .ok (.arraylength, 1) := by decide +kernel
theorem d_M_why_343 : decode b_M_why 343 = .ok (.if_icmp .le 7, 3) := by decide +kernel
theorem d_M_why_346 : decode b_M_why 346 = .ok (.iconst 2, 1) := by decide +kernel
theorem d_M_why_347 : decode b_M_why 347 = .ok (.goto 4, 3) := by decide +kernel
theorem d_M_why_350 : decode b_M_why 350 = .ok (.iconst 0, 1) := by decide +kernel
theorem d_M_why_351 : decode b_M_why 351 = .ok (.ireturn, 1) := by decide +kernel
theorem d_M_act_0 : decode b_M_act 0 = .ok (.aload_n 0, 1) := by decide +kernel
theorem d_M_act_1 : decode b_M_act 1 = .ok (.iconst 0, 1) := by decide +kernel
theorem d_M_act_2 : decode b_M_act 2 = .ok (.invokevirtual 87, 3) := by decide +kernel
theorem d_M_act_5 : decode b_M_act 5 = .ok (.istore_n 2, 1) := by decide +kernel
theorem d_M_act_6 : decode b_M_act 6 = .ok (.aload_n 0, 1) := by decide +kernel
theorem d_M_act_7 : decode b_M_act 7 = .ok (.iconst 2, 1) := by decide +kernel
theorem d_M_act_8 : decode b_M_act 8 = .ok (.invokevirtual 87, 3) := by decide +kernel
theorem d_M_act_11 : decode b_M_act 11 = .ok (.istore_n 3, 1) := by decide +kernel
theorem d_M_act_12 : decode b_M_act 12 = .ok (.iload_n 1, 1) := by decide +kernel
theorem d_M_act_13 : decode b_M_act 13 = .ok (.iconst 5, 1) := by decide +kernel
theorem d_M_act_14 : decode b_M_act 14 = .ok (.if_icmp .ne 21, 3) := by decide +kernel
theorem d_M_act_17 : decode b_M_act 17 = .ok (.aload_n 0, 1) := by decide +kernel
theorem d_M_act_18 : decode b_M_act 18 = .ok (.getfield 7, 3) := by decide +kernel
theorem d_M_act_21 : decode b_M_act 21 = .ok (.iload_n 2, 1) := by decide +kernel
theorem d_M_act_22 : decode b_M_act 22 = .ok (.iload_n 3, 1) := by decide +kernel
theorem d_M_act_23 : decode b_M_act 23 = .ok (.ifCond .le 7, 3) := by decide +kernel
theorem d_M_act_26 : decode b_M_act 26 = .ok (.iconst 1, 1) := by decide +kernel
theorem d_M_act_27 : decode b_M_act 27 = .ok (.goto 4, 3) := by decide +kernel
theorem d_M_act_30 : decode b_M_act 30 = .ok (.iconst 0, 1) := by decide +kernel
theorem d_M_act_31 : decode b_M_act 31 = .ok (.iastore, 1) := by decide +kernel
theorem d_M_act_32 : decode b_M_act 32 = .ok (.goto 111, 3) := by decide +kernel
theorem d_M_act_35 : decode b_M_act 35 = .ok (.iload_n 1, 1) := by decide +kernel
theorem d_M_act_36 : decode b_M_act 36 = .ok (.bipush 6, 2) := by decide +kernel
theorem d_M_act_38 : decode b_M_act 38 = .ok (.if_icmp .ne 13, 3) := by decide +kernel
theorem d_M_act_41 : decode b_M_act 41 = .ok (.aload_n 0, 1) := by decide +kernel
theorem d_M_act_42 : decode b_M_act 42 = .ok (.getfield 16, 3) := by decide +kernel
theorem d_M_act_45 : decode b_M_act 45 = .ok (.iload_n 2, 1) := by decide +kernel
theorem d_M_act_46 : decode b_M_act 46 = .ok (.iload_n 3, 1) := by decide +kernel
theorem d_M_act_47 : decode b_M_act 47 = .ok (.iastore, 1) := by decide +kernel
theorem d_M_act_48 : decode b_M_act 48 = .ok (.goto 95, 3) := by decide +kernel
theorem d_M_act_51 : decode b_M_act 51 = .ok (.iload_n 1, 1) := by decide +kernel
theorem d_M_act_52 : decode b_M_act 52 = .ok (.bipush 15, 2) := by decide +kernel
theorem d_M_act_54 : decode b_M_act 54 = .ok (.if_icmp .ne 49, 3) := by decide +kernel
theorem d_M_act_57 : decode b_M_act 57 = .ok (.iconst 0, 1) := by decide +kernel
theorem d_M_act_58 : decode b_M_act 58 = .ok (.istore 4, 2) := by decide +kernel
theorem d_M_act_60 : decode b_M_act 60 = .ok (.iload 4, 2) := by decide +kernel
theorem d_M_act_62 : decode b_M_act 62 = .ok (.iload_n 3, 1) := by decide +kernel
theorem d_M_act_63 : decode b_M_act 63 = .ok (.if_icmp .ge 37, 3) := by decide +kernel
theorem d_M_act_66 : decode b_M_act 66 = .ok (.aload_n 0, 1) := by decide +kernel
theorem d_M_act_67 : decode b_M_act 67 = .ok (.getfield 7, 3) := by decide +kernel
theorem d_M_act_70 : decode b_M_act 70 = .ok (.iload_n 2, 1) := by decide +kernel
theorem d_M_act_71 : decode b_M_act 71 = .ok (.iload 4, 2) := by decide +kernel
theorem d_M_act_73 : decode b_M_act 73 = .ok (.iadd, 1) := by decide +kernel
theorem d_M_act_74 : decode b_M_act 74 = .ok (.aload_n 0, 1) := by decide +kernel
theorem d_M_act_75 : decode b_M_act 75 = .ok (.iconst 5, 1) := by decide +kernel
theorem d_M_act_76 : decode b_M_act 76 = .ok (.iload 4, 2) := by decide +kernel
theorem d_M_act_78 : decode b_M_act 78 = .ok (.bipush 8, 2) := by decide +kernel
theorem d_M_act_80 : decode b_M_act 80 = .ok (.idiv, 1) := by decide +kernel
theorem d_M_act_81 : decode b_M_act 81 = .ok (.iadd, 1) := by decide +kernel
theorem d_M_act_82 : decode b_M_act 82 = .ok (.invokevirtual 64, 3) := by decide +kernel
theorem d_M_act_85 : decode b_M_act 85 = .ok (.iload 4, 2) := by decide +kernel
theorem d_M_act_87 : decode b_M_act 87 = .ok (.bipush 8, 2) := by decide +kernel
theorem d_M_act_89 : decode b_M_act 89 = .ok (.irem, 1) := by decide +kernel
theorem d_M_act_90 : decode b_M_act 90 = .ok (.ishr, 1) := by decide +kernel
theorem d_M_act_91 : decode b_M_act 91 = .ok (.iconst 1, 1) := by decide +kernel
theorem d_M_act_92 : decode b_M_act 92 = .ok (.iand, 1) := by decide +kernel
theorem d_M_act_93 : decode b_M_act 93 = .ok (.iastore, 1) := by decide +kernel
theorem d_M_act_94 : decode b_M_act 94 = .ok (.iinc 4 1, 3) := by decide +kernel
theorem d_M_act_97 : decode b_M_act 97 = .ok (.goto (-37), 3) := by decide +kernel
theorem d_M_act_100 : decode b_M_act 100 = .ok (.goto 43, 3) := by decide +kernel
theorem d_M_act_103 : decode b_M_act 103 = .ok (.iload_n 1, 1) := by decide +kernel
theorem d_M_act_104 : decode b_M_act 104 = .ok (.bipush 16, 2) := by decide +kernel
theorem d_M_act_106 : decode b_M_act 106 = .ok (.if_icmp .ne 37, 3) := by decide +kernel
theorem d_M_act_109 : decode b_M_act 109 = .ok (.iconst 0, 1) := by decide +kernel
theorem d_M_act_110 : decode b_M_act 110 = .ok (.istore 4, 2) := by decide +kernel
theorem d_M_act_112 : decode b_M_act 112 = .ok (.iload 4, 2) := by decide +kernel
theorem d_M_act_114 : decode b_M_act 114 = .ok (.iload_n 3, 1) := by decide +kernel
theorem d_M_act_115 : decode b_M_act 115 = .ok (.if_icmp .ge 28, 3) := by decide +kernel
theorem d_M_act_118 : decode b_M_act 118 = .ok (.aload_n 0, 1) := by decide +kernel
theorem d_M_act_119 : decode b_M_act 119 = .ok (.getfield 16, 3) := by decide +kernel
theorem d_M_act_122 : decode b_M_act 122 = .ok (.iload_n 2, 1) := by decide +kernel
theorem d_M_act_123 : decode b_M_act 123 = .ok (.iload 4, 2) := by decide +kernel
theorem d_M_act_125 : decode b_M_act 125 = .ok (.iadd, 1) := by decide +kernel
theorem d_M_act_126 : decode b_M_act 126 = .ok (.aload_n 0, 1) := by decide +kernel
theorem d_M_act_127 : decode b_M_act 127 = .ok (.iconst 5, 1) := by decide +kernel
theorem d_M_act_128 : decode b_M_act 128 = .ok (.iconst 2, 1) := by decide +kernel
theorem d_M_act_129 : decode b_M_act 129 = .ok (.iload 4, 2) := by decide +kernel
theorem d_M_act_131 : decode b_M_act 131 = .ok (.imul, 1) := by decide +kernel
theorem d_M_act_132 : decode b_M_act 132 = .ok (.iadd, 1) := by decide +kernel
theorem d_M_act_133 : decode b_M_act 133 = .ok (.invokevirtual 87, 3) := by decide +kernel
theorem d_M_act_136 : decode b_M_act 136 = .ok (.iastore, 1) := by decide +kernel
theorem d_M_act_137 : decode b_M_act 137 = .ok (.iinc 4 1, 3) := by decide +kernel
theorem d_M_act_140 : decode b_M_act 140 = .ok (.goto (-28), 3) := by decide +kernel
theorem d_M_act_143 : decode b_M_act 143 = .ok (.return_, 1) := by decide +kernel
theorem d_M_answer_0 : decode b_M_answer 0 = .ok (.aload_n 0, 1) := by decide +kernel
theorem d_M_answer_1 : decode b_M_answer 1 = .ok (.iconst 0, 1) := by decide +kernel
theorem d_M_answer_2 : decode b_M_answer 2 = .ok (.invokevirtual 87, 3) := by decide +kernel
theorem d_M_answer_5 : decode b_M_answer 5 = .ok (.istore_n 2, 1) := by decide +kernel
theorem d_M_answer_6 : decode b_M_answer 6 = .ok (.aload_n 0, 1) := by decide +kernel
theorem d_M_answer_7 : decode b_M_answer 7 = .ok (.iconst 2, 1) := by decide +kernel
theorem d_M_answer_8 : decode b_M_answer 8 = .ok (.invokevirtual 87, 3) := by decide +kernel
theorem d_M_answer_11 : decode b_M_answer 11 = .ok (.istore_n 3, 1) := by decide +kernel
theorem d_M_answer_12 : decode b_M_answer 12 = .ok (.aload_n 0, 1) := by decide +kernel
theorem d_M_answer_13 : decode b_M_answer 13 = .ok (.iload_n 1, 1) := by decide +kernel
theorem d_M_answer_14 : decode b_M_answer 14 = .ok (.invokevirtual 81, 3) := by decide +kernel
theorem d_M_answer_17 : decode b_M_answer 17 = .ok (.iload_n 1, 1) := by decide +kernel
theorem d_M_answer_18 : decode b_M_answer 18 = .ok (.iconst 3, 1) := by decide +kernel
theorem d_M_answer_19 : decode b_M_answer 19 = .ok (.if_icmp .ge 87, 3) := by decide +kernel
theorem d_M_answer_22 : decode b_M_answer 22 = .ok (.aload_n 0, 1) := by decide +kernel
theorem d_M_answer_23 : decode b_M_answer 23 = .ok (.iload_n 3, 1) := by decide +kernel
theorem d_M_answer_24 : decode b_M_answer 24 = .ok (.bipush 7, 2) := by decide +kernel
theorem d_M_answer_26 : decode b_M_answer 26 = .ok (.iadd, 1) := by decide +kernel
theorem d_M_answer_27 : decode b_M_answer 27 = .ok (.bipush 8, 2) := by decide +kernel
theorem d_M_answer_29 : decode b_M_answer 29 = .ok (.idiv, 1) := by decide +kernel
theorem d_M_answer_30 : decode b_M_answer 30 = .ok (.invokevirtual 81, 3) := by decide +kernel
theorem d_M_answer_33 : decode b_M_answer 33 = .ok (.iconst 0, 1) := by decide +kernel
theorem d_M_answer_34 : decode b_M_answer 34 = .ok (.istore 4, 2) := by decide +kernel
theorem d_M_answer_36 : decode b_M_answer 36 = .ok (.iload 4, 2) := by decide +kernel
theorem d_M_answer_38 : decode b_M_answer 38 = .ok (.iload_n 3, 1) := by decide +kernel
theorem d_M_answer_39 : decode b_M_answer 39 = .ok (.if_icmp .ge 64, 3) := by decide +kernel
theorem d_M_answer_42 : decode b_M_answer 42 = .ok (.iconst 0, 1) := by decide +kernel
theorem d_M_answer_43 : decode b_M_answer 43 = .ok (.istore 5, 2) := by decide +kernel
theorem d_M_answer_45 : decode b_M_answer 45 = .ok (.iconst 0, 1) := by decide +kernel
theorem d_M_answer_46 : decode b_M_answer 46 = .ok (.istore 6, 2) := by decide +kernel
theorem d_M_answer_48 : decode b_M_answer 48 = .ok (.iload 6, 2) := by decide +kernel
theorem d_M_answer_50 : decode b_M_answer 50 = .ok (.bipush 8, 2) := by decide +kernel
theorem d_M_answer_52 : decode b_M_answer 52 = .ok (.if_icmp .ge 39, 3) := by decide +kernel
theorem d_M_answer_55 : decode b_M_answer 55 = .ok (.iload 4, 2) := by decide +kernel
theorem d_M_answer_57 : decode b_M_answer 57 = .ok (.iload 6, 2) := by decide +kernel
theorem d_M_answer_59 : decode b_M_answer 59 = .ok (.iadd, 1) := by decide +kernel
theorem d_M_answer_60 : decode b_M_answer 60 = .ok (.iload_n 3, 1) := by decide +kernel
theorem d_M_answer_61 : decode b_M_answer 61 = .ok (.if_icmp .ge 30, 3) := by decide +kernel
theorem d_M_answer_64 : decode b_M_answer 64 = .ok (.iload 5, 2) := by decide +kernel
theorem d_M_answer_66 : decode b_M_answer 66 = .ok (.aload_n 0, 1) := by decide +kernel
theorem d_M_answer_67 : decode b_M_answer 67 = .ok (.iload_n 1, 1) := by decide +kernel
theorem d_M_answer_68 : decode b_M_answer 68 = .ok (.invokevirtual 91, 3) := by decide +kernel
theorem d_M_answer_71 : decode b_M_answer 71 = .ok (.iload_n 2, 1) := by decide +kernel
theorem d_M_answer_72 : decode b_M_answer 72 = .ok (.iload 4, 2) := by decide +kernel
theorem d_M_answer_74 : decode b_M_answer 74 = .ok (.iadd, 1) := by decide +kernel
theorem d_M_answer_75 : decode b_M_answer 75 = .ok (.iload 6, 2) := by decide +kernel
theorem d_M_answer_77 : decode b_M_answer 77 = .ok (.iadd, 1) := by decide +kernel
theorem d_M_answer_78 : decode b_M_answer 78 = .ok (.iaload, 1) := by decide +kernel
theorem d_M_answer_79 : decode b_M_answer 79 = .ok (.iload 6, 2) := by decide +kernel
theorem d_M_answer_81 : decode b_M_answer 81 = .ok (.ishl, 1) := by decide +kernel
theorem d_M_answer_82 : decode b_M_answer 82 = .ok (.iadd, 1) := by decide +kernel
theorem d_M_answer_83 : decode b_M_answer 83 = .ok (.istore 5, 2) := by decide +kernel
theorem d_M_answer_85 : decode b_M_answer 85 = .ok (.iinc 6 1, 3) := by decide +kernel
theorem d_M_answer_88 : decode b_M_answer 88 = .ok (.goto (-40), 3) := by decide +kernel
theorem d_M_answer_91 : decode b_M_answer 91 = .ok (.aload_n 0, 1) := by decide +kernel
theorem d_M_answer_92 : decode b_M_answer 92 = .ok (.iload 5, 2) := by decide +kernel
theorem d_M_answer_94 : decode b_M_answer 94 = .ok (.invokevirtual 81, 3) := by decide +kernel
theorem d_M_answer_97 : decode b_M_answer 97 = .ok (.iinc 4 8, 3) := by decide +kernel
theorem d_M_answer_100 : decode b_M_answer 100 = .ok (.goto (-64), 3) := by decide +kernel
theorem d_M_answer_103 : decode b_M_answer 103 = .ok (.goto 94, 3) := by decide +kernel
theorem d_M_answer_106 : decode b_M_answer 106 = .ok (.iload_n 1, 1) := by decide +kernel
theorem d_M_answer_107 : decode b_M_answer 107 = .ok (.iconst 5, 1) := by decide +kernel
theorem d_M_answer_108 : decode b_M_answer 108 = .ok (.if_icmp .ge 64, 3) := by decide +kernel
theorem d_M_answer_111 : decode b_M_answer 111 = .ok (.aload_n 0, 1) := by decide +kernel
theorem d_M_answer_112 : decode b_M_answer 112 = .ok (.iconst 2, 1) := by decide +kernel
theorem d_M_answer_113 : decode b_M_answer 113 = .ok (.iload_n 3, 1) := by decide +kernel
theorem d_M_answer_114 : decode b_M_answer 114 = .ok (.imul, 1) := by decide +kernel
theorem d_M_answer_115 : decode b_M_answer 115 = .ok (.invokevirtual 81, 3) := by decide +kernel
theorem d_M_answer_118 : decode b_M_answer 118 = .ok (.iconst 0, 1) := by decide +kernel
theorem d_M_answer_119 : decode b_M_answer 119 = .ok (.istore 4, 2) := by decide +kernel
theorem d_M_answer_121 : decode b_M_answer 121 = .ok (.iload 4, 2) := by decide +kernel
theorem d_M_answer_123 : decode b_M_answer 123 = .ok (.iload_n 3, 1) := by decide +kernel
theorem d_M_answer_124 : decode b_M_answer 124 = .ok (.if_icmp .ge 45, 3) := by decide +kernel
theorem d_M_answer_127 : decode b_M_answer 127 = .ok (.aload_n 0, 1) := by decide +kernel
theorem d_M_answer_128 : decode b_M_answer 128 = .ok (.aload_n 0, 1) := by decide +kernel
theorem d_M_answer_129 : decode b_M_answer 129 = .ok (.iload_n 1, 1) := by decide +kernel
theorem d_M_answer_130 : decode b_M_answer 130 = .ok (.invokevirtual 91, 3) := by decide +kernel
theorem d_M_answer_133 : decode b_M_answer 133 = .ok (.iload_n 2, 1) := by decide +kernel
theorem d_M_answer_134 : decode b_M_answer 134 = .ok (.iload 4, 2) := by decide +kernel
theorem d_M_answer_136 : decode b_M_answer 136 = .ok (.iadd, 1) := by decide +kernel
theorem d_M_answer_137 : decode b_M_answer 137 = .ok (.iaload, 1) := by decide +kernel
theorem d_M_answer_138 : decode b_M_answer 138 = .ok (.sipush 256, 3) := by decide +kernel
theorem d_M_answer_141 : decode b_M_answer 141 = .ok (.idiv, 1) := by decide +kernel
theorem d_M_answer_142 : decode b_M_answer 142 = .ok (.invokevirtual 81, 3) := by decide +kernel
theorem d_M_answer_145 : decode b_M_answer 145 = .ok (.aload_n 0, 1) := by decide +kernel
theorem d_M_answer_146 : decode b_M_answer 146 = .ok (.aload_n 0, 1) := by decide +kernel
theorem d_M_answer_147 : decode b_M_answer 147 = .ok (.iload_n 1, 1) := by decide +kernel
theorem d_M_answer_148 : decode b_M_answer 148 = .ok (.invokevirtual 91, 3) := by decide +kernel
theorem d_M_answer_151 : decode b_M_answer 151 = .ok (.iload_n 2, 1) := by decide +kernel
theorem d_M_answer_152 : decode b_M_answer 152 = .ok (.iload 4, 2) := by decide +kernel
theorem d_M_answer_154 : decode b_M_answer 154 = .ok (.iadd, 1) := by decide +kernel
theorem d_M_answer_155 : decode b_M_answer 155 = .ok (.iaload, 1) := by decide +kernel
theorem d_M_answer_156 : decode b_M_answer 156 = .ok (.sipush 256, 3) := by decide +kernel
theorem d_M_answer_159 : decode b_M_answer 159 = .ok (.irem, 1) := by decide +kernel
theorem d_M_answer_160 : decode b_M_answer 160 = .ok (.invokevirtual 81, 3) := by decide +kernel
theorem d_M_answer_163 : decode b_M_answer 163 = .ok (.iinc 4 1, 3) := by decide +kernel
theorem d_M_answer_166 : decode b_M_answer 166 = .ok (.goto (-45), 3) := by decide +kernel
theorem d_M_answer_169 : decode b_M_answer 169 = .ok (.goto 28, 3) := by decide +kernel
theorem d_M_answer_172 : decode b_M_answer 172 = .ok (.iconst 0, 1) := by decide +kernel
theorem d_M_answer_173 : decode b_M_answer 173 = .ok (.istore 4, 2) := by decide +kernel
theorem d_M_answer_175 : decode b_M_answer 175 = .ok (.iload 4, 2) := by decide +kernel
theorem d_M_answer_177 : decode b_M_answer 177 = .ok (.iconst 4, 1) := by decide +kernel
theorem d_M_answer_178 : decode b_M_answer 178 = .ok (.if_icmp .ge 19, 3) := by decide +kernel
theorem d_M_answer_181 : decode b_M_answer 181 = .ok (.aload_n 0, 1) := by decide +kernel
theorem d_M_answer_182 : decode b_M_answer 182 = .ok (.aload_n 0, 1) := by decide +kernel
theorem d_M_answer_183 : decode b_M_answer 183 = .ok (.iload 4, 2) := by decide +kernel
theorem d_M_answer_185 : decode b_M_answer 185 = .ok (.invokevirtual 64, 3) := by decide +kernel
theorem d_M_answer_188 : decode b_M_answer 188 = .ok (.invokevirtual 81, 3) := by decide +kernel
theorem d_M_answer_191 : decode b_M_answer 191 = .ok (.iinc 4 1, 3) := by decide +kernel
theorem d_M_answer_194 : decode b_M_answer 194 = .ok (.goto (-19), 3) := by decide +kernel
theorem d_M_answer_197 : decode b_M_answer 197 = .ok (.return_, 1) := by decide +kernel
theorem d_M_reply_0 : decode b_M_reply 0 = .ok (.aload_n 0, 1) := by decide +kernel
theorem d_M_reply_1 : decode b_M_reply 1 = .ok (.iconst 0, 1) := by decide +kernel
theorem d_M_reply_2 : decode b_M_reply 2 = .ok (.putfield 35, 3) := by decide +kernel
theorem d_M_reply_5 : decode b_M_reply 5 = .ok (.iload_n 1, 1) := by decide +kernel
theorem d_M_reply_6 : decode b_M_reply 6 = .ok (.ifCond .lt 11, 3) := by decide +kernel
theorem d_M_reply_9 : decode b_M_reply 9 = .ok (.iload_n 1, 1) := by decide +kernel
theorem d_M_reply_10 : decode b_M_reply 10 = .ok (.aload_n 0, 1) := by decide +kernel
theorem d_M_reply_11 : decode b_M_reply 11 = .ok (.getfield 67, 3) := by decide +kernel
theorem d_M_reply_14 : decode b_M_reply 14 = .ok (.if_icmp .lt 7, 3) := by decide +kernel
theorem d_M_reply_17 : decode b_M_reply 17 = .ok (.iconst (-1), 1) := by decide +kernel
theorem d_M_reply_18 : decode b_M_reply 18 = .ok (.goto 9, 3) := by decide +kernel
theorem d_M_reply_21 : decode b_M_reply 21 = .ok (.aload_n 0, 1) := by decide +kernel
theorem d_M_reply_22 : decode b_M_reply 22 = .ok (.getfield 25, 3) := by decide +kernel
theorem d_M_reply_25 : decode b_M_reply 25 = .ok (.iload_n 1, 1) := by decide +kernel
theorem d_M_reply_26 : decode b_M_reply 26 = .ok (.iaload, 1) := by decide +kernel
theorem d_M_reply_27 : decode b_M_reply 27 = .ok (.ireturn, 1) := by decide +kernel
theorem d_M_noPlace_0 : decode b_M_noPlace 0 = .ok (.iload_n 1, 1) := by decide +kernel
theorem d_M_noPlace_1 : decode b_M_noPlace 1 = .ok (.ifCond .lt 29, 3) := by decide +kernel
theorem d_M_noPlace_4 : decode b_M_noPlace 4 = .ok (.iload_n 1, 1) := by decide +kernel
theorem d_M_noPlace_5 : decode b_M_noPlace 5 = .ok (.iconst 3, 1) := by decide +kernel
theorem d_M_noPlace_6 : decode b_M_noPlace 6 = .ok (.if_icmp .gt 24, 3) := by decide +kernel
theorem d_M_noPlace_9 : decode b_M_noPlace 9 = .ok (.iload_n 2, 1) := by decide +kernel
theorem d_M_noPlace_10 : decode b_M_noPlace 10 = .ok (.ifCond .lt 20, 3) := by decide +kernel
theorem d_M_noPlace_13 : decode b_M_noPlace 13 = .ok (.iload_n 2, 1) := by decide +kernel
theorem d_M_noPlace_14 : decode b_M_noPlace 14 = .ok (.iload_n 1, 1) := by decide +kernel
theorem d_M_noPlace_15 : decode b_M_noPlace 15 = .ok (.iconst 2, 1) := by decide +kernel
theorem d_M_noPlace_16 : decode b_M_noPlace 16 = .ok (.if_icmp .ge 9, 3) := by decide +kernel
theorem d_M_noPlace_19 : decode b_M_noPlace 19 = .ok (.sipush 256, 3) := by decide +kernel
theorem d_M_noPlace_22 : decode b_M_noPlace 22 = .ok (.goto 5, 3) := by decide +kernel
theorem d_M_noPlace_25 : decode b_M_noPlace 25 = .ok (.bipush 64, 2) := by decide +kernel
theorem d_M_noPlace_27 : decode b_M_noPlace 27 = .ok (.if_icmp .lt 7, 3) := by decide +kernel
theorem d_M_noPlace_30 : decode b_M_noPlace 30 = .ok (.iconst 1, 1) := by decide +kernel
theorem d_M_noPlace_31 : decode b_M_noPlace 31 = .ok (.goto 4, 3) := by decide +kernel
theorem d_M_noPlace_34 : decode b_M_noPlace 34 = .ok (.iconst 0, 1) := by decide +kernel
theorem d_M_noPlace_35 : decode b_M_noPlace 35 = .ok (.ireturn, 1) := by decide +kernel
theorem d_M_byNumber_0 : decode b_M_byNumber 0 = .ok (.iload_n 1, 1) := by decide +kernel
theorem d_M_byNumber_1 : decode b_M_byNumber 1 = .ok (.ifCond .ne 10, 3) := by decide +kernel
theorem d_M_byNumber_4 : decode b_M_byNumber 4 = .ok (.aload_n 0, 1) := by decide +kernel
theorem d_M_byNumber_5 : decode b_M_byNumber 5 = .ok (.getfield 7, 3) := by decide +kernel
theorem d_M_byNumber_8 : decode b_M_byNumber 8 = .ok (.goto 31, 3) := by decide +kernel
theorem d_M_byNumber_11 : decode b_M_byNumber 11 = .ok (.iload_n 1, 1) := by decide +kernel
theorem d_M_byNumber_12 : decode b_M_byNumber 12 = .ok (.iconst 1, 1) := by decide +kernel
theorem d_M_byNumber_13 : decode b_M_byNumber 13 = .ok (.if_icmp .ne 10, 3) := by decide +kernel
theorem d_M_byNumber_16 : decode b_M_byNumber 16 = .ok (.aload_n 0, 1) := by decide +kernel
theorem d_M_byNumber_17 : decode b_M_byNumber 17 = .ok (.getfield 13, 3) := by decide +kernel
theorem d_M_byNumber_20 : decode b_M_byNumber 20 = .ok (.goto 19, 3) := by decide +kernel
theorem d_M_byNumber_23 : decode b_M_byNumber 23 = .ok (.iload_n 1, 1) := by decide +kernel
theorem d_M_byNumber_24 : decode b_M_byNumber 24 = .ok (.iconst 2, 1) := by decide +kernel
theorem d_M_byNumber_25 : decode b_M_byNumber 25 = .ok (.if_icmp .ne 10, 3) := by decide +kernel
theorem d_M_byNumber_28 : decode b_M_byNumber 28 = .ok (.aload_n 0, 1) := by decide +kernel
theorem d_M_byNumber_29 : decode b_M_byNumber 29 = .ok (.getfield 16, 3) := by decide +kernel
theorem d_M_byNumber_32 : decode b_M_byNumber 32 = .ok (.goto 7, 3) := by decide +kernel
theorem d_M_byNumber_35 : decode b_M_byNumber 35 = .ok (.aload_n 0, 1) := by decide +kernel
theorem d_M_byNumber_36 : decode b_M_byNumber 36 = .ok (.getfield 19, 3) := by decide +kernel
theorem d_M_byNumber_39 : decode b_M_byNumber 39 = .ok (.areturn, 1) := by decide +kernel
theorem d_M_set_0 : decode b_M_set 0 = .ok (.aload_n 0, 1) := by decide +kernel
theorem d_M_set_1 : decode b_M_set 1 = .ok (.iconst 0, 1) := by decide +kernel
theorem d_M_set_2 : decode b_M_set 2 = .ok (.putfield 35, 3) := by decide +kernel
theorem d_M_set_5 : decode b_M_set 5 = .ok (.aload_n 0, 1) := by decide +kernel
theorem d_M_set_6 : decode b_M_set 6 = .ok (.iload_n 1, 1) := by decide +kernel
theorem d_M_set_7 : decode b_M_set 7 = .ok (.iload_n 2, 1) := by decide +kernel
theorem d_M_set_8 : decode b_M_set 8 = .ok (.invokevirtual 95, 3) := by decide +kernel
theorem d_M_set_11 : decode b_M_set 11 = .ok (.ifCond .ne 22, 3) := by decide +kernel
theorem d_M_set_14 : decode b_M_set 14 = .ok (.iload_n 3, 1) := by decide +kernel
theorem d_M_set_15 : decode b_M_set 15 = .ok (.ifCond .lt 18, 3) := by decide +kernel
theorem d_M_set_18 : decode b_M_set 18 = .ok (.iload_n 3, 1) := by decide +kernel
theorem d_M_set_19 : decode b_M_set 19 = .ok (.iload_n 1, 1) := by decide +kernel
theorem d_M_set_20 : decode b_M_set 20 = .ok (.iconst 2, 1) := by decide +kernel
theorem d_M_set_21 : decode b_M_set 21 = .ok (.if_icmp .ge 7, 3) := by decide +kernel
theorem d_M_set_24 : decode b_M_set 24 = .ok (.iconst 1, 1) := by decide +kernel
theorem d_M_set_25 : decode b_M_set 25 = .ok (.goto 5, 3) := by decide +kernel
theorem d_M_set_28 : decode b_M_set 28 = .ok (.ldc 59, 2) := by decide +kernel
theorem d_M_set_30 : decode b_M_set 30 = .ok (.if_icmp .le 5, 3) := by decide +kernel
theorem d_M_set_33 : decode b_M_set 33 = .ok (.iconst (-1), 1) := by decide +kernel
theorem d_M_set_34 : decode b_M_set 34 = .ok (.ireturn, 1) := by decide +kernel
theorem d_M_set_35 : decode b_M_set 35 = .ok (.aload_n 0, 1) := by decide +kernel
theorem d_M_set_36 : decode b_M_set 36 = .ok (.iload_n 1, 1) := by decide +kernel
theorem d_M_set_37 : decode b_M_set 37 = .ok (.invokevirtual 99, 3) := by decide +kernel
theorem d_M_set_40 : decode b_M_set 40 = .ok (.iload_n 2, 1) := by decide +kernel
theorem d_M_set_41 : decode b_M_set 41 = .ok (.iaload, 1) := by decide +kernel
theorem d_M_set_42 : decode b_M_set 42 = .ok (.istore 4, 2) := by decide +kernel
theorem d_M_set_44 : decode b_M_set 44 = .ok (.aload_n 0, 1) := by decide +kernel
theorem d_M_set_45 : decode b_M_set 45 = .ok (.iload_n 1, 1) := by decide +kernel
theorem d_M_set_46 : decode b_M_set 46 = .ok (.invokevirtual 99, 3) := by decide +kernel
theorem d_M_set_49 : decode b_M_set 49 = .ok (.iload_n 2, 1) := by decide +kernel
theorem d_M_set_50 : decode b_M_set 50 = .ok (.iload_n 3, 1) := by decide +kernel
theorem d_M_set_51 : decode b_M_set 51 = .ok (.iastore, 1) := by decide +kernel
theorem d_M_set_52 : decode b_M_set 52 = .ok (.iload 4, 2) := by decide +kernel
theorem d_M_set_54 : decode b_M_set 54 = .ok (.ireturn, 1) := by decide +kernel
theorem d_M_get_0 : decode b_M_get 0 = .ok (.aload_n 0, 1) := by decide +kernel
theorem d_M_get_1 : decode b_M_get 1 = .ok (.iconst 0, 1) := by decide +kernel
theorem d_M_get_2 : decode b_M_get 2 = .ok (.putfield 35, 3) := by decide +kernel
theorem d_M_get_5 : decode b_M_get 5 = .ok (.aload_n 0, 1) := by decide +kernel
theorem d_M_get_6 : decode b_M_get 6 = .ok (.iload_n 1, 1) := by decide +kernel
theorem d_M_get_7 : decode b_M_get 7 = .ok (.iload_n 2, 1) := by decide +kernel
theorem d_M_get_8 : decode b_M_get 8 = .ok (.invokevirtual 95, 3) := by decide +kernel
theorem d_M_get_11 : decode b_M_get 11 = .ok (.ifCond .eq 7, 3) := by decide +kernel
theorem d_M_get_14 : decode b_M_get 14 = .ok (.iconst (-1), 1) := by decide +kernel
theorem d_M_get_15 : decode b_M_get 15 = .ok (.goto 10, 3) := by decide +kernel
theorem d_M_get_18 : decode b_M_get 18 = .ok (.aload_n 0, 1) := by decide +kernel
theorem d_M_get_19 : decode b_M_get 19 = .ok (.iload_n 1, 1) := by decide +kernel
theorem d_M_get_20 : decode b_M_get 20 = .ok (.invokevirtual 99, 3) := by decide +kernel
theorem d_M_get_23 : decode b_M_get 23 = .ok (.iload_n 2, 1) := by decide +kernel
theorem d_M_get_24 : decode b_M_get 24 = .ok (.iaload, 1) := by decide +kernel
theorem d_M_get_25 : decode b_M_get 25 = .ok (.ireturn, 1) := by decide +kernel
theorem d_M_count_0 : decode b_M_count 0 = .ok (.aload_n 0, 1) := by decide +kernel
theorem d_M_count_1 : decode b_M_count 1 = .ok (.iconst 0, 1) := by decide +kernel
theorem d_M_count_2 : decode b_M_count 2 = .ok (.putfield 35, 3) := by decide +kernel
theorem d_M_count_5 : decode b_M_count 5 = .ok (.iload_n 1, 1) := by decide +kernel
theorem d_M_count_6 : decode b_M_count 6 = .ok (.ifCond .lt 8, 3) := by decide +kernel
theorem d_M_count_9 : decode b_M_count 9 = .ok (.iload_n 1, 1) := by decide +kernel
theorem d_M_count_10 : decode b_M_count 10 = .ok (.iconst 5, 1) := by decide +kernel
theorem d_M_count_11 : decode b_M_count 11 = .ok (.if_icmp .le 7, 3) := by decide +kernel
theorem d_M_count_14 : decode b_M_count 14 = .ok (.iconst (-1), 1) := by decide +kernel
theorem d_M_count_15 : decode b_M_count 15 = .ok (.goto 9, 3) := by decide +kernel
theorem d_M_count_18 : decode b_M_count 18 = .ok (.aload_n 0, 1) := by decide +kernel
theorem d_M_count_19 : decode b_M_count 19 = .ok (.getfield 28, 3) := by decide +kernel
theorem d_M_count_22 : decode b_M_count 22 = .ok (.iload_n 1, 1) := by decide +kernel
theorem d_M_count_23 : decode b_M_count 23 = .ok (.iaload, 1) := by decide +kernel
theorem d_M_count_24 : decode b_M_count 24 = .ok (.ireturn, 1) := by decide +kernel
