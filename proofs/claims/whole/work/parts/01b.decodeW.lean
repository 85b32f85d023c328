theorem d_W_init_0 : decode b_W_init 0 = .ok (.aload_n 0, 1) := by decide +kernel
theorem d_W_init_1 : decode b_W_init 1 = .ok (.invokespecial 1, 3) := by decide +kernel
theorem d_W_init_4 : decode b_W_init 4 = .ok (.aload_n 0, 1) := by decide +kernel
theorem d_W_init_5 : decode b_W_init 5 = .ok (.iconst 1, 1) := by decide +kernel
theorem d_W_init_6 : decode b_W_init 6 = .ok (.sipush 247, 3) := by decide +kernel
theorem d_W_init_9 : decode b_W_init 9 = .ok (.iload_n 1, 1) := by decide +kernel
theorem d_W_init_10 : decode b_W_init 10 = .ok (.invokestatic 9, 3) := by decide +kernel
theorem d_W_init_13 : decode b_W_init 13 = .ok (.invokestatic 15, 3) := by decide +kernel
theorem d_W_init_16 : decode b_W_init 16 = .ok (.putfield 18, 3) := by decide +kernel
theorem d_W_init_19 : decode b_W_init 19 = .ok (.aload_n 0, 1) := by decide +kernel
theorem d_W_init_20 : decode b_W_init 20 = .ok (.new 22, 3) := by decide +kernel
theorem d_W_init_23 : decode b_W_init 23 = .ok (.dup, 1) := by decide +kernel
theorem d_W_init_24 : decode b_W_init 24 = .ok (.sipush 256, 3) := by decide +kernel
theorem d_W_init_27 : decode b_W_init 27 = .ok (.newarray .int, 2) := by decide +kernel
theorem d_W_init_29 : decode b_W_init 29 = .ok (.iconst 1, 1) := by decide +kernel
theorem d_W_init_30 : decode b_W_init 30 = .ok (.invokespecial 24, 3) := by decide +kernel
theorem d_W_init_33 : decode b_W_init 33 = .ok (.putfield 27, 3) := by decide +kernel
theorem d_W_init_36 : decode b_W_init 36 = .ok (.aload_n 0, 1) := by decide +kernel
theorem d_W_init_37 : decode b_W_init 37 = .ok (.new 22, 3) := by decide +kernel
theorem d_W_init_40 : decode b_W_init 40 = .ok (.dup, 1) := by decide +kernel
theorem d_W_init_41 : decode b_W_init 41 = .ok (.sipush 256, 3) := by decide +kernel
theorem d_W_init_44 : decode b_W_init 44 = .ok (.newarray .int, 2) := by decide +kernel
theorem d_W_init_46 : decode b_W_init 46 = .ok (.iconst 1, 1) := by decide +kernel
theorem d_W_init_47 : decode b_W_init 47 = .ok (.invokespecial 24, 3) := by decide +kernel
theorem d_W_init_50 : decode b_W_init 50 = .ok (.putfield 31, 3) := by decide +kernel
theorem d_W_init_53 : decode b_W_init 53 = .ok (.aload_n 0, 1) := by decide +kernel
theorem d_W_init_54 : decode b_W_init 54 = .ok (.new 22, 3) := by decide +kernel
theorem d_W_init_57 : decode b_W_init 57 = .ok (.dup, 1) := by decide +kernel
theorem d_W_init_58 : decode b_W_init 58 = .ok (.bipush 64, 2) := by decide +kernel
theorem d_W_init_60 : decode b_W_init 60 = .ok (.newarray .int, 2) := by decide +kernel
theorem d_W_init_62 : decode b_W_init 62 = .ok (.ldc 34, 2) := by decide +kernel
theorem d_W_init_64 : decode b_W_init 64 = .ok (.invokespecial 24, 3) := by decide +kernel
theorem d_W_init_67 : decode b_W_init 67 = .ok (.putfield 35, 3) := by decide +kernel
theorem d_W_init_70 : decode b_W_init 70 = .ok (.aload_n 0, 1) := by decide +kernel
theorem d_W_init_71 : decode b_W_init 71 = .ok (.new 22, 3) := by decide +kernel
theorem d_W_init_74 : decode b_W_init 74 = .ok (.dup, 1) := by decide +kernel
theorem d_W_init_75 : decode b_W_init 75 = .ok (.bipush 64, 2) := by decide +kernel
theorem d_W_init_77 : decode b_W_init 77 = .ok (.newarray .int, 2) := by decide +kernel
theorem d_W_init_79 : decode b_W_init 79 = .ok (.ldc 34, 2) := by decide +kernel
theorem d_W_init_81 : decode b_W_init 81 = .ok (.invokespecial 24, 3) := by decide +kernel
theorem d_W_init_84 : decode b_W_init 84 = .ok (.putfield 38, 3) := by decide +kernel
theorem d_W_init_87 : decode b_W_init 87 = .ok (.aload_n 0, 1) := by decide +kernel
theorem d_W_init_88 : decode b_W_init 88 = .ok (.new 41, 3) := by decide +kernel
theorem d_W_init_91 : decode b_W_init 91 = .ok (.dup, 1) := by decide +kernel
theorem d_W_init_92 : decode b_W_init 92 = .ok (.sipush 257, 3) := by decide +kernel
theorem d_W_init_95 : decode b_W_init 95 = .ok (.newarray .int, 2) := by decide +kernel
theorem d_W_init_97 : decode b_W_init 97 = .ok (.invokespecial 43, 3) := by decide +kernel
theorem d_W_init_100 : decode b_W_init 100 = .ok (.putfield 46, 3) := by decide +kernel
theorem d_W_init_103 : decode b_W_init 103 = .ok (.aload_n 0, 1) := by decide +kernel
theorem d_W_init_104 : decode b_W_init 104 = .ok (.new 41, 3) := by decide +kernel
theorem d_W_init_107 : decode b_W_init 107 = .ok (.dup, 1) := by decide +kernel
theorem d_W_init_108 : decode b_W_init 108 = .ok (.sipush 256, 3) := by decide +kernel
theorem d_W_init_111 : decode b_W_init 111 = .ok (.newarray .int, 2) := by decide +kernel
theorem d_W_init_113 : decode b_W_init 113 = .ok (.invokespecial 43, 3) := by decide +kernel
theorem d_W_init_116 : decode b_W_init 116 = .ok (.putfield 50, 3) := by decide +kernel
theorem d_W_init_119 : decode b_W_init 119 = .ok (.aload_n 0, 1) := by decide +kernel
theorem d_W_init_120 : decode b_W_init 120 = .ok (.bipush 6, 2) := by decide +kernel
theorem d_W_init_122 : decode b_W_init 122 = .ok (.newarray .int, 2) := by decide +kernel
theorem d_W_init_124 : decode b_W_init 124 = .ok (.putfield 53, 3) := by decide +kernel
theorem d_W_init_127 : decode b_W_init 127 = .ok (.aload_n 0, 1) := by decide +kernel
theorem d_W_init_128 : decode b_W_init 128 = .ok (.iconst 0, 1) := by decide +kernel
theorem d_W_init_129 : decode b_W_init 129 = .ok (.putfield 57, 3) := by decide +kernel
theorem d_W_init_132 : decode b_W_init 132 = .ok (.aload_n 0, 1) := by decide +kernel
theorem d_W_init_133 : decode b_W_init 133 = .ok (.iconst 0, 1) := by decide +kernel
theorem d_W_init_134 : decode b_W_init 134 = .ok (.putfield 60, 3) := by decide +kernel
theorem d_W_init_137 : decode b_W_init 137 = .ok (.return_, 1) := by decide +kernel
theorem d_W_hear_0 : decode b_W_hear 0 = .ok (.iload_n 1, 1) := by decide +kernel
theorem d_W_hear_1 : decode b_W_hear 1 = .ok (.ifCond .lt 10, 3) := by decide +kernel
theorem d_W_hear_4 : decode b_W_hear 4 = .ok (.iload_n 1, 1) := by decide +kernel
theorem d_W_hear_5 : decode b_W_hear 5 = .ok (.sipush 255, 3) := by decide +kernel
theorem d_W_hear_8 : decode b_W_hear 8 = .ok (.if_icmp .le 5, 3) := by decide +kernel
theorem d_W_hear_11 : decode b_W_hear 11 = .ok (.iconst (-1), 1) := by decide +kernel
theorem d_W_hear_12 : decode b_W_hear 12 = .ok (.ireturn, 1) := by decide +kernel
theorem d_W_hear_13 : decode b_W_hear 13 = .ok (.aload_n 0, 1) := by decide +kernel
theorem d_W_hear_14 : decode b_W_hear 14 = .ok (.iload_n 1, 1) := by decide +kernel
theorem d_W_hear_15 : decode b_W_hear 15 = .ok (.invokevirtual 64, 3) := by decide +kernel
theorem d_W_hear_18 : decode b_W_hear 18 = .ok (.aload_n 0, 1) := by decide +kernel
theorem d_W_hear_19 : decode b_W_hear 19 = .ok (.getfield 46, 3) := by decide +kernel
theorem d_W_hear_22 : decode b_W_hear 22 = .ok (.invokevirtual 68, 3) := by decide +kernel
theorem d_W_hear_25 : decode b_W_hear 25 = .ok (.ireturn, 1) := by decide +kernel
theorem d_W_listen_0 : decode b_W_listen 0 = .ok (.iload_n 1, 1) := by decide +kernel
theorem d_W_listen_1 : decode b_W_listen 1 = .ok (.iconst 1, 1) := by decide +kernel
theorem d_W_listen_2 : decode b_W_listen 2 = .ok (.if_icmp .lt 9, 3) := by decide +kernel
theorem d_W_listen_5 : decode b_W_listen 5 = .ok (.iload_n 1, 1) := by decide +kernel
theorem d_W_listen_6 : decode b_W_listen 6 = .ok (.bipush 8, 2) := by decide +kernel
theorem d_W_listen_8 : decode b_W_listen 8 = .ok (.if_icmp .le 5, 3) := by decide +kernel
theorem d_W_listen_11 : decode b_W_listen 11 = .ok (.iconst (-1), 1) := by decide +kernel
theorem d_W_listen_12 : decode b_W_listen 12 = .ok (.ireturn, 1) := by decide +kernel
theorem d_W_listen_13 : decode b_W_listen 13 = .ok (.iload_n 1, 1) := by decide +kernel
theorem d_W_listen_14 : decode b_W_listen 14 = .ok (.iconst 1, 1) := by decide +kernel
theorem d_W_listen_15 : decode b_W_listen 15 = .ok (.isub, 1) := by decide +kernel
theorem d_W_listen_16 : decode b_W_listen 16 = .ok (.istore 4, 2) := by decide +kernel
theorem d_W_listen_18 : decode b_W_listen 18 = .ok (.iload 4, 2) := by decide +kernel
theorem d_W_listen_20 : decode b_W_listen 20 = .ok (.ifCond .lt 19, 3) := by decide +kernel
theorem d_W_listen_23 : decode b_W_listen 23 = .ok (.aload_n 0, 1) := by decide +kernel
theorem d_W_listen_24 : decode b_W_listen 24 = .ok (.lload_n 2, 1) := by decide +kernel
theorem d_W_listen_25 : decode b_W_listen 25 = .ok (.iload 4, 2) := by decide +kernel
theorem d_W_listen_27 : decode b_W_listen 27 = .ok (.invokestatic 72, 3) := by decide +kernel
theorem d_W_listen_30 : decode b_W_listen 30 = .ok (.invokevirtual 64, 3) := by decide +kernel
theorem d_W_listen_33 : decode b_W_listen 33 = .ok (.iinc 4 (-1), 3) := by decide +kernel
theorem d_W_listen_36 : decode b_W_listen 36 = .ok (.goto (-18), 3) := by decide +kernel
theorem d_W_listen_39 : decode b_W_listen 39 = .ok (.aload_n 0, 1) := by decide +kernel
theorem d_W_listen_40 : decode b_W_listen 40 = .ok (.getfield 46, 3) := by decide +kernel
theorem d_W_listen_43 : decode b_W_listen 43 = .ok (.invokevirtual 68, 3) := by decide +kernel
theorem d_W_listen_46 : decode b_W_listen 46 = .ok (.ireturn, 1) := by decide +kernel
theorem d_W_rest_0 : decode b_W_rest 0 = .ok (.iload_n 1, 1) := by decide +kernel
theorem d_W_rest_1 : decode b_W_rest 1 = .ok (.ifCond .lt 10, 3) := by decide +kernel
theorem d_W_rest_4 : decode b_W_rest 4 = .ok (.iload_n 1, 1) := by decide +kernel
theorem d_W_rest_5 : decode b_W_rest 5 = .ok (.sipush 1000, 3) := by decide +kernel
theorem d_W_rest_8 : decode b_W_rest 8 = .ok (.if_icmp .le 5, 3) := by decide +kernel
theorem d_W_rest_11 : decode b_W_rest 11 = .ok (.iconst (-1), 1) := by decide +kernel
theorem d_W_rest_12 : decode b_W_rest 12 = .ok (.ireturn, 1) := by decide +kernel
theorem d_W_rest_13 : decode b_W_rest 13 = .ok (.aload_n 0, 1) := by decide +kernel
theorem d_W_rest_14 : decode b_W_rest 14 = .ok (.getfield 46, 3) := by decide +kernel
theorem d_W_rest_17 : decode b_W_rest 17 = .ok (.invokevirtual 68, 3) := by decide +kernel
theorem d_W_rest_20 : decode b_W_rest 20 = .ok (.ifCond .ne 6, 3) := by decide +kernel
theorem d_W_rest_23 : decode b_W_rest 23 = .ok (.bipush (-2), 2) := by decide +kernel
theorem d_W_rest_25 : decode b_W_rest 25 = .ok (.ireturn, 1) := by decide +kernel
theorem d_W_rest_26 : decode b_W_rest 26 = .ok (.aload_n 0, 1) := by decide +kernel
theorem d_W_rest_27 : decode b_W_rest 27 = .ok (.dup, 1) := by decide +kernel
theorem d_W_rest_28 : decode b_W_rest 28 = .ok (.getfield 57, 3) := by decide +kernel
theorem d_W_rest_31 : decode b_W_rest 31 = .ok (.iload_n 1, 1) := by decide +kernel
theorem d_W_rest_32 : decode b_W_rest 32 = .ok (.iadd, 1) := by decide +kernel
theorem d_W_rest_33 : decode b_W_rest 33 = .ok (.putfield 57, 3) := by decide +kernel
theorem d_W_rest_36 : decode b_W_rest 36 = .ok (.aload_n 0, 1) := by decide +kernel
theorem d_W_rest_37 : decode b_W_rest 37 = .ok (.getfield 57, 3) := by decide +kernel
theorem d_W_rest_40 : decode b_W_rest 40 = .ok (.bipush 14, 2) := by decide +kernel
theorem d_W_rest_42 : decode b_W_rest 42 = .ok (.if_icmp .ge 6, 3) := by decide +kernel
theorem d_W_rest_45 : decode b_W_rest 45 = .ok (.bipush (-2), 2) := by decide +kernel
theorem d_W_rest_47 : decode b_W_rest 47 = .ok (.ireturn, 1) := by decide +kernel
theorem d_W_rest_48 : decode b_W_rest 48 = .ok (.aload_n 0, 1) := by decide +kernel
theorem d_W_rest_49 : decode b_W_rest 49 = .ok (.invokevirtual 76, 3) := by decide +kernel
theorem d_W_rest_52 : decode b_W_rest 52 = .ok (.aload_n 0, 1) := by decide +kernel
theorem d_W_rest_53 : decode b_W_rest 53 = .ok (.getfield 50, 3) := by decide +kernel
theorem d_W_rest_56 : decode b_W_rest 56 = .ok (.invokevirtual 68, 3) := by decide +kernel
theorem d_W_rest_59 : decode b_W_rest 59 = .ok (.ireturn, 1) := by decide +kernel
theorem d_W_reply_0 : decode b_W_reply 0 = .ok (.aload_n 0, 1) := by decide +kernel
theorem d_W_reply_1 : decode b_W_reply 1 = .ok (.getfield 50, 3) := by decide +kernel
theorem d_W_reply_4 : decode b_W_reply 4 = .ok (.iload_n 1, 1) := by decide +kernel
theorem d_W_reply_5 : decode b_W_reply 5 = .ok (.invokevirtual 79, 3) := by decide +kernel
theorem d_W_reply_8 : decode b_W_reply 8 = .ok (.ireturn, 1) := by decide +kernel
theorem d_W_set_0 : decode b_W_set 0 = .ok (.aload_n 0, 1) := by decide +kernel
theorem d_W_set_1 : decode b_W_set 1 = .ok (.iload_n 1, 1) := by decide +kernel
theorem d_W_set_2 : decode b_W_set 2 = .ok (.invokevirtual 83, 3) := by decide +kernel
theorem d_W_set_5 : decode b_W_set 5 = .ok (.astore 4, 2) := by decide +kernel
theorem d_W_set_7 : decode b_W_set 7 = .ok (.aload 4, 2) := by decide +kernel
theorem d_W_set_9 : decode b_W_set 9 = .ok (.ifnonnull 7, 3) := by decide +kernel
theorem d_W_set_12 : decode b_W_set 12 = .ok (.iconst (-1), 1) := by decide +kernel
theorem d_W_set_13 : decode b_W_set 13 = .ok (.goto 10, 3) := by decide +kernel
theorem d_W_set_16 : decode b_W_set 16 = .ok (.aload 4, 2) := by decide +kernel
theorem d_W_set_18 : decode b_W_set 18 = .ok (.iload_n 2, 1) := by decide +kernel
theorem d_W_set_19 : decode b_W_set 19 = .ok (.iload_n 3, 1) := by decide +kernel
theorem d_W_set_20 : decode b_W_set 20 = .ok (.invokevirtual 87, 3) := by decide +kernel
theorem d_W_set_23 : decode b_W_set 23 = .ok (.ireturn, 1) := by decide +kernel
theorem d_W_get_0 : decode b_W_get 0 = .ok (.aload_n 0, 1) := by decide +kernel
theorem d_W_get_1 : decode b_W_get 1 = .ok (.iload_n 1, 1) := by decide +kernel
theorem d_W_get_2 : decode b_W_get 2 = .ok (.invokevirtual 83, 3) := by decide +kernel
theorem d_W_get_5 : decode b_W_get 5 = .ok (.astore_n 3, 1) := by decide +kernel
theorem d_W_get_6 : decode b_W_get 6 = .ok (.aload_n 3, 1) := by decide +kernel
theorem d_W_get_7 : decode b_W_get 7 = .ok (.ifnonnull 7, 3) := by decide +kernel
theorem d_W_get_10 : decode b_W_get 10 = .ok (.iconst (-1), 1) := by decide +kernel
theorem d_W_get_11 : decode b_W_get 11 = .ok (.goto 8, 3) := by decide +kernel
theorem d_W_get_14 : decode b_W_get 14 = .ok (.aload_n 3, 1) := by decide +kernel
theorem d_W_get_15 : decode b_W_get 15 = .ok (.iload_n 2, 1) := by decide +kernel
theorem d_W_get_16 : decode b_W_get 16 = .ok (.invokevirtual 90, 3) := by decide +kernel
theorem d_W_get_19 : decode b_W_get 19 = .ok (.ireturn, 1) := by decide +kernel
theorem d_W_count_0 : decode b_W_count 0 = .ok (.iload_n 1, 1) := by decide +kernel
theorem d_W_count_1 : decode b_W_count 1 = .ok (.ifCond .lt 12, 3) := by decide +kernel
theorem d_W_count_4 : decode b_W_count 4 = .ok (.iload_n 1, 1) := by decide +kernel
theorem d_W_count_5 : decode b_W_count 5 = .ok (.aload_n 0, 1) := by decide +kernel
theorem d_W_count_6 : decode b_W_count 6 = .ok (.getfield 53, 3) := by decide +kernel
theorem d_W_count_9 : decode b_W_count 9 = .ok (.arraylength, 1) := by decide +kernel
theorem d_W_count_10 : decode b_W_count 10 = .ok (.if_icmp .lt 7, 3) := by decide +kernel
theorem d_W_count_13 : decode b_W_count 13 = .ok (.iconst (-1), 1) := by decide +kernel
theorem d_W_count_14 : decode b_W_count 14 = .ok (.goto 9, 3) := by decide +kernel
theorem d_W_count_17 : decode b_W_count 17 = .ok (.aload_n 0, 1) := by decide +kernel
theorem d_W_count_18 : decode b_W_count 18 = .ok (.getfield 53, 3) := by decide +kernel
theorem d_W_count_21 : decode b_W_count 21 = .ok (.iload_n 1, 1) := by decide +kernel
theorem d_W_count_22 : decode b_W_count 22 = .ok (.iaload, 1) := by decide +kernel
theorem d_W_count_23 : decode b_W_count 23 = .ok (.ireturn, 1) := by decide +kernel
theorem d_W_sum_0 : decode b_W_sum 0 = .ok (.iload_n 1, 1) := by decide +kernel
theorem d_W_sum_1 : decode b_W_sum 1 = .ok (.ifCond .lt 9, 3) := by decide +kernel
theorem d_W_sum_4 : decode b_W_sum 4 = .ok (.iload_n 1, 1) := by decide +kernel
theorem d_W_sum_5 : decode b_W_sum 5 = .ok (.bipush 8, 2) := by decide +kernel
theorem d_W_sum_7 : decode b_W_sum 7 = .ok (.if_icmp .le 5, 3) := by decide +kernel
theorem d_W_sum_10 : decode b_W_sum 10 = .ok (.iconst (-1), 1) := by decide +kernel
theorem d_W_sum_11 : decode b_W_sum 11 = .ok (.ireturn, 1) := by decide +kernel
theorem d_W_sum_12 : decode b_W_sum 12 = .ok (.ldc 34, 2) := by decide +kernel
theorem d_W_sum_14 : decode b_W_sum 14 = .ok (.istore 4, 2) := by decide +kernel
theorem d_W_sum_16 : decode b_W_sum 16 = .ok (.iload_n 1, 1) := by decide +kernel
theorem d_W_sum_17 : decode b_W_sum 17 = .ok (.iconst 1, 1) := by decide +kernel
theorem d_W_sum_18 : decode b_W_sum 18 = .ok (.isub, 1) := by decide +kernel
theorem d_W_sum_19 : decode b_W_sum 19 = .ok (.istore 5, 2) := by decide +kernel
theorem d_W_sum_21 : decode b_W_sum 21 = .ok (.iload 5, 2) := by decide +kernel
theorem d_W_sum_23 : decode b_W_sum 23 = .ok (.ifCond .lt 22, 3) := by decide +kernel
theorem d_W_sum_26 : decode b_W_sum 26 = .ok (.iload 4, 2) := by decide +kernel
theorem d_W_sum_28 : decode b_W_sum 28 = .ok (.lload_n 2, 1) := by decide +kernel
theorem d_W_sum_29 : decode b_W_sum 29 = .ok (.iload 5, 2) := by decide +kernel
theorem d_W_sum_31 : decode b_W_sum 31 = .ok (.invokestatic 72, 3) := by decide +kernel
theorem d_W_sum_34 : decode b_W_sum 34 = .ok (.invokestatic 91, 3) := by decide +kernel
theorem d_W_sum_37 : decode b_W_sum 37 = .ok (.istore 4, 2) := by decide +kernel
theorem d_W_sum_39 : decode b_W_sum 39 = .ok (.iinc 5 (-1), 3) := by decide +kernel
theorem d_W_sum_42 : decode b_W_sum 42 = .ok (.goto (-21), 3) := by decide +kernel
theorem d_W_sum_45 : decode b_W_sum 45 = .ok (.iload 4, 2) := by decide +kernel
theorem d_W_sum_47 : decode b_W_sum 47 = .ok (.ireturn, 1) := by decide +kernel
theorem d_W_byteOf_0 : decode b_W_byteOf 0 = .ok (.lload_n 0, 1) := by decide +kernel
theorem d_W_byteOf_1 : decode b_W_byteOf 1 = .ok (.bipush 8, 2) := by decide +kernel
theorem d_W_byteOf_3 : decode b_W_byteOf 3 = .ok (.iload_n 2, 1) := by decide +kernel
theorem d_W_byteOf_4 : decode b_W_byteOf 4 = .ok (.imul, 1) := by decide +kernel
theorem d_W_byteOf_5 : decode b_W_byteOf 5 = .ok (.lushr, 1) := by decide +kernel
theorem d_W_byteOf_6 : decode b_W_byteOf 6 = .ok (.l2i, 1) := by decide +kernel
theorem d_W_byteOf_7 : decode b_W_byteOf 7 = .ok (.sipush 255, 3) := by decide +kernel
theorem d_W_byteOf_10 : decode b_W_byteOf 10 = .ok (.iand, 1) := by decide +kernel
theorem d_W_byteOf_11 : decode b_W_byteOf 11 = .ok (.ireturn, 1) := by decide +kernel
theorem d_W_sumWith_0 : decode b_W_sumWith 0 = .ok (.iload_n 0, 1) := by decide +kernel
theorem d_W_sumWith_1 : decode b_W_sumWith 1 = .ok (.iload_n 1, 1) := by decide +kernel
theorem d_W_sumWith_2 : decode b_W_sumWith 2 = .ok (.ixor, 1) := by decide +kernel
theorem d_W_sumWith_3 : decode b_W_sumWith 3 = .ok (.istore_n 2, 1) := by decide +kernel
theorem d_W_sumWith_4 : decode b_W_sumWith 4 = .ok (.iconst 0, 1) := by decide +kernel
theorem d_W_sumWith_5 : decode b_W_sumWith 5 = .ok (.istore_n 3, 1) := by decide +kernel
theorem d_W_sumWith_6 : decode b_W_sumWith 6 = .ok (.iload_n 3, 1) := by decide +kernel
theorem d_W_sumWith_7 : decode b_W_sumWith 7 = .ok (.bipush 8, 2) := by decide +kernel
theorem d_W_sumWith_9 : decode b_W_sumWith 9 = .ok (.if_icmp .ge 36, 3) := by decide +kernel
theorem d_W_sumWith_12 : decode b_W_sumWith 12 = .ok (.iload_n 2, 1) := by decide +kernel
theorem d_W_sumWith_13 : decode b_W_sumWith 13 = .ok (.iconst 1, 1) := by decide +kernel
theorem d_W_sumWith_14 : decode b_W_sumWith 14 = .ok (.iand, 1) := by decide +kernel
theorem d_W_sumWith_15 : decode b_W_sumWith 15 = .ok (.ifCond .eq 7, 3) := by decide +kernel
theorem d_W_sumWith_18 : decode b_W_sumWith 18 = .ok (.iconst 1, 1) := by decide +kernel
theorem d_W_sumWith_19 : decode b_W_sumWith 19 = .ok (.goto 4, 3) := by decide +kernel
theorem d_W_sumWith_22 : decode b_W_sumWith 22 = .ok (.iconst 0, 1) := by decide +kernel
theorem d_W_sumWith_23 : decode b_W_sumWith 23 = .ok (.istore 4, 2) := by decide +kernel
theorem d_W_sumWith_25 : decode b_W_sumWith 25 = .ok (.iload_n 2, 1) := by decide +kernel
theorem d_W_sumWith_26 : decode b_W_sumWith 26 = .ok (.iconst 1, 1) := by decide +kernel
theorem d_W_sumWith_27 : decode b_W_sumWith 27 = .ok (.iushr, 1) := by decide +kernel
theorem d_W_sumWith_28 : decode b_W_sumWith 28 = .ok (.istore_n 2, 1) := by decide +kernel
theorem d_W_sumWith_29 : decode b_W_sumWith 29 = .ok (.iload 4, 2) := by decide +kernel
theorem d_W_sumWith_31 : decode b_W_sumWith 31 = .ok (.ifCond .eq 8, 3) := by decide +kernel
theorem d_W_sumWith_34 : decode b_W_sumWith 34 = .ok (.iload_n 2, 1) := by decide +kernel
theorem d_W_sumWith_35 : decode b_W_sumWith 35 = .ok (.ldc 94, 2) := by decide +kernel
theorem d_W_sumWith_37 : decode b_W_sumWith 37 = .ok (.ixor, 1) := by decide +kernel
theorem d_W_sumWith_38 : decode b_W_sumWith 38 = .ok (.istore_n 2, 1) := by decide +kernel
theorem d_W_sumWith_39 : decode b_W_sumWith 39 = .ok (.iinc 3 1, 3) := by decide +kernel
theorem d_W_sumWith_42 : decode b_W_sumWith 42 = .ok (.goto (-36), 3) := by decide +kernel
theorem d_W_sumWith_45 : decode b_W_sumWith 45 = .ok (.iload_n 2, 1) := by decide +kernel
theorem d_W_sumWith_46 : decode b_W_sumWith 46 = .ok (.ireturn, 1) := by decide +kernel
theorem d_W_isFromTo_0 : decode b_W_isFromTo 0 = .ok (.iload_n 0, 1) := by decide +kernel
theorem d_W_isFromTo_1 : decode b_W_isFromTo 1 = .ok (.iload_n 1, 1) := by decide +kernel
theorem d_W_isFromTo_2 : decode b_W_isFromTo 2 = .ok (.if_icmp .lt 12, 3) := by decide +kernel
theorem d_W_isFromTo_5 : decode b_W_isFromTo 5 = .ok (.iload_n 0, 1) := by decide +kernel
theorem d_W_isFromTo_6 : decode b_W_isFromTo 6 = .ok (.iload_n 2, 1) := by decide +kernel
theorem d_W_isFromTo_7 : decode b_W_isFromTo 7 = .ok (.if_icmp .gt 7, 3) := by decide +kernel
theorem d_W_isFromTo_10 : decode b_W_isFromTo 10 = .ok (.iconst 1, 1) := by decide +kernel
theorem d_W_isFromTo_11 : decode b_W_isFromTo 11 = .ok (.goto 4, 3) := by decide +kernel
theorem d_W_isFromTo_14 : decode b_W_isFromTo 14 = .ok (.iconst 0, 1) := by decide +kernel
theorem d_W_isFromTo_15 : decode b_W_isFromTo 15 = .ok (.ireturn, 1) := by decide +kernel
theorem d_W_bytesForBits_0 : decode b_W_bytesForBits 0 = .ok (.iload_n 0, 1) := by decide +kernel
theorem d_W_bytesForBits_1 : decode b_W_bytesForBits 1 = .ok (.bipush 7, 2) := by decide +kernel
theorem d_W_bytesForBits_3 : decode b_W_bytesForBits 3 = .ok (.iadd, 1) := by decide +kernel
theorem d_W_bytesForBits_4 : decode b_W_bytesForBits 4 = .ok (.bipush 8, 2) := by decide +kernel
theorem d_W_bytesForBits_6 : decode b_W_bytesForBits 6 = .ok (.idiv, 1) := by decide +kernel
theorem d_W_bytesForBits_7 : decode b_W_bytesForBits 7 = .ok (.ireturn, 1) := by decide +kernel
theorem d_W_tableNumbered_0 : decode b_W_tableNumbered 0 = .ok (.iload_n 1, 1) := by decide +kernel
theorem d_W_tableNumbered_1 : decode b_W_tableNumbered 1 = .ok (.tableswitch 51 0 3 #[31, 36, 41, 46], 31) := by decide +kernel
theorem d_W_tableNumbered_32 : decode b_W_tableNumbered 32 = .ok (.aload_n 0, 1) := by decide +kernel
theorem d_W_tableNumbered_33 : decode b_W_tableNumbered 33 = .ok (.getfield 27, 3) := by decide +kernel
theorem d_W_tableNumbered_36 : decode b_W_tableNumbered 36 = .ok (.areturn, 1) := by decide +kernel
theorem d_W_tableNumbered_37 : decode b_W_tableNumbered 37 = .ok (.aload_n 0, 1) := by decide +kernel
theorem d_W_tableNumbered_38 : decode b_W_tableNumbered 38 = .ok (.getfield 31, 3) := by decide +kernel
theorem d_W_tableNumbered_41 : decode b_W_tableNumbered 41 = .ok (.areturn, 1) := by decide +kernel
theorem d_W_tableNumbered_42 : decode b_W_tableNumbered 42 = .ok (.aload_n 0, 1) := by decide +kernel
theorem d_W_tableNumbered_43 : decode b_W_tableNumbered 43 = .ok (.getfield 35, 3) := by decide +kernel
theorem d_W_tableNumbered_46 : decode b_W_tableNumbered 46 = .ok (.areturn, 1) := by decide +kernel
theorem d_W_tableNumbered_47 : decode b_W_tableNumbered 47 = .ok (.aload_n 0, 1) := by decide +kernel
theorem d_W_tableNumbered_48 : decode b_W_tableNumbered 48 = .ok (.getfield 38, 3) := by decide +kernel
theorem d_W_tableNumbered_51 : decode b_W_tableNumbered 51 = .ok (.areturn, 1) := by decide +kernel
theorem d_W_tableNumbered_52 : decode b_W_tableNumbered 52 = .ok (.aconst_null, 1) := by decide +kernel
theorem d_W_tableNumbered_53 : decode b_W_tableNumbered 53 = .ok (.areturn, 1) := by decide +kernel
theorem d_W_tableOfFunction_0 : decode b_W_tableOfFunction 0 = .ok (.iload_n 1, 1) := by decide +kernel
theorem d_W_tableOfFunction_1 : decode b_W_tableOfFunction 1 = .ok (.tableswitch 99 1 16 #[79, 84, 89, 94, 79, 89, 99, 99, 99, 99, 99, 99, 99, 99, 79, 89], 79) := by decide +kernel
theorem d_W_tableOfFunction_80 : decode b_W_tableOfFunction 80 = .ok (.aload_n 0, 1) := by decide +kernel
theorem d_W_tableOfFunction_81 : decode b_W_tableOfFunction 81 = .ok (.getfield 27, 3) := by decide +kernel
theorem d_W_tableOfFunction_84 : decode b_W_tableOfFunction 84 = .ok (.areturn, 1) := by decide +kernel
theorem d_W_tableOfFunction_85 : decode b_W_tableOfFunction 85 = .ok (.aload_n 0, 1) := by decide +kernel
theorem d_W_tableOfFunction_86 : decode b_W_tableOfFunction 86 = .ok (.getfield 31, 3) := by decide +kernel
theorem d_W_tableOfFunction_89 : decode b_W_tableOfFunction 89 = .ok (.areturn, 1) := by decide +kernel
theorem d_W_tableOfFunction_90 : decode b_W_tableOfFunction 90 = .ok (.aload_n 0, 1) := by decide +kernel
theorem d_W_tableOfFunction_91 : decode b_W_tableOfFunction 91 = .ok (.getfield 35, 3) := by decide +kernel
theorem d_W_tableOfFunction_94 : decode b_W_tableOfFunction 94 = .ok (.areturn, 1) := by decide +kernel
theorem d_W_tableOfFunction_95 : decode b_W_tableOfFunction 95 = .ok (.aload_n 0, 1) := by decide +kernel
theorem d_W_tableOfFunction_96 : decode b_W_tableOfFunction 96 = .ok (.getfield 38, 3) := by decide +kernel
theorem d_W_tableOfFunction_99 : decode b_W_tableOfFunction 99 = .ok (.areturn, 1) := by decide +kernel
theorem d_W_tableOfFunction_100 : decode b_W_tableOfFunction 100 = .ok (.aconst_null, 1) := by decide +kernel
theorem d_W_tableOfFunction_101 : decode b_W_tableOfFunction 101 = .ok (.areturn, 1) := by decide +kernel
theorem d_W_tally_0 : decode b_W_tally 0 = .ok (.iload_n 1, 1) := by decide +kernel
theorem d_W_tally_1 : decode b_W_tally 1 = .ok (.ifCond .lt 22, 3) := by decide +kernel
theorem d_W_tally_4 : decode b_W_tally 4 = .ok (.iload_n 1, 1) := by decide +kernel
theorem d_W_tally_5 : decode b_W_tally 5 = .ok (.aload_n 0, 1) := by decide +kernel
theorem d_W_tally_6 : decode b_W_tally 6 = .ok (.getfield 53, 3) := by decide +kernel
theorem d_W_tally_9 : decode b_W_tally 9 = .ok (.arraylength, 1) := by decide +kernel
theorem d_W_tally_10 : decode b_W_tally 10 = .ok (.if_icmp .ge 13, 3) := by decide +kernel
theorem d_W_tally_13 : decode b_W_tally 13 = .ok (.aload_n 0, 1) := by decide +kernel
theorem d_W_tally_14 : decode b_W_tally 14 = .ok (.getfield 53, 3) := by decide +kernel
theorem d_W_tally_17 : decode b_W_tally 17 = .ok (.iload_n 1, 1) := by decide +kernel
theorem d_W_tally_18 : decode b_W_tally 18 = .ok (.dup2, 1) := by decide +kernel
theorem d_W_tally_19 : decode b_W_tally 19 = .ok (.iaload, 1) := by decide +kernel
theorem d_W_tally_20 : decode b_W_tally 20 = .ok (.iconst 1, 1) := by decide +kernel
theorem d_W_tally_21 : decode b_W_tally 21 = .ok (.iadd, 1) := by decide +kernel
theorem d_W_tally_22 : decode b_W_tally 22 = .ok (.iastore, 1) := by decide +kernel
theorem d_W_tally_23 : decode b_W_tally 23 = .ok (.return_, 1) := by decide +kernel
theorem d_W_takeByte_0 : decode b_W_takeByte 0 = .ok (.aload_n 0, 1) := by decide +kernel
theorem d_W_takeByte_1 : decode b_W_takeByte 1 = .ok (.getfield 46, 3) := by decide +kernel
theorem d_W_takeByte_4 : decode b_W_takeByte 4 = .ok (.invokevirtual 68, 3) := by decide +kernel
theorem d_W_takeByte_7 : decode b_W_takeByte 7 = .ok (.ifCond .le 17, 3) := by decide +kernel
theorem d_W_takeByte_10 : decode b_W_takeByte 10 = .ok (.aload_n 0, 1) := by decide +kernel
theorem d_W_takeByte_11 : decode b_W_takeByte 11 = .ok (.getfield 57, 3) := by decide +kernel
theorem d_W_takeByte_14 : decode b_W_takeByte 14 = .ok (.bipush 7, 2) := by decide +kernel
theorem d_W_takeByte_16 : decode b_W_takeByte 16 = .ok (.if_icmp .lt 8, 3) := by decide +kernel
theorem d_W_takeByte_19 : decode b_W_takeByte 19 = .ok (.aload_n 0, 1) := by decide +kernel
theorem d_W_takeByte_20 : decode b_W_takeByte 20 = .ok (.iconst 1, 1) := by decide +kernel
theorem d_W_takeByte_21 : decode b_W_takeByte 21 = .ok (.putfield 60, 3) := by decide +kernel
theorem d_W_takeByte_24 : decode b_W_takeByte 24 = .ok (.aload_n 0, 1) := by decide +kernel
theorem d_W_takeByte_25 : decode b_W_takeByte 25 = .ok (.iconst 0, 1) := by decide +kernel
theorem d_W_takeByte_26 : decode b_W_takeByte 26 = .ok (.putfield 57, 3) := by decide +kernel
theorem d_W_takeByte_29 : decode b_W_takeByte 29 = .ok (.aload_n 0, 1) := by decide +kernel
theorem d_W_takeByte_30 : decode b_W_takeByte 30 = .ok (.getfield 46, 3) := by decide +kernel
theorem d_W_takeByte_33 : decode b_W_takeByte 33 = .ok (.iload_n 1, 1) := by decide +kernel
theorem d_W_takeByte_34 : decode b_W_takeByte 34 = .ok (.invokevirtual 95, 3) := by decide +kernel
theorem d_W_takeByte_37 : decode b_W_takeByte 37 = .ok (.return_, 1) := by decide +kernel
theorem d_W_endFrame_0 : decode b_W_endFrame 0 = .ok (.aload_n 0, 1) := by decide +kernel
theorem d_W_endFrame_1 : decode b_W_endFrame 1 = .ok (.getfield 50, 3) := by decide +kernel
theorem d_W_endFrame_4 : decode b_W_endFrame 4 = .ok (.invokevirtual 98, 3) := by decide +kernel
theorem d_W_endFrame_7 : decode b_W_endFrame 7 = .ok (.aload_n 0, 1) := by decide +kernel
theorem d_W_endFrame_8 : decode b_W_endFrame 8 = .ok (.iconst 0, 1) := by decide +kernel
theorem d_W_endFrame_9 : decode b_W_endFrame 9 = .ok (.invokevirtual 101, 3) := by decide +kernel
theorem d_W_endFrame_12 : decode b_W_endFrame 12 = .ok (.aload_n 0, 1) := by decide +kernel
theorem d_W_endFrame_13 : decode b_W_endFrame 13 = .ok (.invokevirtual 104, 3) := by decide +kernel
theorem d_W_endFrame_16 : decode b_W_endFrame 16 = .ok (.ifCond .eq 11, 3) := by decide +kernel
theorem d_W_endFrame_19 : decode b_W_endFrame 19 = .ok (.aload_n 0, 1) := by decide +kernel
theorem d_W_endFrame_20 : decode b_W_endFrame 20 = .ok (.iconst 1, 1) := by decide +kernel
theorem d_W_endFrame_21 : decode b_W_endFrame 21 = .ok (.invokevirtual 101, 3) := by decide +kernel
theorem d_W_endFrame_24 : decode b_W_endFrame 24 = .ok (.goto 22, 3) := by decide +kernel
theorem d_W_endFrame_27 : decode b_W_endFrame 27 = .ok (.aload_n 0, 1) := by decide +kernel
theorem d_W_endFrame_28 : decode b_W_endFrame 28 = .ok (.invokevirtual 108, 3) := by decide +kernel
theorem d_W_endFrame_31 : decode b_W_endFrame 31 = .ok (.ifCond .eq 11, 3) := by decide +kernel
theorem d_W_endFrame_34 : decode b_W_endFrame 34 = .ok (.aload_n 0, 1) := by decide +kernel
theorem d_W_endFrame_35 : decode b_W_endFrame 35 = .ok (.iconst 2, 1) := by decide +kernel
theorem d_W_endFrame_36 : decode b_W_endFrame 36 = .ok (.invokevirtual 101, 3) := by decide +kernel
theorem d_W_endFrame_39 : decode b_W_endFrame 39 = .ok (.goto 7, 3) := by decide +kernel
theorem d_W_endFrame_42 : decode b_W_endFrame 42 = .ok (.aload_n 0, 1) := by decide +kernel
theorem d_W_endFrame_43 : decode b_W_endFrame 43 = .ok (.invokevirtual 111, 3) := by decide +kernel
theorem d_W_endFrame_46 : decode b_W_endFrame 46 = .ok (.aload_n 0, 1) := by decide +kernel
theorem d_W_endFrame_47 : decode b_W_endFrame 47 = .ok (.getfield 46, 3) := by decide +kernel
theorem d_W_endFrame_50 : decode b_W_endFrame 50 = .ok (.invokevirtual 98, 3) := by decide +kernel
theorem d_W_endFrame_53 : decode b_W_endFrame 53 = .ok (.aload_n 0, 1) := by decide +kernel
theorem d_W_endFrame_54 : decode b_W_endFrame 54 = .ok (.iconst 0, 1) := by decide +kernel
theorem d_W_endFrame_55 : decode b_W_endFrame 55 = .ok (.putfield 60, 3) := by decide +kernel
theorem d_W_endFrame_58 : decode b_W_endFrame 58 = .ok (.return_, 1) := by decide +kernel
theorem d_W_isThrownAway_0 : decode b_W_isThrownAway 0 = .ok (.aload_n 0, 1) := by decide +kernel
theorem d_W_isThrownAway_1 : decode b_W_isThrownAway 1 = .ok (.getfield 60, 3) := by decide +kernel
theorem d_W_isThrownAway_4 : decode b_W_isThrownAway 4 = .ok (.ifCond .ne 30, 3) := by decide +kernel
theorem d_W_isThrownAway_7 : decode b_W_isThrownAway 7 = .ok (.aload_n 0, 1) := by decide +kernel
theorem d_W_isThrownAway_8 : decode b_W_isThrownAway 8 = .ok (.getfield 46, 3) := by decide +kernel
theorem d_W_isThrownAway_11 : decode b_W_isThrownAway 11 = .ok (.invokevirtual 68, 3) := by decide +kernel
theorem d_W_isThrownAway_14 : decode b_W_isThrownAway 14 = .ok (.iconst 4, 1) := by decide +kernel
theorem d_W_isThrownAway_15 : decode b_W_isThrownAway 15 = .ok (.sipush 256, 3) := by decide +kernel
theorem d_W_isThrownAway_18 : decode b_W_isThrownAway 18 = .ok (.invokestatic 114, 3) := by decide +kernel
theorem d_W_isThrownAway_21 : decode b_W_isThrownAway 21 = .ok (.ifCond .eq 13, 3) := by decide +kernel
theorem d_W_isThrownAway_24 : decode b_W_isThrownAway 24 = .ok (.aload_n 0, 1) := by decide +kernel
theorem d_W_isThrownAway_25 : decode b_W_isThrownAway 25 = .ok (.getfield 46, 3) := by decide +kernel
theorem d_W_isThrownAway_28 : decode b_W_isThrownAway 28 = .ok (.invokevirtual 118, 3) := by decide +kernel
theorem d_W_isThrownAway_31 : decode b_W_isThrownAway 31 = .ok (.ifCond .ne 7, 3) := by decide +kernel
theorem d_W_isThrownAway_34 : decode b_W_isThrownAway 34 = .ok (.iconst 1, 1) := by decide +kernel
theorem d_W_isThrownAway_35 : decode b_W_isThrownAway 35 = .ok (.goto 4, 3) := by decide +kernel
theorem d_W_isThrownAway_38 : decode b_W_isThrownAway 38 = .ok (.iconst 0, 1) := by decide +kernel
theorem d_W_isThrownAway_39 : decode b_W_isThrownAway 39 = .ok (.ireturn, 1) := by decide +kernel
theorem d_W_isForOthers_0 : decode b_W_isForOthers 0 = .ok (.aload_n 0, 1) := by decide +kernel
theorem d_W_isForOthers_1 : decode b_W_isForOthers 1 = .ok (.getfield 46, 3) := by decide +kernel
theorem d_W_isForOthers_4 : decode b_W_isForOthers 4 = .ok (.iconst 0, 1) := by decide +kernel
theorem d_W_isForOthers_5 : decode b_W_isForOthers 5 = .ok (.invokevirtual 79, 3) := by decide +kernel
theorem d_W_isForOthers_8 : decode b_W_isForOthers 8 = .ok (.istore_n 1, 1) := by decide +kernel
theorem d_W_isForOthers_9 : decode b_W_isForOthers 9 = .ok (.iload_n 1, 1) := by decide +kernel
theorem d_W_isForOthers_10 : decode b_W_isForOthers 10 = .ok (.ifCond .eq 15, 3) := by decide +kernel
theorem d_W_isForOthers_13 : decode b_W_isForOthers 13 = .ok (.iload_n 1, 1) := by decide +kernel
theorem d_W_isForOthers_14 : decode b_W_isForOthers 14 = .ok (.aload_n 0, 1) := by decide +kernel
theorem d_W_isForOthers_15 : decode b_W_isForOthers 15 = .ok (.getfield 18, 3) := by decide +kernel
theorem d_W_isForOthers_18 : decode b_W_isForOthers 18 = .ok (.if_icmp .eq 7, 3) := by decide +kernel
theorem d_W_isForOthers_21 : decode b_W_isForOthers 21 = .ok (.iconst 1, 1) := by decide +kernel
theorem d_W_isForOthers_22 : decode b_W_isForOthers 22 = .ok (.goto 4, 3) := by decide +kernel
theorem d_W_isForOthers_25 : decode b_W_isForOthers 25 = .ok (.iconst 0, 1) := by decide +kernel
theorem d_W_isForOthers_26 : decode b_W_isForOthers 26 = .ok (.ireturn, 1) := by decide +kernel
theorem d_W_dataSize_0 : decode b_W_dataSize 0 = .ok (.aload_n 0, 1) := by decide +kernel
theorem d_W_dataSize_1 : decode b_W_dataSize 1 = .ok (.getfield 46, 3) := by decide +kernel
theorem d_W_dataSize_4 : decode b_W_dataSize 4 = .ok (.invokevirtual 68, 3) := by decide +kernel
theorem d_W_dataSize_7 : decode b_W_dataSize 7 = .ok (.iconst 4, 1) := by decide +kernel
theorem d_W_dataSize_8 : decode b_W_dataSize 8 = .ok (.isub, 1) := by decide +kernel
theorem d_W_dataSize_9 : decode b_W_dataSize 9 = .ok (.ireturn, 1) := by decide +kernel
theorem d_W_data_0 : decode b_W_data 0 = .ok (.aload_n 0, 1) := by decide +kernel
theorem d_W_data_1 : decode b_W_data 1 = .ok (.getfield 46, 3) := by decide +kernel
theorem d_W_data_4 : decode b_W_data 4 = .ok (.iconst 2, 1) := by decide +kernel
theorem d_W_data_5 : decode b_W_data 5 = .ok (.iload_n 1, 1) := by decide +kernel
theorem d_W_data_6 : decode b_W_data 6 = .ok (.iadd, 1) := by decide +kernel
theorem d_W_data_7 : decode b_W_data 7 = .ok (.invokevirtual 79, 3) := by decide +kernel
theorem d_W_data_10 : decode b_W_data 10 = .ok (.ireturn, 1) := by decide +kernel
theorem d_W_dataNumber_0 : decode b_W_dataNumber 0 = .ok (.aload_n 0, 1) := by decide +kernel
theorem d_W_dataNumber_1 : decode b_W_dataNumber 1 = .ok (.iload_n 1, 1) := by decide +kernel
theorem d_W_dataNumber_2 : decode b_W_dataNumber 2 = .ok (.invokevirtual 121, 3) := by decide +kernel
theorem d_W_dataNumber_5 : decode b_W_dataNumber 5 = .ok (.sipush 256, 3) := by decide +kernel
theorem d_W_dataNumber_8 : decode b_W_dataNumber 8 = .ok (.imul, 1) := by decide +kernel
theorem d_W_dataNumber_9 : decode b_W_dataNumber 9 = .ok (.aload_n 0, 1) := by decide +kernel
theorem d_W_dataNumber_10 : decode b_W_dataNumber 10 = .ok (.iload_n 1, 1) := by decide +kernel
theorem d_W_dataNumber_11 : decode b_W_dataNumber 11 = .ok (.iconst 1, 1) := by decide +kernel
theorem d_W_dataNumber_12 : decode b_W_dataNumber 12 = .ok (.iadd, 1) := by decide +kernel
theorem d_W_dataNumber_13 : decode b_W_dataNumber 13 = .ok (.invokevirtual 121, 3) := by decide +kernel
theorem d_W_dataNumber_16 : decode b_W_dataNumber 16 = .ok (.iadd, 1) := by decide +kernel
theorem d_W_dataNumber_17 : decode b_W_dataNumber 17 = .ok (.ireturn, 1) := by decide +kernel
theorem d_W_answerRequest_0 : decode b_W_answerRequest 0 = .ok (.aload_n 0, 1) := by decide +kernel
theorem d_W_answerRequest_1 : decode b_W_answerRequest 1 = .ok (.getfield 46, 3) := by decide +kernel
theorem d_W_answerRequest_4 : decode b_W_answerRequest 4 = .ok (.iconst 1, 1) := by decide +kernel
theorem d_W_answerRequest_5 : decode b_W_answerRequest 5 = .ok (.invokevirtual 79, 3) := by decide +kernel
theorem d_W_answerRequest_8 : decode b_W_answerRequest 8 = .ok (.istore_n 1, 1) := by decide +kernel
theorem d_W_answerRequest_9 : decode b_W_answerRequest 9 = .ok (.aload_n 0, 1) := by decide +kernel
theorem d_W_answerRequest_10 : decode b_W_answerRequest 10 = .ok (.iconst 0, 1) := by decide +kernel
theorem d_W_answerRequest_11 : decode b_W_answerRequest 11 = .ok (.invokevirtual 124, 3) := by decide +kernel
theorem d_W_answerRequest_14 : decode b_W_answerRequest 14 = .ok (.istore_n 2, 1) := by decide +kernel
theorem d_W_answerRequest_15 : decode b_W_answerRequest 15 = .ok (.aload_n 0, 1) := by decide +kernel
theorem d_W_answerRequest_16 : decode b_W_answerRequest 16 = .ok (.iconst 2, 1) := by decide +kernel
theorem d_W_answerRequest_17 : decode b_W_answerRequest 17 = .ok (.invokevirtual 124, 3) := by decide +kernel
theorem d_W_answerRequest_20 : decode b_W_answerRequest 20 = .ok (.istore_n 3, 1) := by decide +kernel
theorem d_W_answerRequest_21 : decode b_W_answerRequest 21 = .ok (.aload_n 0, 1) := by decide +kernel
theorem d_W_answerRequest_22 : decode b_W_answerRequest 22 = .ok (.iload_n 1, 1) := by decide +kernel
theorem d_W_answerRequest_23 : decode b_W_answerRequest 23 = .ok (.iload_n 2, 1) := by decide +kernel
theorem d_W_answerRequest_24 : decode b_W_answerRequest 24 = .ok (.iload_n 3, 1) := by decide +kernel
theorem d_W_answerRequest_25 : decode b_W_answerRequest 25 = .ok (.invokevirtual 127, 3) := by decide +kernel
theorem d_W_answerRequest_28 : decode b_W_answerRequest 28 = .ok (.istore 4, 2) := by decide +kernel
theorem d_W_answerRequest_30 : decode b_W_answerRequest 30 = .ok (.aload_n 0, 1) := by decide +kernel
theorem d_W_answerRequest_31 : decode b_W_answerRequest 31 = .ok (.iload 4, 2) := by decide +kernel
theorem d_W_answerRequest_33 : decode b_W_answerRequest 33 = .ok (.ifCond .ne 7, 3) := by decide +kernel
theorem d_W_answerRequest_36 : decode b_W_answerRequest 36 = .ok (.iconst 4, 1) := by decide +kernel
theorem d_W_answerRequest_37 : decode b_W_answerRequest 37 = .ok (.goto 4, 3) := by decide +kernel
theorem d_W_answerRequest_40 : decode b_W_answerRequest 40 = .ok (.iconst 3, 1) := by decide +kernel
theorem d_W_answerRequest_41 : decode b_W_answerRequest 41 = .ok (.invokevirtual 101, 3) := by decide +kernel
theorem d_W_answerRequest_44 : decode b_W_answerRequest 44 = .ok (.iload 4, 2) := by decide +kernel
theorem d_W_answerRequest_46 : decode b_W_answerRequest 46 = .ok (.ifCond .ne 10, 3) := by decide +kernel
theorem d_W_answerRequest_49 : decode b_W_answerRequest 49 = .ok (.aload_n 0, 1) := by decide +kernel
theorem d_W_answerRequest_50 : decode b_W_answerRequest 50 = .ok (.iload_n 1, 1) := by decide +kernel
theorem d_W_answerRequest_51 : decode b_W_answerRequest 51 = .ok (.iload_n 2, 1) := by decide +kernel
theorem d_W_answerRequest_52 : decode b_W_answerRequest 52 = .ok (.iload_n 3, 1) := by decide +kernel
theorem d_W_answerRequest_53 : decode b_W_answerRequest 53 = .ok (.invokevirtual 131, 3) := by decide +kernel
theorem d_W_answerRequest_56 : decode b_W_answerRequest 56 = .ok (.aload_n 0, 1) := by decide +kernel
theorem d_W_answerRequest_57 : decode b_W_answerRequest 57 = .ok (.getfield 46, 3) := by decide +kernel
theorem d_W_answerRequest_60 : decode b_W_answerRequest 60 = .ok (.iconst 0, 1) := by decide +kernel
theorem d_W_answerRequest_61 : decode b_W_answerRequest 61 = .ok (.invokevirtual 79, 3) := by decide +kernel
theorem d_W_answerRequest_64 : decode b_W_answerRequest 64 = .ok (.ifCond .ne 4, 3) := by decide +kernel
theorem d_W_answerRequest_67 : decode b_W_answerRequest 67 = .ok (.return_, 1) := by decide +kernel
theorem d_W_answerRequest_68 : decode b_W_answerRequest 68 = .ok (.aload_n 0, 1) := by decide +kernel
theorem d_W_answerRequest_69 : decode b_W_answerRequest 69 = .ok (.getfield 50, 3) := by decide +kernel
theorem d_W_answerRequest_72 : decode b_W_answerRequest 72 = .ok (.aload_n 0, 1) := by decide +kernel
theorem d_W_answerRequest_73 : decode b_W_answerRequest 73 = .ok (.getfield 18, 3) := by decide +kernel
theorem d_W_answerRequest_76 : decode b_W_answerRequest 76 = .ok (.invokevirtual 95, 3) := by decide +kernel
theorem d_W_answerRequest_79 : decode b_W_answerRequest 79 = .ok (.iload 4, 2) := by decide +kernel
theorem d_W_answerRequest_81 : decode b_W_answerRequest 81 = .ok (.ifCond .ne 21, 3) := by decide +kernel
theorem d_W_answerRequest_84 : decode b_W_answerRequest 84 = .ok (.aload_n 0, 1) := by decide +kernel
theorem d_W_answerRequest_85 : decode b_W_answerRequest 85 = .ok (.getfield 50, 3) := by decide +kernel
theorem d_W_answerRequest_88 : decode b_W_answerRequest 88 = .ok (.iload_n 1, 1) := by decide +kernel
theorem d_W_answerRequest_89 : decode b_W_answerRequest 89 = .ok (.invokevirtual 95, 3) := by decide +kernel
theorem d_W_answerRequest_92 : decode b_W_answerRequest 92 = .ok (.aload_n 0, 1) := by decide +kernel
theorem d_W_answerRequest_93 : decode b_W_answerRequest 93 = .ok (.iload_n 1, 1) := by decide +kernel
theorem d_W_answerRequest_94 : decode b_W_answerRequest 94 = .ok (.iload_n 2, 1) := by decide +kernel
theorem d_W_answerRequest_95 : decode b_W_answerRequest 95 = .ok (.iload_n 3, 1) := by decide +kernel
theorem d_W_answerRequest_96 : decode b_W_answerRequest 96 = .ok (.invokevirtual 135, 3) := by decide +kernel
theorem d_W_answerRequest_99 : decode b_W_answerRequest 99 = .ok (.goto 24, 3) := by decide +kernel
theorem d_W_answerRequest_102 : decode b_W_answerRequest 102 = .ok (.aload_n 0, 1) := by decide +kernel
theorem d_W_answerRequest_103 : decode b_W_answerRequest 103 = .ok (.getfield 50, 3) := by decide +kernel
theorem d_W_answerRequest_106 : decode b_W_answerRequest 106 = .ok (.iload_n 1, 1) := by decide +kernel
theorem d_W_answerRequest_107 : decode b_W_answerRequest 107 = .ok (.sipush 128, 3) := by decide +kernel
theorem d_W_answerRequest_110 : decode b_W_answerRequest 110 = .ok (.ior, 1) := by decide +kernel
theorem d_W_answerRequest_111 : decode b_W_answerRequest 111 = .ok (.invokevirtual 95, 3) := by decide +kernel
theorem d_W_answerRequest_114 : decode b_W_answerRequest 114 = .ok (.aload_n 0, 1) := by decide +kernel
theorem d_W_answerRequest_115 : decode b_W_answerRequest 115 = .ok (.getfield 50, 3) := by decide +kernel
theorem d_W_answerRequest_118 : decode b_W_answerRequest 118 = .ok (.iload 4, 2) := by decide +kernel
theorem d_W_answerRequest_120 : decode b_W_answerRequest 120 = .ok (.invokevirtual 95, 3) := by decide +kernel
theorem d_W_answerRequest_123 : decode b_W_answerRequest 123 = .ok (.aload_n 0, 1) := by decide +kernel
theorem d_W_answerRequest_124 : decode b_W_answerRequest 124 = .ok (.getfield 50, 3) := by decide +kernel
theorem d_W_answerRequest_127 : decode b_W_answerRequest 127 = .ok (.invokevirtual 138, 3) := by decide +kernel
theorem d_W_answerRequest_130 : decode b_W_answerRequest 130 = .ok (.aload_n 0, 1) := by decide +kernel
theorem d_W_answerRequest_131 : decode b_W_answerRequest 131 = .ok (.iconst 5, 1) := by decide +kernel
theorem d_W_answerRequest_132 : decode b_W_answerRequest 132 = .ok (.invokevirtual 101, 3) := by decide +kernel
theorem d_W_answerRequest_135 : decode b_W_answerRequest 135 = .ok (.return_, 1) := by decide +kernel
theorem d_W_refusalOf_0 : decode b_W_refusalOf 0 = .ok (.aload_n 0, 1) := by decide +kernel
theorem d_W_refusalOf_1 : decode b_W_refusalOf 1 = .ok (.iload_n 1, 1) := by decide +kernel
theorem d_W_refusalOf_2 : decode b_W_refusalOf 2 = .ok (.invokevirtual 141, 3) := by decide +kernel
theorem d_W_refusalOf_5 : decode b_W_refusalOf 5 = .ok (.astore 4, 2) := by decide +kernel
theorem d_W_refusalOf_7 : decode b_W_refusalOf 7 = .ok (.aload 4, 2) := by decide +kernel
theorem d_W_refusalOf_9 : decode b_W_refusalOf 9 = .ok (.ifnonnull 5, 3) := by decide +kernel
theorem d_W_refusalOf_12 : decode b_W_refusalOf 12 = .ok (.iconst 1, 1) := by decide +kernel
theorem d_W_refusalOf_13 : decode b_W_refusalOf 13 = .ok (.ireturn, 1) := by decide +kernel
theorem d_W_refusalOf_14 : decode b_W_refusalOf 14 = .ok (.aload_n 0, 1) := by decide +kernel
theorem d_W_refusalOf_15 : decode b_W_refusalOf 15 = .ok (.iload_n 1, 1) := by decide +kernel
theorem d_W_refusalOf_16 : decode b_W_refusalOf 16 = .ok (.invokevirtual 144, 3) := by decide +kernel
theorem d_W_refusalOf_19 : decode b_W_refusalOf 19 = .ok (.ifCond .eq 12, 3) := by decide +kernel
theorem d_W_refusalOf_22 : decode b_W_refusalOf 22 = .ok (.aload_n 0, 1) := by decide +kernel
theorem d_W_refusalOf_23 : decode b_W_refusalOf 23 = .ok (.iload_n 1, 1) := by decide +kernel
theorem d_W_refusalOf_24 : decode b_W_refusalOf 24 = .ok (.iload_n 3, 1) := by decide +kernel
theorem d_W_refusalOf_25 : decode b_W_refusalOf 25 = .ok (.invokevirtual 148, 3) := by decide +kernel
theorem d_W_refusalOf_28 : decode b_W_refusalOf 28 = .ok (.ifCond .ne 5, 3) := by decide +kernel
theorem d_W_refusalOf_31 : decode b_W_refusalOf 31 = .ok (.iconst 3, 1) := by decide +kernel
theorem d_W_refusalOf_32 : decode b_W_refusalOf 32 = .ok (.ireturn, 1) := by decide +kernel
theorem d_W_refusalOf_33 : decode b_W_refusalOf 33 = .ok (.iload_n 1, 1) := by decide +kernel
theorem d_W_refusalOf_34 : decode b_W_refusalOf 34 = .ok (.iconst 5, 1) := by decide +kernel
theorem d_W_refusalOf_35 : decode b_W_refusalOf 35 = .ok (.if_icmp .eq 9, 3) := by decide +kernel
theorem d_W_refusalOf_38 : decode b_W_refusalOf 38 = .ok (.iload_n 1, 1) := by decide +kernel
theorem d_W_refusalOf_39 : decode b_W_refusalOf 39 = .ok (.bipush 6, 2) := by decide +kernel
theorem d_W_refusalOf_41 : decode b_W_refusalOf 41 = .ok (.if_icmp .ne 7, 3) := by decide +kernel
theorem d_W_refusalOf_44 : decode b_W_refusalOf 44 = .ok (.iconst 1, 1) := by decide +kernel
theorem d_W_refusalOf_45 : decode b_W_refusalOf 45 = .ok (.goto 4, 3) := by decide +kernel
theorem d_W_refusalOf_48 : decode b_W_refusalOf 48 = .ok (.iconst 0, 1) := by decide +kernel
theorem d_W_refusalOf_49 : decode b_W_refusalOf 49 = .ok (.istore 5, 2) := by decide +kernel
theorem d_W_refusalOf_51 : decode b_W_refusalOf 51 = .ok (.iload 5, 2) := by decide +kernel
theorem d_W_refusalOf_53 : decode b_W_refusalOf 53 = .ok (.ifCond .eq 7, 3) := by decide +kernel
theorem d_W_refusalOf_56 : decode b_W_refusalOf 56 = .ok (.iload_n 2, 1) := by decide +kernel
theorem d_W_refusalOf_57 : decode b_W_refusalOf 57 = .ok (.goto 8, 3) := by decide +kernel
theorem d_W_refusalOf_60 : decode b_W_refusalOf 60 = .ok (.iload_n 2, 1) := by decide +kernel
theorem d_W_refusalOf_61 : decode b_W_refusalOf 61 = .ok (.iload_n 3, 1) := by decide +kernel
theorem d_W_refusalOf_62 : decode b_W_refusalOf 62 = .ok (.iadd, 1) := by decide +kernel
theorem d_W_refusalOf_63 : decode b_W_refusalOf 63 = .ok (.iconst 1, 1) := by decide +kernel
theorem d_W_refusalOf_64 : decode b_W_refusalOf 64 = .ok (.isub, 1) := by decide +kernel
theorem d_W_refusalOf_65 : decode b_W_refusalOf 65 = .ok (.istore 6, 2) := by decide +kernel
theorem d_W_refusalOf_67 : decode b_W_refusalOf 67 = .ok (.aload 4, 2) := by decide +kernel
theorem d_W_refusalOf_69 : decode b_W_refusalOf 69 = .ok (.iload_n 2, 1) := by decide +kernel
theorem d_W_refusalOf_70 : decode b_W_refusalOf 70 = .ok (.invokevirtual 152, 3) := by decide +kernel
theorem d_W_refusalOf_73 : decode b_W_refusalOf 73 = .ok (.ifCond .eq 17, 3) := by decide +kernel
theorem d_W_refusalOf_76 : decode b_W_refusalOf 76 = .ok (.aload 4, 2) := by decide +kernel
theorem d_W_refusalOf_78 : decode b_W_refusalOf 78 = .ok (.iload 6, 2) := by decide +kernel
theorem d_W_refusalOf_80 : decode b_W_refusalOf 80 = .ok (.invokevirtual 152, 3) := by decide +kernel
theorem d_W_refusalOf_83 : decode b_W_refusalOf 83 = .ok (.ifCond .eq 7, 3) := by decide +kernel
theorem d_W_refusalOf_86 : decode b_W_refusalOf 86 = .ok (.iconst 0, 1) := by decide +kernel
theorem d_W_refusalOf_87 : decode b_W_refusalOf 87 = .ok (.goto 4, 3) := by decide +kernel
theorem d_W_refusalOf_90 : decode b_W_refusalOf 90 = .ok (.iconst 2, 1) := by decide +kernel
theorem d_W_refusalOf_91 : decode b_W_refusalOf 91 = .ok (.ireturn, 1) := by decide +kernel
theorem d_W_isDueSize_0 : decode b_W_isDueSize 0 = .ok (.iload_n 1, 1) := by decide +kernel
theorem d_W_isDueSize_1 : decode b_W_isDueSize 1 = .ok (.bipush 15, 2) := by decide +kernel
theorem d_W_isDueSize_3 : decode b_W_isDueSize 3 = .ok (.if_icmp .eq 9, 3) := by decide +kernel
theorem d_W_isDueSize_6 : decode b_W_isDueSize 6 = .ok (.iload_n 1, 1) := by decide +kernel
theorem d_W_isDueSize_7 : decode b_W_isDueSize 7 = .ok (.bipush 16, 2) := by decide +kernel
theorem d_W_isDueSize_9 : decode b_W_isDueSize 9 = .ok (.if_icmp .ne 32, 3) := by decide +kernel
theorem d_W_isDueSize_12 : decode b_W_isDueSize 12 = .ok (.aload_n 0, 1) := by decide +kernel
theorem d_W_isDueSize_13 : decode b_W_isDueSize 13 = .ok (.invokevirtual 155, 3) := by decide +kernel
theorem d_W_isDueSize_16 : decode b_W_isDueSize 16 = .ok (.bipush 6, 2) := by decide +kernel
theorem d_W_isDueSize_18 : decode b_W_isDueSize 18 = .ok (.if_icmp .lt 21, 3) := by decide +kernel
theorem d_W_isDueSize_21 : decode b_W_isDueSize 21 = .ok (.aload_n 0, 1) := by decide +kernel
theorem d_W_isDueSize_22 : decode b_W_isDueSize 22 = .ok (.invokevirtual 155, 3) := by decide +kernel
theorem d_W_isDueSize_25 : decode b_W_isDueSize 25 = .ok (.iconst 5, 1) := by decide +kernel
theorem d_W_isDueSize_26 : decode b_W_isDueSize 26 = .ok (.aload_n 0, 1) := by decide +kernel
theorem d_W_isDueSize_27 : decode b_W_isDueSize 27 = .ok (.iconst 4, 1) := by decide +kernel
theorem d_W_isDueSize_28 : decode b_W_isDueSize 28 = .ok (.invokevirtual 121, 3) := by decide +kernel
theorem d_W_isDueSize_31 : decode b_W_isDueSize 31 = .ok (.iadd, 1) := by decide +kernel
theorem d_W_isDueSize_32 : decode b_W_isDueSize 32 = .ok (.if_icmp .ne 7, 3) := by decide +kernel
theorem d_W_isDueSize_35 : decode b_W_isDueSize 35 = .ok (.iconst 1, 1) := by decide +kernel
theorem d_W_isDueSize_36 : decode b_W_isDueSize 36 = .ok (.goto 4, 3) := by decide +kernel
theorem d_W_isDueSize_39 : decode b_W_isDueSize 39 = .ok (.iconst 0, 1) := by decide +kernel
theorem d_W_isDueSize_40 : decode b_W_isDueSize 40 = .ok (.ireturn, 1) := by decide +kernel
theorem d_W_isDueSize_41 : decode b_W_isDueSize 41 = .ok (.aload_n 0, 1) := by decide +kernel
theorem d_W_isDueSize_42 : decode b_W_isDueSize 42 = .ok (.invokevirtual 155, 3) := by decide +kernel
theorem d_W_isDueSize_45 : decode b_W_isDueSize 45 = .ok (.iconst 4, 1) := by decide +kernel
theorem d_W_isDueSize_46 : decode b_W_isDueSize 46 = .ok (.if_icmp .ne 7, 3) := by decide +kernel
theorem d_W_isDueSize_49 : decode b_W_isDueSize 49 = .ok (.iconst 1, 1) := by decide +kernel
theorem d_W_isDueSize_50 : decode b_W_isDueSize 50 = .ok (.goto 4, 3) := by decide +kernel
theorem d_W_isDueSize_53 : decode b_W_isDueSize 53 = .ok (.iconst 0, 1) := by decide +kernel
theorem d_W_isDueSize_54 : decode b_W_isDueSize 54 = .ok (.ireturn, 1) := by decide +kernel
theorem d_W_isDueAmount_0 : decode b_W_isDueAmount 0 = .ok (.iload_n 1, 1) := by decide +kernel
theorem d_W_isDueAmount_1 : decode b_W_isDueAmount 1 = .ok (.tableswitch 170 1 16 #[79, 79, 88, 88, 96, 112, 170, 170, 170, 170, 170, 170, 170, 170, 114, 143], 79) := by decide +kernel
theorem d_W_isDueAmount_80 : decode b_W_isDueAmount 80 = .ok (.iload_n 2, 1) := by decide +kernel
theorem d_W_isDueAmount_81 : decode b_W_isDueAmount 81 = .ok (.iconst 1, 1) := by decide +kernel
theorem d_W_isDueAmount_82 : decode b_W_isDueAmount 82 = .ok (.sipush 2000, 3) := by decide +kernel
theorem d_W_isDueAmount_85 : decode b_W_isDueAmount 85 = .ok (.invokestatic 114, 3) := by decide +kernel
theorem d_W_isDueAmount_88 : decode b_W_isDueAmount 88 = .ok (.ireturn, 1) := by decide +kernel
theorem d_W_isDueAmount_89 : decode b_W_isDueAmount 89 = .ok (.iload_n 2, 1) := by decide +kernel
theorem d_W_isDueAmount_90 : decode b_W_isDueAmount 90 = .ok (.iconst 1, 1) := by decide +kernel
theorem d_W_isDueAmount_91 : decode b_W_isDueAmount 91 = .ok (.bipush 125, 2) := by decide +kernel
theorem d_W_isDueAmount_93 : decode b_W_isDueAmount 93 = .ok (.invokestatic 114, 3) := by decide +kernel
theorem d_W_isDueAmount_96 : decode b_W_isDueAmount 96 = .ok (.ireturn, 1) := by decide +kernel
theorem d_W_isDueAmount_97 : decode b_W_isDueAmount 97 = .ok (.iload_n 2, 1) := by decide +kernel
theorem d_W_isDueAmount_98 : decode b_W_isDueAmount 98 = .ok (.ifCond .eq 9, 3) := by decide +kernel
theorem d_W_isDueAmount_101 : decode b_W_isDueAmount 101 = .ok (.iload_n 2, 1) := by decide +kernel
theorem d_W_isDueAmount_102 : decode b_W_isDueAmount 102 = .ok (.ldc 158, 2) := by decide +kernel
theorem d_W_isDueAmount_104 : decode b_W_isDueAmount 104 = .ok (.if_icmp .ne 7, 3) := by decide +kernel
theorem d_W_isDueAmount_107 : decode b_W_isDueAmount 107 = .ok (.iconst 1, 1) := by decide +kernel
theorem d_W_isDueAmount_108 : decode b_W_isDueAmount 108 = .ok (.goto 4, 3) := by decide +kernel
theorem d_W_isDueAmount_111 : decode b_W_isDueAmount 111 = .ok (.iconst 0, 1) := by decide +kernel
theorem d_W_isDueAmount_112 : decode b_W_isDueAmount 112 = .ok (.ireturn, 1) := by decide +kernel
theorem d_W_isDueAmount_113 : decode b_W_isDueAmount 113 = .ok (.iconst 1, 1) := by decide +kernel
theorem d_W_isDueAmount_114 : decode b_W_isDueAmount 114 = .ok (.ireturn, 1) := by decide +kernel
theorem d_W_isDueAmount_115 : decode b_W_isDueAmount 115 = .ok (.iload_n 2, 1) := by decide +kernel
theorem d_W_isDueAmount_116 : decode b_W_isDueAmount 116 = .ok (.iconst 1, 1) := by decide +kernel
theorem d_W_isDueAmount_117 : decode b_W_isDueAmount 117 = .ok (.sipush 1968, 3) := by decide +kernel
theorem d_W_isDueAmount_120 : decode b_W_isDueAmount 120 = .ok (.invokestatic 114, 3) := by decide +kernel
theorem d_W_isDueAmount_123 : decode b_W_isDueAmount 123 = .ok (.ifCond .eq 19, 3) := by decide +kernel
theorem d_W_isDueAmount_126 : decode b_W_isDueAmount 126 = .ok (.aload_n 0, 1) := by decide +kernel
theorem d_W_isDueAmount_127 : decode b_W_isDueAmount 127 = .ok (.iconst 4, 1) := by decide +kernel
theorem d_W_isDueAmount_128 : decode b_W_isDueAmount 128 = .ok (.invokevirtual 121, 3) := by decide +kernel
theorem d_W_isDueAmount_131 : decode b_W_isDueAmount 131 = .ok (.iload_n 2, 1) := by decide +kernel
theorem d_W_isDueAmount_132 : decode b_W_isDueAmount 132 = .ok (.invokestatic 159, 3) := by decide +kernel
theorem d_W_isDueAmount_135 : decode b_W_isDueAmount 135 = .ok (.if_icmp .ne 7, 3) := by decide +kernel
theorem d_W_isDueAmount_138 : decode b_W_isDueAmount 138 = .ok (.iconst 1, 1) := by decide +kernel
theorem d_W_isDueAmount_139 : decode b_W_isDueAmount 139 = .ok (.goto 4, 3) := by decide +kernel
theorem d_W_isDueAmount_142 : decode b_W_isDueAmount 142 = .ok (.iconst 0, 1) := by decide +kernel
theorem d_W_isDueAmount_143 : decode b_W_isDueAmount 143 = .ok (.ireturn, 1) := by decide +kernel
theorem d_W_isDueAmount_144 : decode b_W_isDueAmount 144 = .ok (.iload_n 2, 1) := by decide +kernel
theorem d_W_isDueAmount_145 : decode b_W_isDueAmount 145 = .ok (.iconst 1, 1) := by decide +kernel
theorem d_W_isDueAmount_146 : decode b_W_isDueAmount 146 = .ok (.bipush 123, 2) := by decide +kernel
theorem d_W_isDueAmount_148 : decode b_W_isDueAmount 148 = .ok (.invokestatic 114, 3) := by decide +kernel
theorem d_W_isDueAmount_151 : decode b_W_isDueAmount 151 = .ok (.ifCond .eq 18, 3) := by decide +kernel
theorem d_W_isDueAmount_154 : decode b_W_isDueAmount 154 = .ok (.aload_n 0, 1) := by decide +kernel
theorem d_W_isDueAmount_155 : decode b_W_isDueAmount 155 = .ok (.iconst 4, 1) := by decide +kernel
theorem d_W_isDueAmount_156 : decode b_W_isDueAmount 156 = .ok (.invokevirtual 121, 3) := by decide +kernel
theorem d_W_isDueAmount_159 : decode b_W_isDueAmount 159 = .ok (.iconst 2, 1) := by decide +kernel
theorem d_W_isDueAmount_160 : decode b_W_isDueAmount 160 = .ok (.iload_n 2, 1) := by decide +kernel
theorem d_W_isDueAmount_161 : decode b_W_isDueAmount 161 = .ok (.imul, 1) := by decide +kernel
theorem d_W_isDueAmount_162 : decode b_W_isDueAmount 162 = .ok (.if_icmp .ne 7, 3) := by decide +kernel
theorem d_W_isDueAmount_165 : decode b_W_isDueAmount 165 = .ok (.iconst 1, 1) := by decide +kernel
theorem d_W_isDueAmount_166 : decode b_W_isDueAmount 166 = .ok (.goto 4, 3) := by decide +kernel
theorem d_W_isDueAmount_169 : decode b_W_isDueAmount 169 = .ok (.iconst 0, 1) := by decide +kernel
theorem d_W_isDueAmount_170 : decode b_W_isDueAmount 170 = .ok (.ireturn, 1) := by decide +kernel
theorem d_W_isDueAmount_171 : decode b_W_isDueAmount 171 = .ok (.iconst 0, 1) := by decide +kernel
theorem d_W_isDueAmount_172 : decode b_W_isDueAmount 172 = .ok (.ireturn, 1) := by decide +kernel
theorem d_W_carryOut_0 : decode b_W_carryOut 0 = .ok (.iload_n 1, 1) := by decide +kernel
theorem d_W_carryOut_1 : decode b_W_carryOut 1 = .ok (.lookupswitch 95 #[(5, 43), (6, 64), (15, 77), (16, 86)], 43) := by decide +kernel
theorem d_W_carryOut_44 : decode b_W_carryOut 44 = .ok (.aload_n 0, 1) := by decide +kernel
theorem d_W_carryOut_45 : decode b_W_carryOut 45 = .ok (.getfield 27, 3) := by decide +kernel
theorem d_W_carryOut_48 : decode b_W_carryOut 48 = .ok (.iload_n 2, 1) := by decide +kernel
theorem d_W_carryOut_49 : decode b_W_carryOut 49 = .ok (.iload_n 3, 1) := by decide +kernel
theorem d_W_carryOut_50 : decode b_W_carryOut 50 = .ok (.ifCond .ne 7, 3) := by decide +kernel
theorem d_W_carryOut_53 : decode b_W_carryOut 53 = .ok (.iconst 0, 1) := by decide +kernel
theorem d_W_carryOut_54 : decode b_W_carryOut 54 = .ok (.goto 4, 3) := by decide +kernel
theorem d_W_carryOut_57 : decode b_W_carryOut 57 = .ok (.iconst 1, 1) := by decide +kernel
theorem d_W_carryOut_58 : decode b_W_carryOut 58 = .ok (.invokevirtual 87, 3) := by decide +kernel
theorem d_W_carryOut_61 : decode b_W_carryOut 61 = .ok (.pop, 1) := by decide +kernel
theorem d_W_carryOut_62 : decode b_W_carryOut 62 = .ok (.goto 34, 3) := by decide +kernel
theorem d_W_carryOut_65 : decode b_W_carryOut 65 = .ok (.aload_n 0, 1) := by decide +kernel
theorem d_W_carryOut_66 : decode b_W_carryOut 66 = .ok (.getfield 35, 3) := by decide +kernel
theorem d_W_carryOut_69 : decode b_W_carryOut 69 = .ok (.iload_n 2, 1) := by decide +kernel
theorem d_W_carryOut_70 : decode b_W_carryOut 70 = .ok (.iload_n 3, 1) := by decide +kernel
theorem d_W_carryOut_71 : decode b_W_carryOut 71 = .ok (.invokevirtual 87, 3) := by decide +kernel
theorem d_W_carryOut_74 : decode b_W_carryOut 74 = .ok (.pop, 1) := by decide +kernel
theorem d_W_carryOut_75 : decode b_W_carryOut 75 = .ok (.goto 21, 3) := by decide +kernel
theorem d_W_carryOut_78 : decode b_W_carryOut 78 = .ok (.aload_n 0, 1) := by decide +kernel
theorem d_W_carryOut_79 : decode b_W_carryOut 79 = .ok (.iload_n 2, 1) := by decide +kernel
theorem d_W_carryOut_80 : decode b_W_carryOut 80 = .ok (.iload_n 3, 1) := by decide +kernel
theorem d_W_carryOut_81 : decode b_W_carryOut 81 = .ok (.invokevirtual 162, 3) := by decide +kernel
theorem d_W_carryOut_84 : decode b_W_carryOut 84 = .ok (.goto 12, 3) := by decide +kernel
theorem d_W_carryOut_87 : decode b_W_carryOut 87 = .ok (.aload_n 0, 1) := by decide +kernel
theorem d_W_carryOut_88 : decode b_W_carryOut 88 = .ok (.iload_n 2, 1) := by decide +kernel
theorem d_W_carryOut_89 : decode b_W_carryOut 89 = .ok (.iload_n 3, 1) := by decide +kernel
theorem d_W_carryOut_90 : decode b_W_carryOut 90 = .ok (.invokevirtual 166, 3) := by decide +kernel
theorem d_W_carryOut_93 : decode b_W_carryOut 93 = .ok (.goto 3, 3) := by decide +kernel
theorem d_W_carryOut_96 : decode b_W_carryOut 96 = .ok (.return_, 1) := by decide +kernel
theorem d_W_writeCoils_0 : decode b_W_writeCoils 0 = .ok (.iconst 0, 1) := by decide +kernel
theorem d_W_writeCoils_1 : decode b_W_writeCoils 1 = .ok (.istore_n 3, 1) := by decide +kernel
theorem d_W_writeCoils_2 : decode b_W_writeCoils 2 = .ok (.iload_n 3, 1) := by decide +kernel
theorem d_W_writeCoils_3 : decode b_W_writeCoils 3 = .ok (.iload_n 2, 1) := by decide +kernel
theorem d_W_writeCoils_4 : decode b_W_writeCoils 4 = .ok (.if_icmp .ge 37, 3) := by decide +kernel
theorem d_W_writeCoils_7 : decode b_W_writeCoils 7 = .ok (.aload_n 0, 1) := by decide +kernel
theorem d_W_writeCoils_8 : decode b_W_writeCoils 8 = .ok (.getfield 27, 3) := by decide +kernel
theorem d_W_writeCoils_11 : decode b_W_writeCoils 11 = .ok (.iload_n 1, 1) := by decide +kernel
theorem d_W_writeCoils_12 : decode b_W_writeCoils 12 = .ok (.iload_n 3, 1) := by decide +kernel
theorem d_W_writeCoils_13 : decode b_W_writeCoils 13 = .ok (.iadd, 1) := by decide +kernel
theorem d_W_writeCoils_14 : decode b_W_writeCoils 14 = .ok (.aload_n 0, 1) := by decide +kernel
theorem d_W_writeCoils_15 : decode b_W_writeCoils 15 = .ok (.iconst 5, 1) := by decide +kernel
theorem d_W_writeCoils_16 : decode b_W_writeCoils 16 = .ok (.iload_n 3, 1) := by decide +kernel
theorem d_W_writeCoils_17 : decode b_W_writeCoils 17 = .ok (.bipush 8, 2) := by decide +kernel
theorem d_W_writeCoils_19 : decode b_W_writeCoils 19 = .ok (.idiv, 1) := by decide +kernel
theorem d_W_writeCoils_20 : decode b_W_writeCoils 20 = .ok (.iadd, 1) := by decide +kernel
theorem d_W_writeCoils_21 : decode b_W_writeCoils 21 = .ok (.invokevirtual 121, 3) := by decide +kernel
theorem d_W_writeCoils_24 : decode b_W_writeCoils 24 = .ok (.iload_n 3, 1) := by decide +kernel
theorem d_W_writeCoils_25 : decode b_W_writeCoils 25 = .ok (.bipush 8, 2) := by decide +kernel
theorem d_W_writeCoils_27 : decode b_W_writeCoils 27 = .ok (.irem, 1) := by decide +kernel
theorem d_W_writeCoils_28 : decode b_W_writeCoils 28 = .ok (.iushr, 1) := by decide +kernel
theorem d_W_writeCoils_29 : decode b_W_writeCoils 29 = .ok (.iconst 1, 1) := by decide +kernel
theorem d_W_writeCoils_30 : decode b_W_writeCoils 30 = .ok (.iand, 1) := by decide +kernel
theorem d_W_writeCoils_31 : decode b_W_writeCoils 31 = .ok (.invokevirtual 87, 3) := by decide +kernel
theorem d_W_writeCoils_34 : decode b_W_writeCoils 34 = .ok (.pop, 1) := by decide +kernel
theorem d_W_writeCoils_35 : decode b_W_writeCoils 35 = .ok (.iinc 3 1, 3) := by decide +kernel
theorem d_W_writeCoils_38 : decode b_W_writeCoils 38 = .ok (.goto (-36), 3) := by decide +kernel
theorem d_W_writeCoils_41 : decode b_W_writeCoils 41 = .ok (.return_, 1) := by decide +kernel
theorem d_W_writeRegisters_0 : decode b_W_writeRegisters 0 = .ok (.iconst 0, 1) := by decide +kernel
theorem d_W_writeRegisters_1 : decode b_W_writeRegisters 1 = .ok (.istore_n 3, 1) := by decide +kernel
theorem d_W_writeRegisters_2 : decode b_W_writeRegisters 2 = .ok (.iload_n 3, 1) := by decide +kernel
theorem d_W_writeRegisters_3 : decode b_W_writeRegisters 3 = .ok (.iload_n 2, 1) := by decide +kernel
theorem d_W_writeRegisters_4 : decode b_W_writeRegisters 4 = .ok (.if_icmp .ge 29, 3) := by decide +kernel
theorem d_W_writeRegisters_7 : decode b_W_writeRegisters 7 = .ok (.aload_n 0, 1) := by decide +kernel
theorem d_W_writeRegisters_8 : decode b_W_writeRegisters 8 = .ok (.getfield 35, 3) := by decide +kernel
theorem d_W_writeRegisters_11 : decode b_W_writeRegisters 11 = .ok (.iload_n 1, 1) := by decide +kernel
theorem d_W_writeRegisters_12 : decode b_W_writeRegisters 12 = .ok (.iload_n 3, 1) := by decide +kernel
theorem d_W_writeRegisters_13 : decode b_W_writeRegisters 13 = .ok (.iadd, 1) := by decide +kernel
theorem d_W_writeRegisters_14 : decode b_W_writeRegisters 14 = .ok (.aload_n 0, 1) := by decide +kernel
theorem d_W_writeRegisters_15 : decode b_W_writeRegisters 15 = .ok (.iconst 5, 1) := by decide +kernel
theorem d_W_writeRegisters_16 : decode b_W_writeRegisters 16 = .ok (.iconst 2, 1) := by decide +kernel
theorem d_W_writeRegisters_17 : decode b_W_writeRegisters 17 = .ok (.iload_n 3, 1) := by decide +kernel
theorem d_W_writeRegisters_18 : decode b_W_writeRegisters 18 = .ok (.imul, 1) := by decide +kernel
theorem d_W_writeRegisters_19 : decode b_W_writeRegisters 19 = .ok (.iadd, 1) := by decide +kernel
theorem d_W_writeRegisters_20 : decode b_W_writeRegisters 20 = .ok (.invokevirtual 124, 3) := by decide +kernel
theorem d_W_writeRegisters_23 : decode b_W_writeRegisters 23 = .ok (.invokevirtual 87, 3) := by decide +kernel
theorem d_W_writeRegisters_26 : decode b_W_writeRegisters 26 = .ok (.pop, 1) := by decide +kernel
theorem d_W_writeRegisters_27 : decode b_W_writeRegisters 27 = .ok (.iinc 3 1, 3) := by decide +kernel
theorem d_W_writeRegisters_30 : decode b_W_writeRegisters 30 = .ok (.goto (-28), 3) := by decide +kernel
theorem d_W_writeRegisters_33 : decode b_W_writeRegisters 33 = .ok (.return_, 1) := by decide +kernel
theorem d_W_appendResult_0 : decode b_W_appendResult 0 = .ok (.iload_n 1, 1) := by decide +kernel
theorem d_W_appendResult_1 : decode b_W_appendResult 1 = .ok (.tableswitch 83 1 4 #[31, 44, 57, 70], 31) := by decide +kernel
theorem d_W_appendResult_32 : decode b_W_appendResult 32 = .ok (.aload_n 0, 1) := by decide +kernel
theorem d_W_appendResult_33 : decode b_W_appendResult 33 = .ok (.aload_n 0, 1) := by decide +kernel
theorem d_W_appendResult_34 : decode b_W_appendResult 34 = .ok (.getfield 27, 3) := by decide +kernel
theorem d_W_appendResult_37 : decode b_W_appendResult 37 = .ok (.iload_n 2, 1) := by decide +kernel
theorem d_W_appendResult_38 : decode b_W_appendResult 38 = .ok (.iload_n 3, 1) := by decide +kernel
theorem d_W_appendResult_39 : decode b_W_appendResult 39 = .ok (.invokevirtual 169, 3) := by decide +kernel
theorem d_W_appendResult_42 : decode b_W_appendResult 42 = .ok (.goto 46, 3) := by decide +kernel
theorem d_W_appendResult_45 : decode b_W_appendResult 45 = .ok (.aload_n 0, 1) := by decide +kernel
theorem d_W_appendResult_46 : decode b_W_appendResult 46 = .ok (.aload_n 0, 1) := by decide +kernel
theorem d_W_appendResult_47 : decode b_W_appendResult 47 = .ok (.getfield 31, 3) := by decide +kernel
theorem d_W_appendResult_50 : decode b_W_appendResult 50 = .ok (.iload_n 2, 1) := by decide +kernel
theorem d_W_appendResult_51 : decode b_W_appendResult 51 = .ok (.iload_n 3, 1) := by decide +kernel
theorem d_W_appendResult_52 : decode b_W_appendResult 52 = .ok (.invokevirtual 169, 3) := by decide +kernel
theorem d_W_appendResult_55 : decode b_W_appendResult 55 = .ok (.goto 33, 3) := by decide +kernel
theorem d_W_appendResult_58 : decode b_W_appendResult 58 = .ok (.aload_n 0, 1) := by decide +kernel
theorem d_W_appendResult_59 : decode b_W_appendResult 59 = .ok (.aload_n 0, 1) := by decide +kernel
theorem d_W_appendResult_60 : decode b_W_appendResult 60 = .ok (.getfield 35, 3) := by decide +kernel
theorem d_W_appendResult_63 : decode b_W_appendResult 63 = .ok (.iload_n 2, 1) := by decide +kernel
theorem d_W_appendResult_64 : decode b_W_appendResult 64 = .ok (.iload_n 3, 1) := by decide +kernel
theorem d_W_appendResult_65 : decode b_W_appendResult 65 = .ok (.invokevirtual 173, 3) := by decide +kernel
theorem d_W_appendResult_68 : decode b_W_appendResult 68 = .ok (.goto 20, 3) := by decide +kernel
theorem d_W_appendResult_71 : decode b_W_appendResult 71 = .ok (.aload_n 0, 1) := by decide +kernel
theorem d_W_appendResult_72 : decode b_W_appendResult 72 = .ok (.aload_n 0, 1) := by decide +kernel
theorem d_W_appendResult_73 : decode b_W_appendResult 73 = .ok (.getfield 38, 3) := by decide +kernel
theorem d_W_appendResult_76 : decode b_W_appendResult 76 = .ok (.iload_n 2, 1) := by decide +kernel
theorem d_W_appendResult_77 : decode b_W_appendResult 77 = .ok (.iload_n 3, 1) := by decide +kernel
theorem d_W_appendResult_78 : decode b_W_appendResult 78 = .ok (.invokevirtual 173, 3) := by decide +kernel
theorem d_W_appendResult_81 : decode b_W_appendResult 81 = .ok (.goto 7, 3) := by decide +kernel
theorem d_W_appendResult_84 : decode b_W_appendResult 84 = .ok (.aload_n 0, 1) := by decide +kernel
theorem d_W_appendResult_85 : decode b_W_appendResult 85 = .ok (.invokevirtual 176, 3) := by decide +kernel
theorem d_W_appendResult_88 : decode b_W_appendResult 88 = .ok (.return_, 1) := by decide +kernel
theorem d_W_appendBits_0 : decode b_W_appendBits 0 = .ok (.aload_n 0, 1) := by decide +kernel
theorem d_W_appendBits_1 : decode b_W_appendBits 1 = .ok (.getfield 50, 3) := by decide +kernel
theorem d_W_appendBits_4 : decode b_W_appendBits 4 = .ok (.iload_n 3, 1) := by decide +kernel
theorem d_W_appendBits_5 : decode b_W_appendBits 5 = .ok (.invokestatic 159, 3) := by decide +kernel
theorem d_W_appendBits_8 : decode b_W_appendBits 8 = .ok (.invokevirtual 95, 3) := by decide +kernel
theorem d_W_appendBits_11 : decode b_W_appendBits 11 = .ok (.iconst 0, 1) := by decide +kernel
theorem d_W_appendBits_12 : decode b_W_appendBits 12 = .ok (.istore 4, 2) := by decide +kernel
theorem d_W_appendBits_14 : decode b_W_appendBits 14 = .ok (.iload 4, 2) := by decide +kernel
theorem d_W_appendBits_16 : decode b_W_appendBits 16 = .ok (.iload_n 3, 1) := by decide +kernel
theorem d_W_appendBits_17 : decode b_W_appendBits 17 = .ok (.if_icmp .ge 33, 3) := by decide +kernel
theorem d_W_appendBits_20 : decode b_W_appendBits 20 = .ok (.aload_n 0, 1) := by decide +kernel
theorem d_W_appendBits_21 : decode b_W_appendBits 21 = .ok (.getfield 50, 3) := by decide +kernel
theorem d_W_appendBits_24 : decode b_W_appendBits 24 = .ok (.aload_n 1, 1) := by decide +kernel
theorem d_W_appendBits_25 : decode b_W_appendBits 25 = .ok (.iload_n 2, 1) := by decide +kernel
theorem d_W_appendBits_26 : decode b_W_appendBits 26 = .ok (.iload 4, 2) := by decide +kernel
theorem d_W_appendBits_28 : decode b_W_appendBits 28 = .ok (.iadd, 1) := by decide +kernel
theorem d_W_appendBits_29 : decode b_W_appendBits 29 = .ok (.bipush 8, 2) := by decide +kernel
theorem d_W_appendBits_31 : decode b_W_appendBits 31 = .ok (.iload_n 3, 1) := by decide +kernel
theorem d_W_appendBits_32 : decode b_W_appendBits 32 = .ok (.iload 4, 2) := by decide +kernel
theorem d_W_appendBits_34 : decode b_W_appendBits 34 = .ok (.isub, 1) := by decide +kernel
theorem d_W_appendBits_35 : decode b_W_appendBits 35 = .ok (.invokestatic 9, 3) := by decide +kernel
theorem d_W_appendBits_38 : decode b_W_appendBits 38 = .ok (.invokestatic 179, 3) := by decide +kernel
theorem d_W_appendBits_41 : decode b_W_appendBits 41 = .ok (.invokevirtual 95, 3) := by decide +kernel
theorem d_W_appendBits_44 : decode b_W_appendBits 44 = .ok (.iinc 4 8, 3) := by decide +kernel
theorem d_W_appendBits_47 : decode b_W_appendBits 47 = .ok (.goto (-33), 3) := by decide +kernel
theorem d_W_appendBits_50 : decode b_W_appendBits 50 = .ok (.return_, 1) := by decide +kernel
theorem d_W_packedBits_0 : decode b_W_packedBits 0 = .ok (.iconst 0, 1) := by decide +kernel
theorem d_W_packedBits_1 : decode b_W_packedBits 1 = .ok (.istore_n 3, 1) := by decide +kernel
theorem d_W_packedBits_2 : decode b_W_packedBits 2 = .ok (.iconst 0, 1) := by decide +kernel
theorem d_W_packedBits_3 : decode b_W_packedBits 3 = .ok (.istore 4, 2) := by decide +kernel
theorem d_W_packedBits_5 : decode b_W_packedBits 5 = .ok (.iload 4, 2) := by decide +kernel
theorem d_W_packedBits_7 : decode b_W_packedBits 7 = .ok (.iload_n 2, 1) := by decide +kernel
theorem d_W_packedBits_8 : decode b_W_packedBits 8 = .ok (.if_icmp .ge 23, 3) := by decide +kernel
theorem d_W_packedBits_11 : decode b_W_packedBits 11 = .ok (.iload_n 3, 1) := by decide +kernel
theorem d_W_packedBits_12 : decode b_W_packedBits 12 = .ok (.aload_n 0, 1) := by decide +kernel
theorem d_W_packedBits_13 : decode b_W_packedBits 13 = .ok (.iload_n 1, 1) := by decide +kernel
theorem d_W_packedBits_14 : decode b_W_packedBits 14 = .ok (.iload 4, 2) := by decide +kernel
theorem d_W_packedBits_16 : decode b_W_packedBits 16 = .ok (.iadd, 1) := by decide +kernel
theorem d_W_packedBits_17 : decode b_W_packedBits 17 = .ok (.invokevirtual 90, 3) := by decide +kernel
theorem d_W_packedBits_20 : decode b_W_packedBits 20 = .ok (.iload 4, 2) := by decide +kernel
theorem d_W_packedBits_22 : decode b_W_packedBits 22 = .ok (.ishl, 1) := by decide +kernel
theorem d_W_packedBits_23 : decode b_W_packedBits 23 = .ok (.ior, 1) := by decide +kernel
theorem d_W_packedBits_24 : decode b_W_packedBits 24 = .ok (.istore_n 3, 1) := by decide +kernel
theorem d_W_packedBits_25 : decode b_W_packedBits 25 = .ok (.iinc 4 1, 3) := by decide +kernel
theorem d_W_packedBits_28 : decode b_W_packedBits 28 = .ok (.goto (-23), 3) := by decide +kernel
theorem d_W_packedBits_31 : decode b_W_packedBits 31 = .ok (.iload_n 3, 1) := by decide +kernel
theorem d_W_packedBits_32 : decode b_W_packedBits 32 = .ok (.ireturn, 1) := by decide +kernel
theorem d_W_appendNumbers_0 : decode b_W_appendNumbers 0 = .ok (.aload_n 0, 1) := by decide +kernel
theorem d_W_appendNumbers_1 : decode b_W_appendNumbers 1 = .ok (.getfield 50, 3) := by decide +kernel
theorem d_W_appendNumbers_4 : decode b_W_appendNumbers 4 = .ok (.iconst 2, 1) := by decide +kernel
theorem d_W_appendNumbers_5 : decode b_W_appendNumbers 5 = .ok (.iload_n 3, 1) := by decide +kernel
theorem d_W_appendNumbers_6 : decode b_W_appendNumbers 6 = .ok (.imul, 1) := by decide +kernel
theorem d_W_appendNumbers_7 : decode b_W_appendNumbers 7 = .ok (.invokevirtual 95, 3) := by decide +kernel
theorem d_W_appendNumbers_10 : decode b_W_appendNumbers 10 = .ok (.iconst 0, 1) := by decide +kernel
theorem d_W_appendNumbers_11 : decode b_W_appendNumbers 11 = .ok (.istore 4, 2) := by decide +kernel
theorem d_W_appendNumbers_13 : decode b_W_appendNumbers 13 = .ok (.iload 4, 2) := by decide +kernel
theorem d_W_appendNumbers_15 : decode b_W_appendNumbers 15 = .ok (.iload_n 3, 1) := by decide +kernel
theorem d_W_appendNumbers_16 : decode b_W_appendNumbers 16 = .ok (.if_icmp .ge 44, 3) := by decide +kernel
theorem d_W_appendNumbers_19 : decode b_W_appendNumbers 19 = .ok (.aload_n 1, 1) := by decide +kernel
theorem d_W_appendNumbers_20 : decode b_W_appendNumbers 20 = .ok (.iload_n 2, 1) := by decide +kernel
theorem d_W_appendNumbers_21 : decode b_W_appendNumbers 21 = .ok (.iload 4, 2) := by decide +kernel
theorem d_W_appendNumbers_23 : decode b_W_appendNumbers 23 = .ok (.iadd, 1) := by decide +kernel
theorem d_W_appendNumbers_24 : decode b_W_appendNumbers 24 = .ok (.invokevirtual 90, 3) := by decide +kernel
theorem d_W_appendNumbers_27 : decode b_W_appendNumbers 27 = .ok (.istore 5, 2) := by decide +kernel
theorem d_W_appendNumbers_29 : decode b_W_appendNumbers 29 = .ok (.aload_n 0, 1) := by decide +kernel
theorem d_W_appendNumbers_30 : decode b_W_appendNumbers 30 = .ok (.getfield 50, 3) := by decide +kernel
theorem d_W_appendNumbers_33 : decode b_W_appendNumbers 33 = .ok (.iload 5, 2) := by decide +kernel
theorem d_W_appendNumbers_35 : decode b_W_appendNumbers 35 = .ok (.bipush 8, 2) := by decide +kernel
theorem d_W_appendNumbers_37 : decode b_W_appendNumbers 37 = .ok (.iushr, 1) := by decide +kernel
theorem d_W_appendNumbers_38 : decode b_W_appendNumbers 38 = .ok (.invokevirtual 95, 3) := by decide +kernel
theorem d_W_appendNumbers_41 : decode b_W_appendNumbers 41 = .ok (.aload_n 0, 1) := by decide +kernel
theorem d_W_appendNumbers_42 : decode b_W_appendNumbers 42 = .ok (.getfield 50, 3) := by decide +kernel
theorem d_W_appendNumbers_45 : decode b_W_appendNumbers 45 = .ok (.iload 5, 2) := by decide +kernel
theorem d_W_appendNumbers_47 : decode b_W_appendNumbers 47 = .ok (.sipush 255, 3) := by decide +kernel
theorem d_W_appendNumbers_50 : decode b_W_appendNumbers 50 = .ok (.iand, 1) := by decide +kernel
theorem d_W_appendNumbers_51 : decode b_W_appendNumbers 51 = .ok (.invokevirtual 95, 3) := by decide +kernel
theorem d_W_appendNumbers_54 : decode b_W_appendNumbers 54 = .ok (.iinc 4 1, 3) := by decide +kernel
theorem d_W_appendNumbers_57 : decode b_W_appendNumbers 57 = .ok (.goto (-44), 3) := by decide +kernel
theorem d_W_appendNumbers_60 : decode b_W_appendNumbers 60 = .ok (.return_, 1) := by decide +kernel
theorem d_W_appendEcho_0 : decode b_W_appendEcho 0 = .ok (.iconst 0, 1) := by decide +kernel
theorem d_W_appendEcho_1 : decode b_W_appendEcho 1 = .ok (.istore_n 1, 1) := by decide +kernel
theorem d_W_appendEcho_2 : decode b_W_appendEcho 2 = .ok (.iload_n 1, 1) := by decide +kernel
theorem d_W_appendEcho_3 : decode b_W_appendEcho 3 = .ok (.iconst 4, 1) := by decide +kernel
theorem d_W_appendEcho_4 : decode b_W_appendEcho 4 = .ok (.if_icmp .ge 21, 3) := by decide +kernel
theorem d_W_appendEcho_7 : decode b_W_appendEcho 7 = .ok (.aload_n 0, 1) := by decide +kernel
theorem d_W_appendEcho_8 : decode b_W_appendEcho 8 = .ok (.getfield 50, 3) := by decide +kernel
theorem d_W_appendEcho_11 : decode b_W_appendEcho 11 = .ok (.aload_n 0, 1) := by decide +kernel
theorem d_W_appendEcho_12 : decode b_W_appendEcho 12 = .ok (.iload_n 1, 1) := by decide +kernel
theorem d_W_appendEcho_13 : decode b_W_appendEcho 13 = .ok (.invokevirtual 121, 3) := by decide +kernel
theorem d_W_appendEcho_16 : decode b_W_appendEcho 16 = .ok (.invokevirtual 95, 3) := by decide +kernel
theorem d_W_appendEcho_19 : decode b_W_appendEcho 19 = .ok (.iinc 1 1, 3) := by decide +kernel
theorem d_W_appendEcho_22 : decode b_W_appendEcho 22 = .ok (.goto (-20), 3) := by decide +kernel
theorem d_W_appendEcho_25 : decode b_W_appendEcho 25 = .ok (.return_, 1) := by decide +kernel
theorem d_B_init_0 : decode b_B_init 0 = .ok (.aload_n 0, 1) := by decide +kernel
theorem d_B_init_1 : decode b_B_init 1 = .ok (.invokespecial 3, 3) := by decide +kernel
theorem d_B_init_4 : decode b_B_init 4 = .ok (.aload_n 0, 1) := by decide +kernel
theorem d_B_init_5 : decode b_B_init 5 = .ok (.aload_n 1, 1) := by decide +kernel
theorem d_B_init_6 : decode b_B_init 6 = .ok (.putfield 9, 3) := by decide +kernel
theorem d_B_init_9 : decode b_B_init 9 = .ok (.aload_n 0, 1) := by decide +kernel
theorem d_B_init_10 : decode b_B_init 10 = .ok (.iconst 0, 1) := by decide +kernel
theorem d_B_init_11 : decode b_B_init 11 = .ok (.putfield 15, 3) := by decide +kernel
theorem d_B_init_14 : decode b_B_init 14 = .ok (.return_, 1) := by decide +kernel
theorem d_B_size_0 : decode b_B_size 0 = .ok (.aload_n 0, 1) := by decide +kernel
theorem d_B_size_1 : decode b_B_size 1 = .ok (.getfield 15, 3) := by decide +kernel
theorem d_B_size_4 : decode b_B_size 4 = .ok (.ireturn, 1) := by decide +kernel
theorem d_B_clear_0 : decode b_B_clear 0 = .ok (.aload_n 0, 1) := by decide +kernel
theorem d_B_clear_1 : decode b_B_clear 1 = .ok (.iconst 0, 1) := by decide +kernel
theorem d_B_clear_2 : decode b_B_clear 2 = .ok (.putfield 15, 3) := by decide +kernel
theorem d_B_clear_5 : decode b_B_clear 5 = .ok (.return_, 1) := by decide +kernel
theorem d_B_append_0 : decode b_B_append 0 = .ok (.aload_n 0, 1) := by decide +kernel
theorem d_B_append_1 : decode b_B_append 1 = .ok (.getfield 15, 3) := by decide +kernel
theorem d_B_append_4 : decode b_B_append 4 = .ok (.ifCond .lt 35, 3) := by decide +kernel
theorem d_B_append_7 : decode b_B_append 7 = .ok (.aload_n 0, 1) := by decide +kernel
theorem d_B_append_8 : decode b_B_append 8 = .ok (.getfield 15, 3) := by decide +kernel
theorem d_B_append_11 : decode b_B_append 11 = .ok (.aload_n 0, 1) := by decide +kernel
theorem d_B_append_12 : decode b_B_append 12 = .ok (.getfield 9, 3) := by decide +kernel
theorem d_B_append_15 : decode b_B_append 15 = .ok (.arraylength, 1) := by decide +kernel
theorem d_B_append_16 : decode b_B_append 16 = .ok (.if_icmp .ge 23, 3) := by decide +kernel
theorem d_B_append_19 : decode b_B_append 19 = .ok (.aload_n 0, 1) := by decide +kernel
theorem d_B_append_20 : decode b_B_append 20 = .ok (.getfield 9, 3) := by decide +kernel
theorem d_B_append_23 : decode b_B_append 23 = .ok (.aload_n 0, 1) := by decide +kernel
theorem d_B_append_24 : decode b_B_append 24 = .ok (.getfield 15, 3) := by decide +kernel
theorem d_B_append_27 : decode b_B_append 27 = .ok (.iload_n 1, 1) := by decide +kernel
theorem d_B_append_28 : decode b_B_append 28 = .ok (.iastore, 1) := by decide +kernel
theorem d_B_append_29 : decode b_B_append 29 = .ok (.aload_n 0, 1) := by decide +kernel
theorem d_B_append_30 : decode b_B_append 30 = .ok (.dup, 1) := by decide +kernel
theorem d_B_append_31 : decode b_B_append 31 = .ok (.getfield 15, 3) := by decide +kernel
theorem d_B_append_34 : decode b_B_append 34 = .ok (.iconst 1, 1) := by decide +kernel
theorem d_B_append_35 : decode b_B_append 35 = .ok (.iadd, 1) := by decide +kernel
theorem d_B_append_36 : decode b_B_append 36 = .ok (.putfield 15, 3) := by decide +kernel
theorem d_B_append_39 : decode b_B_append 39 = .ok (.return_, 1) := by decide +kernel
theorem d_B_at_0 : decode b_B_at 0 = .ok (.iload_n 1, 1) := by decide +kernel
theorem d_B_at_1 : decode b_B_at 1 = .ok (.ifCond .lt 29, 3) := by decide +kernel
theorem d_B_at_4 : decode b_B_at 4 = .ok (.iload_n 1, 1) := by decide +kernel
theorem d_B_at_5 : decode b_B_at 5 = .ok (.aload_n 0, 1) := by decide +kernel
theorem d_B_at_6 : decode b_B_at 6 = .ok (.getfield 15, 3) := by decide +kernel
theorem d_B_at_9 : decode b_B_at 9 = .ok (.if_icmp .ge 21, 3) := by decide +kernel
theorem d_B_at_12 : decode b_B_at 12 = .ok (.iload_n 1, 1) := by decide +kernel
theorem d_B_at_13 : decode b_B_at 13 = .ok (.aload_n 0, 1) := by decide +kernel
theorem d_B_at_14 : decode b_B_at 14 = .ok (.getfield 9, 3) := by decide +kernel
theorem d_B_at_17 : decode b_B_at 17 = .ok (.arraylength, 1) := by decide +kernel
theorem d_B_at_18 : decode b_B_at 18 = .ok (.if_icmp .ge 12, 3) := by decide +kernel
theorem d_B_at_21 : decode b_B_at 21 = .ok (.aload_n 0, 1) := by decide +kernel
theorem d_B_at_22 : decode b_B_at 22 = .ok (.getfield 9, 3) := by decide +kernel
theorem d_B_at_25 : decode b_B_at 25 = .ok (.iload_n 1, 1) := by decide +kernel
theorem d_B_at_26 : decode b_B_at 26 = .ok (.iaload, 1) := by decide +kernel
theorem d_B_at_27 : decode b_B_at 27 = .ok (.goto 4, 3) := by decide +kernel
theorem d_B_at_30 : decode b_B_at 30 = .ok (.iconst (-1), 1) := by decide +kernel
theorem d_B_at_31 : decode b_B_at 31 = .ok (.ireturn, 1) := by decide +kernel
theorem d_B_sumOfFirst_0 : decode b_B_sumOfFirst 0 = .ok (.ldc 19, 2) := by decide +kernel
theorem d_B_sumOfFirst_2 : decode b_B_sumOfFirst 2 = .ok (.istore_n 2, 1) := by decide +kernel
theorem d_B_sumOfFirst_3 : decode b_B_sumOfFirst 3 = .ok (.iconst 0, 1) := by decide +kernel
theorem d_B_sumOfFirst_4 : decode b_B_sumOfFirst 4 = .ok (.istore_n 3, 1) := by decide +kernel
theorem d_B_sumOfFirst_5 : decode b_B_sumOfFirst 5 = .ok (.iload_n 3, 1) := by decide +kernel
theorem d_B_sumOfFirst_6 : decode b_B_sumOfFirst 6 = .ok (.iload_n 1, 1) := by decide +kernel
theorem d_B_sumOfFirst_7 : decode b_B_sumOfFirst 7 = .ok (.if_icmp .ge 19, 3) := by decide +kernel
theorem d_B_sumOfFirst_10 : decode b_B_sumOfFirst 10 = .ok (.iload_n 2, 1) := by decide +kernel
theorem d_B_sumOfFirst_11 : decode b_B_sumOfFirst 11 = .ok (.aload_n 0, 1) := by decide +kernel
theorem d_B_sumOfFirst_12 : decode b_B_sumOfFirst 12 = .ok (.iload_n 3, 1) := by decide +kernel
theorem d_B_sumOfFirst_13 : decode b_B_sumOfFirst 13 = .ok (.invokevirtual 20, 3) := by decide +kernel
theorem d_B_sumOfFirst_16 : decode b_B_sumOfFirst 16 = .ok (.invokestatic 24, 3) := by decide +kernel
theorem d_B_sumOfFirst_19 : decode b_B_sumOfFirst 19 = .ok (.istore_n 2, 1) := by decide +kernel
theorem d_B_sumOfFirst_20 : decode b_B_sumOfFirst 20 = .ok (.iinc 3 1, 3) := by decide +kernel
theorem d_B_sumOfFirst_23 : decode b_B_sumOfFirst 23 = .ok (.goto (-18), 3) := by decide +kernel
theorem d_B_sumOfFirst_26 : decode b_B_sumOfFirst 26 = .ok (.iload_n 2, 1) := by decide +kernel
theorem d_B_sumOfFirst_27 : decode b_B_sumOfFirst 27 = .ok (.ireturn, 1) := by decide +kernel
theorem d_B_endsWithItsSum_0 : decode b_B_endsWithItsSum 0 = .ok (.aload_n 0, 1) := by decide +kernel
theorem d_B_endsWithItsSum_1 : decode b_B_endsWithItsSum 1 = .ok (.aload_n 0, 1) := by decide +kernel
theorem d_B_endsWithItsSum_2 : decode b_B_endsWithItsSum 2 = .ok (.getfield 15, 3) := by decide +kernel
theorem d_B_endsWithItsSum_5 : decode b_B_endsWithItsSum 5 = .ok (.iconst 2, 1) := by decide +kernel
theorem d_B_endsWithItsSum_6 : decode b_B_endsWithItsSum 6 = .ok (.isub, 1) := by decide +kernel
theorem d_B_endsWithItsSum_7 : decode b_B_endsWithItsSum 7 = .ok (.invokevirtual 28, 3) := by decide +kernel
theorem d_B_endsWithItsSum_10 : decode b_B_endsWithItsSum 10 = .ok (.istore_n 1, 1) := by decide +kernel
theorem d_B_endsWithItsSum_11 : decode b_B_endsWithItsSum 11 = .ok (.aload_n 0, 1) := by decide +kernel
theorem d_B_endsWithItsSum_12 : decode b_B_endsWithItsSum 12 = .ok (.aload_n 0, 1) := by decide +kernel
theorem d_B_endsWithItsSum_13 : decode b_B_endsWithItsSum 13 = .ok (.getfield 15, 3) := by decide +kernel
theorem d_B_endsWithItsSum_16 : decode b_B_endsWithItsSum 16 = .ok (.iconst 2, 1) := by decide +kernel
theorem d_B_endsWithItsSum_17 : decode b_B_endsWithItsSum 17 = .ok (.isub, 1) := by decide +kernel
theorem d_B_endsWithItsSum_18 : decode b_B_endsWithItsSum 18 = .ok (.invokevirtual 20, 3) := by decide +kernel
theorem d_B_endsWithItsSum_21 : decode b_B_endsWithItsSum 21 = .ok (.iload_n 1, 1) := by decide +kernel
theorem d_B_endsWithItsSum_22 : decode b_B_endsWithItsSum 22 = .ok (.sipush 255, 3) := by decide +kernel
theorem d_B_endsWithItsSum_25 : decode b_B_endsWithItsSum 25 = .ok (.iand, 1) := by decide +kernel
theorem d_B_endsWithItsSum_26 : decode b_B_endsWithItsSum 26 = .ok (.if_icmp .ne 24, 3) := by decide +kernel
theorem d_B_endsWithItsSum_29 : decode b_B_endsWithItsSum 29 = .ok (.aload_n 0, 1) := by decide +kernel
theorem d_B_endsWithItsSum_30 : decode b_B_endsWithItsSum 30 = .ok (.aload_n 0, 1) := by decide +kernel
theorem d_B_endsWithItsSum_31 : decode b_B_endsWithItsSum 31 = .ok (.getfield 15, 3) := by decide +kernel
theorem d_B_endsWithItsSum_34 : decode b_B_endsWithItsSum 34 = .ok (.iconst 1, 1) := by decide +kernel
theorem d_B_endsWithItsSum_35 : decode b_B_endsWithItsSum 35 = .ok (.isub, 1) := by decide +kernel
theorem d_B_endsWithItsSum_36 : decode b_B_endsWithItsSum 36 = .ok (.invokevirtual 20, 3) := by decide +kernel
theorem d_B_endsWithItsSum_39 : decode b_B_endsWithItsSum 39 = .ok (.iload_n 1, 1) := by decide +kernel
theorem d_B_endsWithItsSum_40 : decode b_B_endsWithItsSum 40 = .ok (.bipush 8, 2) := by decide +kernel
theorem d_B_endsWithItsSum_42 : decode b_B_endsWithItsSum 42 = .ok (.iushr, 1) := by decide +kernel
theorem d_B_endsWithItsSum_43 : decode b_B_endsWithItsSum 43 = .ok (.if_icmp .ne 7, 3) := by decide +kernel
theorem d_B_endsWithItsSum_46 : decode b_B_endsWithItsSum 46 = .ok (.iconst 1, 1) := by decide +kernel
theorem d_B_endsWithItsSum_47 : decode b_B_endsWithItsSum 47 = .ok (.goto 4, 3) := by decide +kernel
theorem d_B_endsWithItsSum_50 : decode b_B_endsWithItsSum 50 = .ok (.iconst 0, 1) := by decide +kernel
theorem d_B_endsWithItsSum_51 : decode b_B_endsWithItsSum 51 = .ok (.ireturn, 1) := by decide +kernel
theorem d_B_appendItsSum_0 : decode b_B_appendItsSum 0 = .ok (.aload_n 0, 1) := by decide +kernel
theorem d_B_appendItsSum_1 : decode b_B_appendItsSum 1 = .ok (.aload_n 0, 1) := by decide +kernel
theorem d_B_appendItsSum_2 : decode b_B_appendItsSum 2 = .ok (.getfield 15, 3) := by decide +kernel
theorem d_B_appendItsSum_5 : decode b_B_appendItsSum 5 = .ok (.invokevirtual 28, 3) := by decide +kernel
theorem d_B_appendItsSum_8 : decode b_B_appendItsSum 8 = .ok (.istore_n 1, 1) := by decide +kernel
theorem d_B_appendItsSum_9 : decode b_B_appendItsSum 9 = .ok (.aload_n 0, 1) := by decide +kernel
theorem d_B_appendItsSum_10 : decode b_B_appendItsSum 10 = .ok (.iload_n 1, 1) := by decide +kernel
theorem d_B_appendItsSum_11 : decode b_B_appendItsSum 11 = .ok (.sipush 255, 3) := by decide +kernel
theorem d_B_appendItsSum_14 : decode b_B_appendItsSum 14 = .ok (.iand, 1) := by decide +kernel
theorem d_B_appendItsSum_15 : decode b_B_appendItsSum 15 = .ok (.invokevirtual 31, 3) := by decide +kernel
theorem d_B_appendItsSum_18 : decode b_B_appendItsSum 18 = .ok (.aload_n 0, 1) := by decide +kernel
theorem d_B_appendItsSum_19 : decode b_B_appendItsSum 19 = .ok (.iload_n 1, 1) := by decide +kernel
theorem d_B_appendItsSum_20 : decode b_B_appendItsSum 20 = .ok (.bipush 8, 2) := by decide +kernel
theorem d_B_appendItsSum_22 : decode b_B_appendItsSum 22 = .ok (.iushr, 1) := by decide +kernel
theorem d_B_appendItsSum_23 : decode b_B_appendItsSum 23 = .ok (.invokevirtual 31, 3) := by decide +kernel
theorem d_B_appendItsSum_26 : decode b_B_appendItsSum 26 = .ok (.return_, 1) := by decide +kernel
theorem d_T_init_0 : decode b_T_init 0 = .ok (.aload_n 0, 1) := by decide +kernel
theorem d_T_init_1 : decode b_T_init 1 = .ok (.invokespecial 3, 3) := by decide +kernel
theorem d_T_init_4 : decode b_T_init 4 = .ok (.aload_n 0, 1) := by decide +kernel
theorem d_T_init_5 : decode b_T_init 5 = .ok (.aload_n 1, 1) := by decide +kernel
theorem d_T_init_6 : decode b_T_init 6 = .ok (.putfield 9, 3) := by decide +kernel
theorem d_T_init_9 : decode b_T_init 9 = .ok (.aload_n 0, 1) := by decide +kernel
theorem d_T_init_10 : decode b_T_init 10 = .ok (.iload_n 2, 1) := by decide +kernel
theorem d_T_init_11 : decode b_T_init 11 = .ok (.putfield 15, 3) := by decide +kernel
theorem d_T_init_14 : decode b_T_init 14 = .ok (.return_, 1) := by decide +kernel
theorem d_T_has_0 : decode b_T_has 0 = .ok (.iload_n 1, 1) := by decide +kernel
theorem d_T_has_1 : decode b_T_has 1 = .ok (.ifCond .lt 16, 3) := by decide +kernel
theorem d_T_has_4 : decode b_T_has 4 = .ok (.iload_n 1, 1) := by decide +kernel
theorem d_T_has_5 : decode b_T_has 5 = .ok (.aload_n 0, 1) := by decide +kernel
theorem d_T_has_6 : decode b_T_has 6 = .ok (.getfield 9, 3) := by decide +kernel
theorem d_T_has_9 : decode b_T_has 9 = .ok (.arraylength, 1) := by decide +kernel
theorem d_T_has_10 : decode b_T_has 10 = .ok (.if_icmp .ge 7, 3) := by decide +kernel
theorem d_T_has_13 : decode b_T_has 13 = .ok (.iconst 1, 1) := by decide +kernel
theorem d_T_has_14 : decode b_T_has 14 = .ok (.goto 4, 3) := by decide +kernel
theorem d_T_has_17 : decode b_T_has 17 = .ok (.iconst 0, 1) := by decide +kernel
theorem d_T_has_18 : decode b_T_has 18 = .ok (.ireturn, 1) := by decide +kernel
theorem d_T_at_0 : decode b_T_at 0 = .ok (.aload_n 0, 1) := by decide +kernel
theorem d_T_at_1 : decode b_T_at 1 = .ok (.iload_n 1, 1) := by decide +kernel
theorem d_T_at_2 : decode b_T_at 2 = .ok (.invokevirtual 19, 3) := by decide +kernel
theorem d_T_at_5 : decode b_T_at 5 = .ok (.ifCond .eq 12, 3) := by decide +kernel
theorem d_T_at_8 : decode b_T_at 8 = .ok (.aload_n 0, 1) := by decide +kernel
theorem d_T_at_9 : decode b_T_at 9 = .ok (.getfield 9, 3) := by decide +kernel
theorem d_T_at_12 : decode b_T_at 12 = .ok (.iload_n 1, 1) := by decide +kernel
theorem d_T_at_13 : decode b_T_at 13 = .ok (.iaload, 1) := by decide +kernel
theorem d_T_at_14 : decode b_T_at 14 = .ok (.goto 4, 3) := by decide +kernel
theorem d_T_at_17 : decode b_T_at 17 = .ok (.iconst (-1), 1) := by decide +kernel
theorem d_T_at_18 : decode b_T_at 18 = .ok (.ireturn, 1) := by decide +kernel
theorem d_T_replace_0 : decode b_T_replace 0 = .ok (.aload_n 0, 1) := by decide +kernel
theorem d_T_replace_1 : decode b_T_replace 1 = .ok (.iload_n 1, 1) := by decide +kernel
theorem d_T_replace_2 : decode b_T_replace 2 = .ok (.invokevirtual 19, 3) := by decide +kernel
theorem d_T_replace_5 : decode b_T_replace 5 = .ok (.ifCond .eq 15, 3) := by decide +kernel
theorem d_T_replace_8 : decode b_T_replace 8 = .ok (.iload_n 2, 1) := by decide +kernel
theorem d_T_replace_9 : decode b_T_replace 9 = .ok (.ifCond .lt 11, 3) := by decide +kernel
theorem d_T_replace_12 : decode b_T_replace 12 = .ok (.iload_n 2, 1) := by decide +kernel
theorem d_T_replace_13 : decode b_T_replace 13 = .ok (.aload_n 0, 1) := by decide +kernel
theorem d_T_replace_14 : decode b_T_replace 14 = .ok (.getfield 15, 3) := by decide +kernel
theorem d_T_replace_17 : decode b_T_replace 17 = .ok (.if_icmp .le 5, 3) := by decide +kernel
theorem d_T_replace_20 : decode b_T_replace 20 = .ok (.iconst (-1), 1) := by decide +kernel
theorem d_T_replace_21 : decode b_T_replace 21 = .ok (.ireturn, 1) := by decide +kernel
theorem d_T_replace_22 : decode b_T_replace 22 = .ok (.aload_n 0, 1) := by decide +kernel
theorem d_T_replace_23 : decode b_T_replace 23 = .ok (.getfield 9, 3) := by decide +kernel
theorem d_T_replace_26 : decode b_T_replace 26 = .ok (.iload_n 1, 1) := by decide +kernel
theorem d_T_replace_27 : decode b_T_replace 27 = .ok (.iaload, 1) := by decide +kernel
theorem d_T_replace_28 : decode b_T_replace 28 = .ok (.istore_n 3, 1) := by decide +kernel
theorem d_T_replace_29 : decode b_T_replace 29 = .ok (.aload_n 0, 1) := by decide +kernel
theorem d_T_replace_30 : decode b_T_replace 30 = .ok (.getfield 9, 3) := by decide +kernel
theorem d_T_replace_33 : decode b_T_replace 33 = .ok (.iload_n 1, 1) := by decide +kernel
theorem d_T_replace_34 : decode b_T_replace 34 = .ok (.iload_n 2, 1) := by decide +kernel
theorem d_T_replace_35 : decode b_T_replace 35 = .ok (.iastore, 1) := by decide +kernel
theorem d_T_replace_36 : decode b_T_replace 36 = .ok (.iload_n 3, 1) := by decide +kernel
theorem d_T_replace_37 : decode b_T_replace 37 = .ok (.ireturn, 1) := by decide +kernel
