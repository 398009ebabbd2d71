/-! ===== what stands where (written by wip/whole/gen_look.py) ===== -/
theorem mx_110 : (mj_m 110).2.2.1 = 1 := by decide +kernel
theorem rt_110 : (mj_m 110).2.2.2.1 = (some (FieldType.object "java/lang/String")) := by decide +kernel
theorem dp_110 : mj_disp 110 9 = some 110 := by decide +kernel
theorem pq_110 : mj_prog 110 = mj_p110 := rfl
theorem k110_0 : mj_look (mj_prog 110) 0 = some (.iload_n 0, 1, 0, 0) := by decide +kernel
theorem k110_1 : mj_look (mj_prog 110) 1 = some (.tableswitch 43 0 3 #[31, 34, 37, 40], 31, 0, 0) := by decide +kernel
theorem k110_32 : mj_look (mj_prog 110) 32 = some (.ldc 89, 2, 9, 1) := by decide +kernel
theorem k110_34 : mj_look (mj_prog 110) 34 = some (.areturn, 1, 0, 0) := by decide +kernel
theorem k110_35 : mj_look (mj_prog 110) 35 = some (.ldc 91, 2, 10, 1) := by decide +kernel
theorem k110_37 : mj_look (mj_prog 110) 37 = some (.areturn, 1, 0, 0) := by decide +kernel
theorem k110_38 : mj_look (mj_prog 110) 38 = some (.ldc 93, 2, 11, 1) := by decide +kernel
theorem k110_40 : mj_look (mj_prog 110) 40 = some (.areturn, 1, 0, 0) := by decide +kernel
theorem k110_41 : mj_look (mj_prog 110) 41 = some (.ldc 95, 2, 12, 1) := by decide +kernel
theorem k110_43 : mj_look (mj_prog 110) 43 = some (.areturn, 1, 0, 0) := by decide +kernel
theorem k110_44 : mj_look (mj_prog 110) 44 = some (.ldc 97, 2, 13, 1) := by decide +kernel
theorem k110_46 : mj_look (mj_prog 110) 46 = some (.areturn, 1, 0, 0) := by decide +kernel
theorem mx_111 : (mj_m 111).2.2.1 = 3 := by decide +kernel
theorem rt_111 : (mj_m 111).2.2.2.1 = (some FieldType.int) := by decide +kernel
theorem dp_111 : mj_disp 111 11 = some 111 := by decide +kernel
theorem pq_111 : mj_prog 111 = mj_p111 := rfl
theorem k111_0 : mj_look (mj_prog 111) 0 = some (.iload_n 1, 1, 0, 0) := by decide +kernel
theorem k111_1 : mj_look (mj_prog 111) 1 = some (.iconst 0, 1, 0, 0) := by decide +kernel
theorem k111_2 : mj_look (mj_prog 111) 2 = some (.aload_n 0, 1, 0, 0) := by decide +kernel
theorem k111_3 : mj_look (mj_prog 111) 3 = some (.getfield 49, 3, 11, 3) := by decide +kernel
theorem k111_6 : mj_look (mj_prog 111) 6 = some (.getfield 221, 3, 6, 9) := by decide +kernel
theorem k111_9 : mj_look (mj_prog 111) 9 = some (.iconst 1, 1, 0, 0) := by decide +kernel
theorem k111_10 : mj_look (mj_prog 111) 10 = some (.isub, 1, 0, 0) := by decide +kernel
theorem k111_11 : mj_look (mj_prog 111) 11 = some (.invokestatic 141, 3, 16, 3) := by decide +kernel
theorem k111_14 : mj_look (mj_prog 111) 14 = some (.ifCond .eq 12, 3, 26, 0) := by decide +kernel
theorem k111_17 : mj_look (mj_prog 111) 17 = some (.iload_n 2, 1, 0, 0) := by decide +kernel
theorem k111_18 : mj_look (mj_prog 111) 18 = some (.iconst 0, 1, 0, 0) := by decide +kernel
theorem k111_19 : mj_look (mj_prog 111) 19 = some (.iconst 1, 1, 0, 0) := by decide +kernel
theorem k111_20 : mj_look (mj_prog 111) 20 = some (.invokestatic 141, 3, 16, 3) := by decide +kernel
theorem k111_23 : mj_look (mj_prog 111) 23 = some (.ifCond .ne 6, 3, 29, 0) := by decide +kernel
theorem k111_26 : mj_look (mj_prog 111) 26 = some (.ldc 96, 2, 3294967295, 0) := by decide +kernel
theorem k111_28 : mj_look (mj_prog 111) 28 = some (.ireturn, 1, 0, 0) := by decide +kernel
theorem k111_29 : mj_look (mj_prog 111) 29 = some (.iload_n 2, 1, 0, 0) := by decide +kernel
theorem k111_30 : mj_look (mj_prog 111) 30 = some (.ifCond .ne 15, 3, 45, 0) := by decide +kernel
theorem k111_33 : mj_look (mj_prog 111) 33 = some (.aload_n 0, 1, 0, 0) := by decide +kernel
theorem k111_34 : mj_look (mj_prog 111) 34 = some (.getfield 33, 3, 11, 1) := by decide +kernel
theorem k111_37 : mj_look (mj_prog 111) 37 = some (.iload_n 1, 1, 0, 0) := by decide +kernel
theorem k111_38 : mj_look (mj_prog 111) 38 = some (.aaload, 1, 0, 0) := by decide +kernel
theorem k111_39 : mj_look (mj_prog 111) 39 = some (.getfield 231, 3, 10, 3) := by decide +kernel
theorem k111_42 : mj_look (mj_prog 111) 42 = some (.goto 12, 3, 54, 0) := by decide +kernel
theorem k111_45 : mj_look (mj_prog 111) 45 = some (.aload_n 0, 1, 0, 0) := by decide +kernel
theorem k111_46 : mj_look (mj_prog 111) 46 = some (.getfield 33, 3, 11, 1) := by decide +kernel
theorem k111_49 : mj_look (mj_prog 111) 49 = some (.iload_n 1, 1, 0, 0) := by decide +kernel
theorem k111_50 : mj_look (mj_prog 111) 50 = some (.aaload, 1, 0, 0) := by decide +kernel
theorem k111_51 : mj_look (mj_prog 111) 51 = some (.getfield 234, 3, 10, 4) := by decide +kernel
theorem k111_54 : mj_look (mj_prog 111) 54 = some (.ireturn, 1, 0, 0) := by decide +kernel
theorem mx_112 : (mj_m 112).2.2.1 = 2 := by decide +kernel
theorem rt_112 : (mj_m 112).2.2.2.1 = (some FieldType.int) := by decide +kernel
theorem dp_112 : mj_disp 112 11 = some 112 := by decide +kernel
theorem pq_112 : mj_prog 112 = mj_p112 := rfl
theorem k112_0 : mj_look (mj_prog 112) 0 = some (.iload_n 1, 1, 0, 0) := by decide +kernel
theorem k112_1 : mj_look (mj_prog 112) 1 = some (.iconst 0, 1, 0, 0) := by decide +kernel
theorem k112_2 : mj_look (mj_prog 112) 2 = some (.iconst 2, 1, 0, 0) := by decide +kernel
theorem k112_3 : mj_look (mj_prog 112) 3 = some (.invokestatic 141, 3, 16, 3) := by decide +kernel
theorem k112_6 : mj_look (mj_prog 112) 6 = some (.ifCond .ne 6, 3, 12, 0) := by decide +kernel
theorem k112_9 : mj_look (mj_prog 112) 9 = some (.ldc 96, 2, 3294967295, 0) := by decide +kernel
theorem k112_11 : mj_look (mj_prog 112) 11 = some (.ireturn, 1, 0, 0) := by decide +kernel
theorem k112_12 : mj_look (mj_prog 112) 12 = some (.aload_n 0, 1, 0, 0) := by decide +kernel
theorem k112_13 : mj_look (mj_prog 112) 13 = some (.getfield 49, 3, 11, 3) := by decide +kernel
theorem k112_16 : mj_look (mj_prog 112) 16 = some (.getfield 209, 3, 6, 4) := by decide +kernel
theorem k112_19 : mj_look (mj_prog 112) 19 = some (.iload_n 1, 1, 0, 0) := by decide +kernel
theorem k112_20 : mj_look (mj_prog 112) 20 = some (.iaload, 1, 0, 0) := by decide +kernel
theorem k112_21 : mj_look (mj_prog 112) 21 = some (.ifCond .ge 8, 3, 29, 0) := by decide +kernel
theorem k112_24 : mj_look (mj_prog 112) 24 = some (.ldc 179, 2, 3294967291, 0) := by decide +kernel
theorem k112_26 : mj_look (mj_prog 112) 26 = some (.goto 12, 3, 38, 0) := by decide +kernel
theorem k112_29 : mj_look (mj_prog 112) 29 = some (.aload_n 0, 1, 0, 0) := by decide +kernel
theorem k112_30 : mj_look (mj_prog 112) 30 = some (.getfield 49, 3, 11, 3) := by decide +kernel
theorem k112_33 : mj_look (mj_prog 112) 33 = some (.getfield 209, 3, 6, 4) := by decide +kernel
theorem k112_36 : mj_look (mj_prog 112) 36 = some (.iload_n 1, 1, 0, 0) := by decide +kernel
theorem k112_37 : mj_look (mj_prog 112) 37 = some (.iaload, 1, 0, 0) := by decide +kernel
theorem k112_38 : mj_look (mj_prog 112) 38 = some (.ireturn, 1, 0, 0) := by decide +kernel
theorem mx_113 : (mj_m 113).2.2.1 = 5 := by decide +kernel
theorem rt_113 : (mj_m 113).2.2.2.1 = (some FieldType.int) := by decide +kernel
theorem dp_113 : mj_disp 113 11 = some 113 := by decide +kernel
theorem pq_113 : mj_prog 113 = mj_p113 := rfl
theorem k113_0 : mj_look (mj_prog 113) 0 = some (.iload_n 1, 1, 0, 0) := by decide +kernel
theorem k113_1 : mj_look (mj_prog 113) 1 = some (.invokestatic 197, 3, 84, 1) := by decide +kernel
theorem k113_4 : mj_look (mj_prog 113) 4 = some (.ifCond .eq 23, 3, 27, 0) := by decide +kernel
theorem k113_7 : mj_look (mj_prog 113) 7 = some (.iload_n 2, 1, 0, 0) := by decide +kernel
theorem k113_8 : mj_look (mj_prog 113) 8 = some (.iconst (-1), 1, 0, 0) := by decide +kernel
theorem k113_9 : mj_look (mj_prog 113) 9 = some (.iconst 1, 1, 0, 0) := by decide +kernel
theorem k113_10 : mj_look (mj_prog 113) 10 = some (.invokestatic 141, 3, 16, 3) := by decide +kernel
theorem k113_13 : mj_look (mj_prog 113) 13 = some (.ifCond .eq 14, 3, 27, 0) := by decide +kernel
theorem k113_16 : mj_look (mj_prog 113) 16 = some (.iload_n 2, 1, 0, 0) := by decide +kernel
theorem k113_17 : mj_look (mj_prog 113) 17 = some (.iconst (-1), 1, 0, 0) := by decide +kernel
theorem k113_18 : mj_look (mj_prog 113) 18 = some (.if_icmp .eq 12, 3, 30, 0) := by decide +kernel
theorem k113_21 : mj_look (mj_prog 113) 21 = some (.iload_n 3, 1, 0, 0) := by decide +kernel
theorem k113_22 : mj_look (mj_prog 113) 22 = some (.bipush 24, 2, 0, 0) := by decide +kernel
theorem k113_24 : mj_look (mj_prog 113) 24 = some (.if_icmp .le 6, 3, 30, 0) := by decide +kernel
theorem k113_27 : mj_look (mj_prog 113) 27 = some (.ldc 96, 2, 3294967295, 0) := by decide +kernel
theorem k113_29 : mj_look (mj_prog 113) 29 = some (.ireturn, 1, 0, 0) := by decide +kernel
theorem k113_30 : mj_look (mj_prog 113) 30 = some (.iload_n 2, 1, 0, 0) := by decide +kernel
theorem k113_31 : mj_look (mj_prog 113) 31 = some (.iconst (-1), 1, 0, 0) := by decide +kernel
theorem k113_32 : mj_look (mj_prog 113) 32 = some (.if_icmp .eq 10, 3, 42, 0) := by decide +kernel
theorem k113_35 : mj_look (mj_prog 113) 35 = some (.iload_n 3, 1, 0, 0) := by decide +kernel
theorem k113_36 : mj_look (mj_prog 113) 36 = some (.ifCond .ge 6, 3, 42, 0) := by decide +kernel
theorem k113_39 : mj_look (mj_prog 113) 39 = some (.ldc 237, 2, 3294967282, 0) := by decide +kernel
theorem k113_41 : mj_look (mj_prog 113) 41 = some (.ireturn, 1, 0, 0) := by decide +kernel
theorem k113_42 : mj_look (mj_prog 113) 42 = some (.iload_n 2, 1, 0, 0) := by decide +kernel
theorem k113_43 : mj_look (mj_prog 113) 43 = some (.iconst (-1), 1, 0, 0) := by decide +kernel
theorem k113_44 : mj_look (mj_prog 113) 44 = some (.if_icmp .ne 7, 3, 51, 0) := by decide +kernel
theorem k113_47 : mj_look (mj_prog 113) 47 = some (.iconst 0, 1, 0, 0) := by decide +kernel
theorem k113_48 : mj_look (mj_prog 113) 48 = some (.goto 4, 3, 52, 0) := by decide +kernel
theorem k113_51 : mj_look (mj_prog 113) 51 = some (.iload_n 3, 1, 0, 0) := by decide +kernel
theorem k113_52 : mj_look (mj_prog 113) 52 = some (.istore 4, 2, 0, 0) := by decide +kernel
theorem k113_54 : mj_look (mj_prog 113) 54 = some (.aload_n 0, 1, 0, 0) := by decide +kernel
theorem k113_55 : mj_look (mj_prog 113) 55 = some (.getfield 65, 3, 11, 7) := by decide +kernel
theorem k113_58 : mj_look (mj_prog 113) 58 = some (.iload_n 1, 1, 0, 0) := by decide +kernel
theorem k113_59 : mj_look (mj_prog 113) 59 = some (.aaload, 1, 0, 0) := by decide +kernel
theorem k113_60 : mj_look (mj_prog 113) 60 = some (.iload_n 2, 1, 0, 0) := by decide +kernel
theorem k113_61 : mj_look (mj_prog 113) 61 = some (.iload 4, 2, 0, 0) := by decide +kernel
theorem k113_63 : mj_look (mj_prog 113) 63 = some (.invokevirtual 238, 3, 114, 2) := by decide +kernel
theorem k113_66 : mj_look (mj_prog 113) 66 = some (.iload 4, 2, 0, 0) := by decide +kernel
theorem k113_68 : mj_look (mj_prog 113) 68 = some (.ireturn, 1, 0, 0) := by decide +kernel
theorem mx_114 : (mj_m 114).2.2.1 = 4 := by decide +kernel
theorem rt_114 : (mj_m 114).2.2.2.1 = none := by decide +kernel
theorem dp_114 : mj_disp 114 7 = some 114 := by decide +kernel
theorem pq_114 : mj_prog 114 = mj_p114 := rfl
theorem k114_0 : mj_look (mj_prog 114) 0 = some (.aload_n 0, 1, 0, 0) := by decide +kernel
theorem k114_1 : mj_look (mj_prog 114) 1 = some (.iload_n 1, 1, 0, 0) := by decide +kernel
theorem k114_2 : mj_look (mj_prog 114) 2 = some (.putfield 15, 3, 7, 1) := by decide +kernel
theorem k114_5 : mj_look (mj_prog 114) 5 = some (.aload_n 0, 1, 0, 0) := by decide +kernel
theorem k114_6 : mj_look (mj_prog 114) 6 = some (.iload_n 2, 1, 0, 0) := by decide +kernel
theorem k114_7 : mj_look (mj_prog 114) 7 = some (.putfield 19, 3, 7, 2) := by decide +kernel
theorem k114_10 : mj_look (mj_prog 114) 10 = some (.iconst 0, 1, 0, 0) := by decide +kernel
theorem k114_11 : mj_look (mj_prog 114) 11 = some (.istore_n 3, 1, 0, 0) := by decide +kernel
theorem k114_12 : mj_look (mj_prog 114) 12 = some (.iload_n 3, 1, 0, 0) := by decide +kernel
theorem k114_13 : mj_look (mj_prog 114) 13 = some (.aload_n 0, 1, 0, 0) := by decide +kernel
theorem k114_14 : mj_look (mj_prog 114) 14 = some (.getfield 19, 3, 7, 2) := by decide +kernel
theorem k114_17 : mj_look (mj_prog 114) 17 = some (.if_icmp .ge 16, 3, 33, 0) := by decide +kernel
theorem k114_20 : mj_look (mj_prog 114) 20 = some (.aload_n 0, 1, 0, 0) := by decide +kernel
theorem k114_21 : mj_look (mj_prog 114) 21 = some (.getfield 9, 3, 7, 0) := by decide +kernel
theorem k114_24 : mj_look (mj_prog 114) 24 = some (.iload_n 3, 1, 0, 0) := by decide +kernel
theorem k114_25 : mj_look (mj_prog 114) 25 = some (.iconst 0, 1, 0, 0) := by decide +kernel
theorem k114_26 : mj_look (mj_prog 114) 26 = some (.iastore, 1, 0, 0) := by decide +kernel
theorem k114_27 : mj_look (mj_prog 114) 27 = some (.iinc 3 1, 3, 0, 0) := by decide +kernel
theorem k114_30 : mj_look (mj_prog 114) 30 = some (.goto (-18), 3, 12, 0) := by decide +kernel
theorem k114_33 : mj_look (mj_prog 114) 33 = some (.return_, 1, 0, 0) := by decide +kernel
theorem mx_115 : (mj_m 115).2.2.1 = 5 := by decide +kernel
theorem rt_115 : (mj_m 115).2.2.2.1 = (some FieldType.int) := by decide +kernel
theorem dp_115 : mj_disp 115 11 = some 115 := by decide +kernel
theorem pq_115 : mj_prog 115 = mj_p115 := rfl
theorem k115_0 : mj_look (mj_prog 115) 0 = some (.iload_n 1, 1, 0, 0) := by decide +kernel
theorem k115_1 : mj_look (mj_prog 115) 1 = some (.invokestatic 197, 3, 84, 1) := by decide +kernel
theorem k115_4 : mj_look (mj_prog 115) 4 = some (.ifCond .ne 6, 3, 10, 0) := by decide +kernel
theorem k115_7 : mj_look (mj_prog 115) 7 = some (.ldc 96, 2, 3294967295, 0) := by decide +kernel
theorem k115_9 : mj_look (mj_prog 115) 9 = some (.ireturn, 1, 0, 0) := by decide +kernel
theorem k115_10 : mj_look (mj_prog 115) 10 = some (.aload_n 0, 1, 0, 0) := by decide +kernel
theorem k115_11 : mj_look (mj_prog 115) 11 = some (.getfield 65, 3, 11, 7) := by decide +kernel
theorem k115_14 : mj_look (mj_prog 115) 14 = some (.iload_n 1, 1, 0, 0) := by decide +kernel
theorem k115_15 : mj_look (mj_prog 115) 15 = some (.aaload, 1, 0, 0) := by decide +kernel
theorem k115_16 : mj_look (mj_prog 115) 16 = some (.astore 4, 2, 0, 0) := by decide +kernel
theorem k115_18 : mj_look (mj_prog 115) 18 = some (.aload 4, 2, 0, 0) := by decide +kernel
theorem k115_20 : mj_look (mj_prog 115) 20 = some (.invokevirtual 200, 3, 85, 0) := by decide +kernel
theorem k115_23 : mj_look (mj_prog 115) 23 = some (.ifCond .eq 6, 3, 29, 0) := by decide +kernel
theorem k115_26 : mj_look (mj_prog 115) 26 = some (.ldc 204, 2, 3294967285, 0) := by decide +kernel
theorem k115_28 : mj_look (mj_prog 115) 28 = some (.ireturn, 1, 0, 0) := by decide +kernel
theorem k115_29 : mj_look (mj_prog 115) 29 = some (.aload 4, 2, 0, 0) := by decide +kernel
theorem k115_31 : mj_look (mj_prog 115) 31 = some (.iload_n 2, 1, 0, 0) := by decide +kernel
theorem k115_32 : mj_look (mj_prog 115) 32 = some (.iconst 1, 1, 0, 0) := by decide +kernel
theorem k115_33 : mj_look (mj_prog 115) 33 = some (.invokevirtual 241, 3, 116, 2) := by decide +kernel
theorem k115_36 : mj_look (mj_prog 115) 36 = some (.ifCond .ne 6, 3, 42, 0) := by decide +kernel
theorem k115_39 : mj_look (mj_prog 115) 39 = some (.ldc 244, 2, 3294967283, 0) := by decide +kernel
theorem k115_41 : mj_look (mj_prog 115) 41 = some (.ireturn, 1, 0, 0) := by decide +kernel
theorem k115_42 : mj_look (mj_prog 115) 42 = some (.aload 4, 2, 0, 0) := by decide +kernel
theorem k115_44 : mj_look (mj_prog 115) 44 = some (.getfield 245, 3, 7, 1) := by decide +kernel
theorem k115_47 : mj_look (mj_prog 115) 47 = some (.ifCond .ne 12, 3, 59, 0) := by decide +kernel
theorem k115_50 : mj_look (mj_prog 115) 50 = some (.iload_n 3, 1, 0, 0) := by decide +kernel
theorem k115_51 : mj_look (mj_prog 115) 51 = some (.ldc 179, 2, 3294967291, 0) := by decide +kernel
theorem k115_53 : mj_look (mj_prog 115) 53 = some (.if_icmp .ne 6, 3, 59, 0) := by decide +kernel
theorem k115_56 : mj_look (mj_prog 115) 56 = some (.ldc 140, 2, 3294967284, 0) := by decide +kernel
theorem k115_58 : mj_look (mj_prog 115) 58 = some (.ireturn, 1, 0, 0) := by decide +kernel
theorem k115_59 : mj_look (mj_prog 115) 59 = some (.aload 4, 2, 0, 0) := by decide +kernel
theorem k115_61 : mj_look (mj_prog 115) 61 = some (.getfield 245, 3, 7, 1) := by decide +kernel
theorem k115_64 : mj_look (mj_prog 115) 64 = some (.iconst 1, 1, 0, 0) := by decide +kernel
theorem k115_65 : mj_look (mj_prog 115) 65 = some (.if_icmp .ne 23, 3, 88, 0) := by decide +kernel
theorem k115_68 : mj_look (mj_prog 115) 68 = some (.iload_n 3, 1, 0, 0) := by decide +kernel
theorem k115_69 : mj_look (mj_prog 115) 69 = some (.ldc 179, 2, 3294967291, 0) := by decide +kernel
theorem k115_71 : mj_look (mj_prog 115) 71 = some (.if_icmp .eq 17, 3, 88, 0) := by decide +kernel
theorem k115_74 : mj_look (mj_prog 115) 74 = some (.iload_n 3, 1, 0, 0) := by decide +kernel
theorem k115_75 : mj_look (mj_prog 115) 75 = some (.ldc 248, 2, 4294867297, 0) := by decide +kernel
theorem k115_77 : mj_look (mj_prog 115) 77 = some (.ldc 249, 2, 99999, 0) := by decide +kernel
theorem k115_79 : mj_look (mj_prog 115) 79 = some (.invokestatic 141, 3, 16, 3) := by decide +kernel
theorem k115_82 : mj_look (mj_prog 115) 82 = some (.ifCond .ne 6, 3, 88, 0) := by decide +kernel
theorem k115_85 : mj_look (mj_prog 115) 85 = some (.ldc 96, 2, 3294967295, 0) := by decide +kernel
theorem k115_87 : mj_look (mj_prog 115) 87 = some (.ireturn, 1, 0, 0) := by decide +kernel
theorem k115_88 : mj_look (mj_prog 115) 88 = some (.aload 4, 2, 0, 0) := by decide +kernel
theorem k115_90 : mj_look (mj_prog 115) 90 = some (.getfield 250, 3, 7, 0) := by decide +kernel
theorem k115_93 : mj_look (mj_prog 115) 93 = some (.iload_n 2, 1, 0, 0) := by decide +kernel
theorem k115_94 : mj_look (mj_prog 115) 94 = some (.aload 4, 2, 0, 0) := by decide +kernel
theorem k115_96 : mj_look (mj_prog 115) 96 = some (.getfield 245, 3, 7, 1) := by decide +kernel
theorem k115_99 : mj_look (mj_prog 115) 99 = some (.ifCond .ne 8, 3, 107, 0) := by decide +kernel
theorem k115_102 : mj_look (mj_prog 115) 102 = some (.iload_n 3, 1, 0, 0) := by decide +kernel
theorem k115_103 : mj_look (mj_prog 115) 103 = some (.i2s, 1, 0, 0) := by decide +kernel
theorem k115_104 : mj_look (mj_prog 115) 104 = some (.goto 4, 3, 108, 0) := by decide +kernel
theorem k115_107 : mj_look (mj_prog 115) 107 = some (.iload_n 3, 1, 0, 0) := by decide +kernel
theorem k115_108 : mj_look (mj_prog 115) 108 = some (.iastore, 1, 0, 0) := by decide +kernel
theorem k115_109 : mj_look (mj_prog 115) 109 = some (.iconst 1, 1, 0, 0) := by decide +kernel
theorem k115_110 : mj_look (mj_prog 115) 110 = some (.ireturn, 1, 0, 0) := by decide +kernel
theorem mx_116 : (mj_m 116).2.2.1 = 3 := by decide +kernel
theorem rt_116 : (mj_m 116).2.2.2.1 = (some FieldType.boolean) := by decide +kernel
theorem dp_116 : mj_disp 116 7 = some 116 := by decide +kernel
theorem pq_116 : mj_prog 116 = mj_p116 := rfl
theorem k116_0 : mj_look (mj_prog 116) 0 = some (.iload_n 1, 1, 0, 0) := by decide +kernel
theorem k116_1 : mj_look (mj_prog 116) 1 = some (.ifCond .lt 29, 3, 30, 0) := by decide +kernel
theorem k116_4 : mj_look (mj_prog 116) 4 = some (.iload_n 2, 1, 0, 0) := by decide +kernel
theorem k116_5 : mj_look (mj_prog 116) 5 = some (.ifCond .lt 25, 3, 30, 0) := by decide +kernel
theorem k116_8 : mj_look (mj_prog 116) 8 = some (.iload_n 1, 1, 0, 0) := by decide +kernel
theorem k116_9 : mj_look (mj_prog 116) 9 = some (.aload_n 0, 1, 0, 0) := by decide +kernel
theorem k116_10 : mj_look (mj_prog 116) 10 = some (.getfield 19, 3, 7, 2) := by decide +kernel
theorem k116_13 : mj_look (mj_prog 116) 13 = some (.if_icmp .gt 17, 3, 30, 0) := by decide +kernel
theorem k116_16 : mj_look (mj_prog 116) 16 = some (.iload_n 2, 1, 0, 0) := by decide +kernel
theorem k116_17 : mj_look (mj_prog 116) 17 = some (.aload_n 0, 1, 0, 0) := by decide +kernel
theorem k116_18 : mj_look (mj_prog 116) 18 = some (.getfield 19, 3, 7, 2) := by decide +kernel
theorem k116_21 : mj_look (mj_prog 116) 21 = some (.iload_n 1, 1, 0, 0) := by decide +kernel
theorem k116_22 : mj_look (mj_prog 116) 22 = some (.isub, 1, 0, 0) := by decide +kernel
theorem k116_23 : mj_look (mj_prog 116) 23 = some (.if_icmp .gt 7, 3, 30, 0) := by decide +kernel
theorem k116_26 : mj_look (mj_prog 116) 26 = some (.iconst 1, 1, 0, 0) := by decide +kernel
theorem k116_27 : mj_look (mj_prog 116) 27 = some (.goto 4, 3, 31, 0) := by decide +kernel
theorem k116_30 : mj_look (mj_prog 116) 30 = some (.iconst 0, 1, 0, 0) := by decide +kernel
theorem k116_31 : mj_look (mj_prog 116) 31 = some (.ireturn, 1, 0, 0) := by decide +kernel
theorem mx_117 : (mj_m 117).2.2.1 = 6 := by decide +kernel
theorem rt_117 : (mj_m 117).2.2.2.1 = (some FieldType.int) := by decide +kernel
theorem dp_117 : mj_disp 117 11 = some 117 := by decide +kernel
theorem pq_117 : mj_prog 117 = mj_p117 := rfl
theorem k117_0 : mj_look (mj_prog 117) 0 = some (.iload_n 1, 1, 0, 0) := by decide +kernel
theorem k117_1 : mj_look (mj_prog 117) 1 = some (.invokestatic 197, 3, 84, 1) := by decide +kernel
theorem k117_4 : mj_look (mj_prog 117) 4 = some (.ifCond .ne 6, 3, 10, 0) := by decide +kernel
theorem k117_7 : mj_look (mj_prog 117) 7 = some (.ldc 96, 2, 3294967295, 0) := by decide +kernel
theorem k117_9 : mj_look (mj_prog 117) 9 = some (.ireturn, 1, 0, 0) := by decide +kernel
theorem k117_10 : mj_look (mj_prog 117) 10 = some (.aload_n 0, 1, 0, 0) := by decide +kernel
theorem k117_11 : mj_look (mj_prog 117) 11 = some (.getfield 65, 3, 11, 7) := by decide +kernel
theorem k117_14 : mj_look (mj_prog 117) 14 = some (.iload_n 1, 1, 0, 0) := by decide +kernel
theorem k117_15 : mj_look (mj_prog 117) 15 = some (.aaload, 1, 0, 0) := by decide +kernel
theorem k117_16 : mj_look (mj_prog 117) 16 = some (.astore_n 2, 1, 0, 0) := by decide +kernel
theorem k117_17 : mj_look (mj_prog 117) 17 = some (.aload_n 2, 1, 0, 0) := by decide +kernel
theorem k117_18 : mj_look (mj_prog 117) 18 = some (.invokevirtual 200, 3, 85, 0) := by decide +kernel
theorem k117_21 : mj_look (mj_prog 117) 21 = some (.ifCond .eq 6, 3, 27, 0) := by decide +kernel
theorem k117_24 : mj_look (mj_prog 117) 24 = some (.ldc 204, 2, 3294967285, 0) := by decide +kernel
theorem k117_26 : mj_look (mj_prog 117) 26 = some (.ireturn, 1, 0, 0) := by decide +kernel
theorem k117_27 : mj_look (mj_prog 117) 27 = some (.iconst 0, 1, 0, 0) := by decide +kernel
theorem k117_28 : mj_look (mj_prog 117) 28 = some (.istore_n 3, 1, 0, 0) := by decide +kernel
theorem k117_29 : mj_look (mj_prog 117) 29 = some (.iconst 0, 1, 0, 0) := by decide +kernel
theorem k117_30 : mj_look (mj_prog 117) 30 = some (.istore 4, 2, 0, 0) := by decide +kernel
theorem k117_32 : mj_look (mj_prog 117) 32 = some (.iload 4, 2, 0, 0) := by decide +kernel
theorem k117_34 : mj_look (mj_prog 117) 34 = some (.bipush 12, 2, 0, 0) := by decide +kernel
theorem k117_36 : mj_look (mj_prog 117) 36 = some (.if_icmp .ge 77, 3, 113, 0) := by decide +kernel
theorem k117_39 : mj_look (mj_prog 117) 39 = some (.iload 4, 2, 0, 0) := by decide +kernel
theorem k117_41 : mj_look (mj_prog 117) 41 = some (.aload_n 2, 1, 0, 0) := by decide +kernel
theorem k117_42 : mj_look (mj_prog 117) 42 = some (.getfield 253, 3, 7, 2) := by decide +kernel
theorem k117_45 : mj_look (mj_prog 117) 45 = some (.if_icmp .ge 68, 3, 113, 0) := by decide +kernel
theorem k117_48 : mj_look (mj_prog 117) 48 = some (.aload_n 2, 1, 0, 0) := by decide +kernel
theorem k117_49 : mj_look (mj_prog 117) 49 = some (.getfield 250, 3, 7, 0) := by decide +kernel
theorem k117_52 : mj_look (mj_prog 117) 52 = some (.iload 4, 2, 0, 0) := by decide +kernel
theorem k117_54 : mj_look (mj_prog 117) 54 = some (.iaload, 1, 0, 0) := by decide +kernel
theorem k117_55 : mj_look (mj_prog 117) 55 = some (.bipush (-9), 2, 0, 0) := by decide +kernel
theorem k117_57 : mj_look (mj_prog 117) 57 = some (.bipush 9, 2, 0, 0) := by decide +kernel
theorem k117_59 : mj_look (mj_prog 117) 59 = some (.invokestatic 256, 3, 25, 3) := by decide +kernel
theorem k117_62 : mj_look (mj_prog 117) 62 = some (.istore 5, 2, 0, 0) := by decide +kernel
theorem k117_64 : mj_look (mj_prog 117) 64 = some (.aload_n 2, 1, 0, 0) := by decide +kernel
theorem k117_65 : mj_look (mj_prog 117) 65 = some (.iload 4, 2, 0, 0) := by decide +kernel
theorem k117_67 : mj_look (mj_prog 117) 67 = some (.invokevirtual 259, 3, 87, 1) := by decide +kernel
theorem k117_70 : mj_look (mj_prog 117) 70 = some (.ifCond .eq 37, 3, 107, 0) := by decide +kernel
theorem k117_73 : mj_look (mj_prog 117) 73 = some (.aload_n 0, 1, 0, 0) := by decide +kernel
theorem k117_74 : mj_look (mj_prog 117) 74 = some (.getfield 49, 3, 11, 3) := by decide +kernel
theorem k117_77 : mj_look (mj_prog 117) 77 = some (.getfield 145, 3, 6, 2) := by decide +kernel
theorem k117_80 : mj_look (mj_prog 117) 80 = some (.iconst 0, 1, 0, 0) := by decide +kernel
theorem k117_81 : mj_look (mj_prog 117) 81 = some (.aaload, 1, 0, 0) := by decide +kernel
theorem k117_82 : mj_look (mj_prog 117) 82 = some (.iload 4, 2, 0, 0) := by decide +kernel
theorem k117_84 : mj_look (mj_prog 117) 84 = some (.iaload, 1, 0, 0) := by decide +kernel
theorem k117_85 : mj_look (mj_prog 117) 85 = some (.iload 5, 2, 0, 0) := by decide +kernel
theorem k117_87 : mj_look (mj_prog 117) 87 = some (.if_icmp .eq 20, 3, 107, 0) := by decide +kernel
theorem k117_90 : mj_look (mj_prog 117) 90 = some (.aload_n 0, 1, 0, 0) := by decide +kernel
theorem k117_91 : mj_look (mj_prog 117) 91 = some (.getfield 49, 3, 11, 3) := by decide +kernel
theorem k117_94 : mj_look (mj_prog 117) 94 = some (.getfield 145, 3, 6, 2) := by decide +kernel
theorem k117_97 : mj_look (mj_prog 117) 97 = some (.iconst 0, 1, 0, 0) := by decide +kernel
theorem k117_98 : mj_look (mj_prog 117) 98 = some (.aaload, 1, 0, 0) := by decide +kernel
theorem k117_99 : mj_look (mj_prog 117) 99 = some (.iload 4, 2, 0, 0) := by decide +kernel
theorem k117_101 : mj_look (mj_prog 117) 101 = some (.iload 5, 2, 0, 0) := by decide +kernel
theorem k117_103 : mj_look (mj_prog 117) 103 = some (.iastore, 1, 0, 0) := by decide +kernel
theorem k117_104 : mj_look (mj_prog 117) 104 = some (.iinc 3 1, 3, 0, 0) := by decide +kernel
theorem k117_107 : mj_look (mj_prog 117) 107 = some (.iinc 4 1, 3, 0, 0) := by decide +kernel
theorem k117_110 : mj_look (mj_prog 117) 110 = some (.goto (-78), 3, 32, 0) := by decide +kernel
theorem k117_113 : mj_look (mj_prog 117) 113 = some (.iload_n 3, 1, 0, 0) := by decide +kernel
theorem k117_114 : mj_look (mj_prog 117) 114 = some (.ireturn, 1, 0, 0) := by decide +kernel
theorem mx_118 : (mj_m 118).2.2.1 = 5 := by decide +kernel
theorem rt_118 : (mj_m 118).2.2.2.1 = (some FieldType.int) := by decide +kernel
theorem dp_118 : mj_disp 118 11 = some 118 := by decide +kernel
theorem pq_118 : mj_prog 118 = mj_p118 := rfl
theorem k118_0 : mj_look (mj_prog 118) 0 = some (.iload_n 1, 1, 0, 0) := by decide +kernel
theorem k118_1 : mj_look (mj_prog 118) 1 = some (.invokestatic 197, 3, 84, 1) := by decide +kernel
theorem k118_4 : mj_look (mj_prog 118) 4 = some (.ifCond .ne 6, 3, 10, 0) := by decide +kernel
theorem k118_7 : mj_look (mj_prog 118) 7 = some (.ldc 96, 2, 3294967295, 0) := by decide +kernel
theorem k118_9 : mj_look (mj_prog 118) 9 = some (.ireturn, 1, 0, 0) := by decide +kernel
theorem k118_10 : mj_look (mj_prog 118) 10 = some (.aload_n 0, 1, 0, 0) := by decide +kernel
theorem k118_11 : mj_look (mj_prog 118) 11 = some (.getfield 65, 3, 11, 7) := by decide +kernel
theorem k118_14 : mj_look (mj_prog 118) 14 = some (.iload_n 1, 1, 0, 0) := by decide +kernel
theorem k118_15 : mj_look (mj_prog 118) 15 = some (.aaload, 1, 0, 0) := by decide +kernel
theorem k118_16 : mj_look (mj_prog 118) 16 = some (.astore_n 2, 1, 0, 0) := by decide +kernel
theorem k118_17 : mj_look (mj_prog 118) 17 = some (.aload_n 2, 1, 0, 0) := by decide +kernel
theorem k118_18 : mj_look (mj_prog 118) 18 = some (.invokevirtual 200, 3, 85, 0) := by decide +kernel
theorem k118_21 : mj_look (mj_prog 118) 21 = some (.ifCond .eq 6, 3, 27, 0) := by decide +kernel
theorem k118_24 : mj_look (mj_prog 118) 24 = some (.ldc 204, 2, 3294967285, 0) := by decide +kernel
theorem k118_26 : mj_look (mj_prog 118) 26 = some (.ireturn, 1, 0, 0) := by decide +kernel
theorem k118_27 : mj_look (mj_prog 118) 27 = some (.iconst 0, 1, 0, 0) := by decide +kernel
theorem k118_28 : mj_look (mj_prog 118) 28 = some (.istore_n 3, 1, 0, 0) := by decide +kernel
theorem k118_29 : mj_look (mj_prog 118) 29 = some (.iload_n 3, 1, 0, 0) := by decide +kernel
theorem k118_30 : mj_look (mj_prog 118) 30 = some (.aload_n 2, 1, 0, 0) := by decide +kernel
theorem k118_31 : mj_look (mj_prog 118) 31 = some (.getfield 253, 3, 7, 2) := by decide +kernel
theorem k118_34 : mj_look (mj_prog 118) 34 = some (.if_icmp .ge 59, 3, 93, 0) := by decide +kernel
theorem k118_37 : mj_look (mj_prog 118) 37 = some (.aload_n 0, 1, 0, 0) := by decide +kernel
theorem k118_38 : mj_look (mj_prog 118) 38 = some (.iload_n 3, 1, 0, 0) := by decide +kernel
theorem k118_39 : mj_look (mj_prog 118) 39 = some (.invokevirtual 105, 3, 19, 1) := by decide +kernel
theorem k118_42 : mj_look (mj_prog 118) 42 = some (.ifCond .eq 27, 3, 69, 0) := by decide +kernel
theorem k118_45 : mj_look (mj_prog 118) 45 = some (.aload_n 2, 1, 0, 0) := by decide +kernel
theorem k118_46 : mj_look (mj_prog 118) 46 = some (.getfield 250, 3, 7, 0) := by decide +kernel
theorem k118_49 : mj_look (mj_prog 118) 49 = some (.iload_n 3, 1, 0, 0) := by decide +kernel
theorem k118_50 : mj_look (mj_prog 118) 50 = some (.iaload, 1, 0, 0) := by decide +kernel
theorem k118_51 : mj_look (mj_prog 118) 51 = some (.aload_n 0, 1, 0, 0) := by decide +kernel
theorem k118_52 : mj_look (mj_prog 118) 52 = some (.getfield 49, 3, 11, 3) := by decide +kernel
theorem k118_55 : mj_look (mj_prog 118) 55 = some (.getfield 108, 3, 6, 3) := by decide +kernel
theorem k118_58 : mj_look (mj_prog 118) 58 = some (.iconst 1, 1, 0, 0) := by decide +kernel
theorem k118_59 : mj_look (mj_prog 118) 59 = some (.aaload, 1, 0, 0) := by decide +kernel
theorem k118_60 : mj_look (mj_prog 118) 60 = some (.iload_n 3, 1, 0, 0) := by decide +kernel
theorem k118_61 : mj_look (mj_prog 118) 61 = some (.iaload, 1, 0, 0) := by decide +kernel
theorem k118_62 : mj_look (mj_prog 118) 62 = some (.if_icmp .ne 7, 3, 69, 0) := by decide +kernel
theorem k118_65 : mj_look (mj_prog 118) 65 = some (.iconst 1, 1, 0, 0) := by decide +kernel
theorem k118_66 : mj_look (mj_prog 118) 66 = some (.goto 4, 3, 70, 0) := by decide +kernel
theorem k118_69 : mj_look (mj_prog 118) 69 = some (.iconst 0, 1, 0, 0) := by decide +kernel
theorem k118_70 : mj_look (mj_prog 118) 70 = some (.istore 4, 2, 0, 0) := by decide +kernel
theorem k118_72 : mj_look (mj_prog 118) 72 = some (.aload_n 2, 1, 0, 0) := by decide +kernel
theorem k118_73 : mj_look (mj_prog 118) 73 = some (.iload_n 3, 1, 0, 0) := by decide +kernel
theorem k118_74 : mj_look (mj_prog 118) 74 = some (.invokevirtual 259, 3, 87, 1) := by decide +kernel
theorem k118_77 : mj_look (mj_prog 118) 77 = some (.ifCond .eq 10, 3, 87, 0) := by decide +kernel
theorem k118_80 : mj_look (mj_prog 118) 80 = some (.iload 4, 2, 0, 0) := by decide +kernel
theorem k118_82 : mj_look (mj_prog 118) 82 = some (.ifCond .ne 5, 3, 87, 0) := by decide +kernel
theorem k118_85 : mj_look (mj_prog 118) 85 = some (.iload_n 3, 1, 0, 0) := by decide +kernel
theorem k118_86 : mj_look (mj_prog 118) 86 = some (.ireturn, 1, 0, 0) := by decide +kernel
theorem k118_87 : mj_look (mj_prog 118) 87 = some (.iinc 3 1, 3, 0, 0) := by decide +kernel
theorem k118_90 : mj_look (mj_prog 118) 90 = some (.goto (-61), 3, 29, 0) := by decide +kernel
theorem k118_93 : mj_look (mj_prog 118) 93 = some (.ldc 179, 2, 3294967291, 0) := by decide +kernel
theorem k118_95 : mj_look (mj_prog 118) 95 = some (.ireturn, 1, 0, 0) := by decide +kernel
theorem mx_119 : (mj_m 119).2.2.1 = 8 := by decide +kernel
theorem rt_119 : (mj_m 119).2.2.2.1 = (some FieldType.int) := by decide +kernel
theorem dp_119 : mj_disp 119 11 = some 119 := by decide +kernel
theorem pq_119 : mj_prog 119 = mj_p119 := rfl
theorem k119_0 : mj_look (mj_prog 119) 0 = some (.iload_n 1, 1, 0, 0) := by decide +kernel
theorem k119_1 : mj_look (mj_prog 119) 1 = some (.invokestatic 197, 3, 84, 1) := by decide +kernel
theorem k119_4 : mj_look (mj_prog 119) 4 = some (.ifCond .eq 10, 3, 14, 0) := by decide +kernel
theorem k119_7 : mj_look (mj_prog 119) 7 = some (.iload_n 3, 1, 0, 0) := by decide +kernel
theorem k119_8 : mj_look (mj_prog 119) 8 = some (.invokestatic 197, 3, 84, 1) := by decide +kernel
theorem k119_11 : mj_look (mj_prog 119) 11 = some (.ifCond .ne 6, 3, 17, 0) := by decide +kernel
theorem k119_14 : mj_look (mj_prog 119) 14 = some (.ldc 96, 2, 3294967295, 0) := by decide +kernel
theorem k119_16 : mj_look (mj_prog 119) 16 = some (.ireturn, 1, 0, 0) := by decide +kernel
theorem k119_17 : mj_look (mj_prog 119) 17 = some (.aload_n 0, 1, 0, 0) := by decide +kernel
theorem k119_18 : mj_look (mj_prog 119) 18 = some (.getfield 65, 3, 11, 7) := by decide +kernel
theorem k119_21 : mj_look (mj_prog 119) 21 = some (.iload_n 1, 1, 0, 0) := by decide +kernel
theorem k119_22 : mj_look (mj_prog 119) 22 = some (.aaload, 1, 0, 0) := by decide +kernel
theorem k119_23 : mj_look (mj_prog 119) 23 = some (.astore 6, 2, 0, 0) := by decide +kernel
theorem k119_25 : mj_look (mj_prog 119) 25 = some (.aload_n 0, 1, 0, 0) := by decide +kernel
theorem k119_26 : mj_look (mj_prog 119) 26 = some (.getfield 65, 3, 11, 7) := by decide +kernel
theorem k119_29 : mj_look (mj_prog 119) 29 = some (.iload_n 3, 1, 0, 0) := by decide +kernel
theorem k119_30 : mj_look (mj_prog 119) 30 = some (.aaload, 1, 0, 0) := by decide +kernel
theorem k119_31 : mj_look (mj_prog 119) 31 = some (.astore 7, 2, 0, 0) := by decide +kernel
theorem k119_33 : mj_look (mj_prog 119) 33 = some (.aload 6, 2, 0, 0) := by decide +kernel
theorem k119_35 : mj_look (mj_prog 119) 35 = some (.invokevirtual 200, 3, 85, 0) := by decide +kernel
theorem k119_38 : mj_look (mj_prog 119) 38 = some (.ifCond .ne 11, 3, 49, 0) := by decide +kernel
theorem k119_41 : mj_look (mj_prog 119) 41 = some (.aload 7, 2, 0, 0) := by decide +kernel
theorem k119_43 : mj_look (mj_prog 119) 43 = some (.invokevirtual 200, 3, 85, 0) := by decide +kernel
theorem k119_46 : mj_look (mj_prog 119) 46 = some (.ifCond .eq 6, 3, 52, 0) := by decide +kernel
theorem k119_49 : mj_look (mj_prog 119) 49 = some (.ldc 204, 2, 3294967285, 0) := by decide +kernel
theorem k119_51 : mj_look (mj_prog 119) 51 = some (.ireturn, 1, 0, 0) := by decide +kernel
theorem k119_52 : mj_look (mj_prog 119) 52 = some (.aload 6, 2, 0, 0) := by decide +kernel
theorem k119_54 : mj_look (mj_prog 119) 54 = some (.getfield 245, 3, 7, 1) := by decide +kernel
theorem k119_57 : mj_look (mj_prog 119) 57 = some (.aload 7, 2, 0, 0) := by decide +kernel
theorem k119_59 : mj_look (mj_prog 119) 59 = some (.getfield 245, 3, 7, 1) := by decide +kernel
theorem k119_62 : mj_look (mj_prog 119) 62 = some (.if_icmp .eq 6, 3, 68, 0) := by decide +kernel
theorem k119_65 : mj_look (mj_prog 119) 65 = some (.ldc 140, 2, 3294967284, 0) := by decide +kernel
theorem k119_67 : mj_look (mj_prog 119) 67 = some (.ireturn, 1, 0, 0) := by decide +kernel
theorem k119_68 : mj_look (mj_prog 119) 68 = some (.aload 6, 2, 0, 0) := by decide +kernel
theorem k119_70 : mj_look (mj_prog 119) 70 = some (.iload_n 2, 1, 0, 0) := by decide +kernel
theorem k119_71 : mj_look (mj_prog 119) 71 = some (.iload 5, 2, 0, 0) := by decide +kernel
theorem k119_73 : mj_look (mj_prog 119) 73 = some (.invokevirtual 241, 3, 116, 2) := by decide +kernel
theorem k119_76 : mj_look (mj_prog 119) 76 = some (.ifCond .eq 15, 3, 91, 0) := by decide +kernel
theorem k119_79 : mj_look (mj_prog 119) 79 = some (.aload 7, 2, 0, 0) := by decide +kernel
theorem k119_81 : mj_look (mj_prog 119) 81 = some (.iload 4, 2, 0, 0) := by decide +kernel
theorem k119_83 : mj_look (mj_prog 119) 83 = some (.iload 5, 2, 0, 0) := by decide +kernel
theorem k119_85 : mj_look (mj_prog 119) 85 = some (.invokevirtual 241, 3, 116, 2) := by decide +kernel
theorem k119_88 : mj_look (mj_prog 119) 88 = some (.ifCond .ne 6, 3, 94, 0) := by decide +kernel
theorem k119_91 : mj_look (mj_prog 119) 91 = some (.ldc 244, 2, 3294967283, 0) := by decide +kernel
theorem k119_93 : mj_look (mj_prog 119) 93 = some (.ireturn, 1, 0, 0) := by decide +kernel
theorem k119_94 : mj_look (mj_prog 119) 94 = some (.aload 6, 2, 0, 0) := by decide +kernel
theorem k119_96 : mj_look (mj_prog 119) 96 = some (.getfield 250, 3, 7, 0) := by decide +kernel
theorem k119_99 : mj_look (mj_prog 119) 99 = some (.iload_n 2, 1, 0, 0) := by decide +kernel
theorem k119_100 : mj_look (mj_prog 119) 100 = some (.aload 7, 2, 0, 0) := by decide +kernel
theorem k119_102 : mj_look (mj_prog 119) 102 = some (.getfield 250, 3, 7, 0) := by decide +kernel
theorem k119_105 : mj_look (mj_prog 119) 105 = some (.iload 4, 2, 0, 0) := by decide +kernel
theorem k119_107 : mj_look (mj_prog 119) 107 = some (.iload 5, 2, 0, 0) := by decide +kernel
theorem k119_109 : mj_look (mj_prog 119) 109 = some (.invokestatic 262, 3, 3001, 5) := by decide +kernel
theorem k119_112 : mj_look (mj_prog 119) 112 = some (.iload 5, 2, 0, 0) := by decide +kernel
theorem k119_114 : mj_look (mj_prog 119) 114 = some (.ireturn, 1, 0, 0) := by decide +kernel
theorem mx_120 : (mj_m 120).2.2.1 = 7 := by decide +kernel
theorem rt_120 : (mj_m 120).2.2.2.1 = (some FieldType.int) := by decide +kernel
theorem dp_120 : mj_disp 120 11 = some 120 := by decide +kernel
theorem pq_120 : mj_prog 120 = mj_p120 := rfl
theorem k120_0 : mj_look (mj_prog 120) 0 = some (.iload_n 2, 1, 0, 0) := by decide +kernel
theorem k120_1 : mj_look (mj_prog 120) 1 = some (.ifCond .eq 33, 3, 34, 0) := by decide +kernel
theorem k120_4 : mj_look (mj_prog 120) 4 = some (.iload_n 2, 1, 0, 0) := by decide +kernel
theorem k120_5 : mj_look (mj_prog 120) 5 = some (.iconst 3, 1, 0, 0) := by decide +kernel
theorem k120_6 : mj_look (mj_prog 120) 6 = some (.if_icmp .eq 28, 3, 34, 0) := by decide +kernel
theorem k120_9 : mj_look (mj_prog 120) 9 = some (.iload_n 2, 1, 0, 0) := by decide +kernel
theorem k120_10 : mj_look (mj_prog 120) 10 = some (.iconst 1, 1, 0, 0) := by decide +kernel
theorem k120_11 : mj_look (mj_prog 120) 11 = some (.if_icmp .ne 11, 3, 22, 0) := by decide +kernel
theorem k120_14 : mj_look (mj_prog 120) 14 = some (.aload_n 0, 1, 0, 0) := by decide +kernel
theorem k120_15 : mj_look (mj_prog 120) 15 = some (.iload_n 3, 1, 0, 0) := by decide +kernel
theorem k120_16 : mj_look (mj_prog 120) 16 = some (.invokevirtual 105, 3, 19, 1) := by decide +kernel
theorem k120_19 : mj_look (mj_prog 120) 19 = some (.ifCond .ne 15, 3, 34, 0) := by decide +kernel
theorem k120_22 : mj_look (mj_prog 120) 22 = some (.iload_n 2, 1, 0, 0) := by decide +kernel
theorem k120_23 : mj_look (mj_prog 120) 23 = some (.iconst 2, 1, 0, 0) := by decide +kernel
theorem k120_24 : mj_look (mj_prog 120) 24 = some (.if_icmp .ne 14, 3, 38, 0) := by decide +kernel
theorem k120_27 : mj_look (mj_prog 120) 27 = some (.iload_n 3, 1, 0, 0) := by decide +kernel
theorem k120_28 : mj_look (mj_prog 120) 28 = some (.invokestatic 197, 3, 84, 1) := by decide +kernel
theorem k120_31 : mj_look (mj_prog 120) 31 = some (.ifCond .eq 7, 3, 38, 0) := by decide +kernel
theorem k120_34 : mj_look (mj_prog 120) 34 = some (.iconst 1, 1, 0, 0) := by decide +kernel
theorem k120_35 : mj_look (mj_prog 120) 35 = some (.goto 4, 3, 39, 0) := by decide +kernel
theorem k120_38 : mj_look (mj_prog 120) 38 = some (.iconst 0, 1, 0, 0) := by decide +kernel
theorem k120_39 : mj_look (mj_prog 120) 39 = some (.istore 4, 2, 0, 0) := by decide +kernel
theorem k120_41 : mj_look (mj_prog 120) 41 = some (.iload_n 1, 1, 0, 0) := by decide +kernel
theorem k120_42 : mj_look (mj_prog 120) 42 = some (.invokestatic 268, 3, 121, 1) := by decide +kernel
theorem k120_45 : mj_look (mj_prog 120) 45 = some (.ifCond .eq 8, 3, 53, 0) := by decide +kernel
theorem k120_48 : mj_look (mj_prog 120) 48 = some (.iload 4, 2, 0, 0) := by decide +kernel
theorem k120_50 : mj_look (mj_prog 120) 50 = some (.ifCond .ne 6, 3, 56, 0) := by decide +kernel
theorem k120_53 : mj_look (mj_prog 120) 53 = some (.ldc 96, 2, 3294967295, 0) := by decide +kernel
theorem k120_55 : mj_look (mj_prog 120) 55 = some (.ireturn, 1, 0, 0) := by decide +kernel
theorem k120_56 : mj_look (mj_prog 120) 56 = some (.iload_n 2, 1, 0, 0) := by decide +kernel
theorem k120_57 : mj_look (mj_prog 120) 57 = some (.iconst 2, 1, 0, 0) := by decide +kernel
theorem k120_58 : mj_look (mj_prog 120) 58 = some (.if_icmp .ne 18, 3, 76, 0) := by decide +kernel
theorem k120_61 : mj_look (mj_prog 120) 61 = some (.aload_n 0, 1, 0, 0) := by decide +kernel
theorem k120_62 : mj_look (mj_prog 120) 62 = some (.getfield 65, 3, 11, 7) := by decide +kernel
theorem k120_65 : mj_look (mj_prog 120) 65 = some (.iload_n 3, 1, 0, 0) := by decide +kernel
theorem k120_66 : mj_look (mj_prog 120) 66 = some (.aaload, 1, 0, 0) := by decide +kernel
theorem k120_67 : mj_look (mj_prog 120) 67 = some (.invokevirtual 200, 3, 85, 0) := by decide +kernel
theorem k120_70 : mj_look (mj_prog 120) 70 = some (.ifCond .eq 6, 3, 76, 0) := by decide +kernel
theorem k120_73 : mj_look (mj_prog 120) 73 = some (.ldc 204, 2, 3294967285, 0) := by decide +kernel
theorem k120_75 : mj_look (mj_prog 120) 75 = some (.ireturn, 1, 0, 0) := by decide +kernel
theorem k120_76 : mj_look (mj_prog 120) 76 = some (.aload_n 0, 1, 0, 0) := by decide +kernel
theorem k120_77 : mj_look (mj_prog 120) 77 = some (.getfield 71, 3, 11, 8) := by decide +kernel
theorem k120_80 : mj_look (mj_prog 120) 80 = some (.iload_n 1, 1, 0, 0) := by decide +kernel
theorem k120_81 : mj_look (mj_prog 120) 81 = some (.aaload, 1, 0, 0) := by decide +kernel
theorem k120_82 : mj_look (mj_prog 120) 82 = some (.astore 5, 2, 0, 0) := by decide +kernel
theorem k120_84 : mj_look (mj_prog 120) 84 = some (.aload 5, 2, 0, 0) := by decide +kernel
theorem k120_86 : mj_look (mj_prog 120) 86 = some (.getfield 271, 3, 8, 0) := by decide +kernel
theorem k120_89 : mj_look (mj_prog 120) 89 = some (.istore 6, 2, 0, 0) := by decide +kernel
theorem k120_91 : mj_look (mj_prog 120) 91 = some (.aload 5, 2, 0, 0) := by decide +kernel
theorem k120_93 : mj_look (mj_prog 120) 93 = some (.iload_n 2, 1, 0, 0) := by decide +kernel
theorem k120_94 : mj_look (mj_prog 120) 94 = some (.putfield 271, 3, 8, 0) := by decide +kernel
theorem k120_97 : mj_look (mj_prog 120) 97 = some (.iload_n 2, 1, 0, 0) := by decide +kernel
theorem k120_98 : mj_look (mj_prog 120) 98 = some (.iconst 1, 1, 0, 0) := by decide +kernel
theorem k120_99 : mj_look (mj_prog 120) 99 = some (.if_icmp .ne 35, 3, 134, 0) := by decide +kernel
theorem k120_102 : mj_look (mj_prog 120) 102 = some (.aload 5, 2, 0, 0) := by decide +kernel
theorem k120_104 : mj_look (mj_prog 120) 104 = some (.aload_n 0, 1, 0, 0) := by decide +kernel
theorem k120_105 : mj_look (mj_prog 120) 105 = some (.getfield 49, 3, 11, 3) := by decide +kernel
theorem k120_108 : mj_look (mj_prog 120) 108 = some (.iload_n 3, 1, 0, 0) := by decide +kernel
theorem k120_109 : mj_look (mj_prog 120) 109 = some (.invokevirtual 123, 3, 24, 1) := by decide +kernel
theorem k120_112 : mj_look (mj_prog 120) 112 = some (.putfield 274, 3, 8, 1) := by decide +kernel
theorem k120_115 : mj_look (mj_prog 120) 115 = some (.aload 5, 2, 0, 0) := by decide +kernel
theorem k120_117 : mj_look (mj_prog 120) 117 = some (.aload_n 0, 1, 0, 0) := by decide +kernel
theorem k120_118 : mj_look (mj_prog 120) 118 = some (.getfield 49, 3, 11, 3) := by decide +kernel
theorem k120_121 : mj_look (mj_prog 120) 121 = some (.getfield 108, 3, 6, 3) := by decide +kernel
theorem k120_124 : mj_look (mj_prog 120) 124 = some (.iconst 2, 1, 0, 0) := by decide +kernel
theorem k120_125 : mj_look (mj_prog 120) 125 = some (.aaload, 1, 0, 0) := by decide +kernel
theorem k120_126 : mj_look (mj_prog 120) 126 = some (.iload_n 3, 1, 0, 0) := by decide +kernel
theorem k120_127 : mj_look (mj_prog 120) 127 = some (.iaload, 1, 0, 0) := by decide +kernel
theorem k120_128 : mj_look (mj_prog 120) 128 = some (.putfield 278, 3, 8, 2) := by decide +kernel
theorem k120_131 : mj_look (mj_prog 120) 131 = some (.goto 31, 3, 162, 0) := by decide +kernel
theorem k120_134 : mj_look (mj_prog 120) 134 = some (.iload_n 2, 1, 0, 0) := by decide +kernel
theorem k120_135 : mj_look (mj_prog 120) 135 = some (.iconst 2, 1, 0, 0) := by decide +kernel
theorem k120_136 : mj_look (mj_prog 120) 136 = some (.if_icmp .ne 20, 3, 156, 0) := by decide +kernel
theorem k120_139 : mj_look (mj_prog 120) 139 = some (.aload 5, 2, 0, 0) := by decide +kernel
theorem k120_141 : mj_look (mj_prog 120) 141 = some (.getfield 281, 3, 8, 3) := by decide +kernel
theorem k120_144 : mj_look (mj_prog 120) 144 = some (.aload_n 0, 1, 0, 0) := by decide +kernel
theorem k120_145 : mj_look (mj_prog 120) 145 = some (.getfield 65, 3, 11, 7) := by decide +kernel
theorem k120_148 : mj_look (mj_prog 120) 148 = some (.iload_n 3, 1, 0, 0) := by decide +kernel
theorem k120_149 : mj_look (mj_prog 120) 149 = some (.aaload, 1, 0, 0) := by decide +kernel
theorem k120_150 : mj_look (mj_prog 120) 150 = some (.invokevirtual 285, 3, 122, 1) := by decide +kernel
theorem k120_153 : mj_look (mj_prog 120) 153 = some (.goto 9, 3, 162, 0) := by decide +kernel
theorem k120_156 : mj_look (mj_prog 120) 156 = some (.aload 5, 2, 0, 0) := by decide +kernel
theorem k120_158 : mj_look (mj_prog 120) 158 = some (.iload_n 3, 1, 0, 0) := by decide +kernel
theorem k120_159 : mj_look (mj_prog 120) 159 = some (.putfield 288, 3, 8, 4) := by decide +kernel
theorem k120_162 : mj_look (mj_prog 120) 162 = some (.iload 6, 2, 0, 0) := by decide +kernel
theorem k120_164 : mj_look (mj_prog 120) 164 = some (.ireturn, 1, 0, 0) := by decide +kernel
theorem mx_121 : (mj_m 121).2.2.1 = 1 := by decide +kernel
theorem rt_121 : (mj_m 121).2.2.2.1 = (some FieldType.boolean) := by decide +kernel
theorem dp_121 : mj_disp 121 11 = some 121 := by decide +kernel
theorem pq_121 : mj_prog 121 = mj_p121 := rfl
theorem k121_0 : mj_look (mj_prog 121) 0 = some (.iload_n 0, 1, 0, 0) := by decide +kernel
theorem k121_1 : mj_look (mj_prog 121) 1 = some (.ifCond .lt 12, 3, 13, 0) := by decide +kernel
theorem k121_4 : mj_look (mj_prog 121) 4 = some (.iload_n 0, 1, 0, 0) := by decide +kernel
theorem k121_5 : mj_look (mj_prog 121) 5 = some (.iconst 5, 1, 0, 0) := by decide +kernel
theorem k121_6 : mj_look (mj_prog 121) 6 = some (.if_icmp .ge 7, 3, 13, 0) := by decide +kernel
theorem k121_9 : mj_look (mj_prog 121) 9 = some (.iconst 1, 1, 0, 0) := by decide +kernel
theorem k121_10 : mj_look (mj_prog 121) 10 = some (.goto 4, 3, 14, 0) := by decide +kernel
theorem k121_13 : mj_look (mj_prog 121) 13 = some (.iconst 0, 1, 0, 0) := by decide +kernel
theorem k121_14 : mj_look (mj_prog 121) 14 = some (.ireturn, 1, 0, 0) := by decide +kernel
theorem mx_122 : (mj_m 122).2.2.1 = 2 := by decide +kernel
theorem rt_122 : (mj_m 122).2.2.2.1 = none := by decide +kernel
theorem dp_122 : mj_disp 122 7 = some 122 := by decide +kernel
theorem pq_122 : mj_prog 122 = mj_p122 := rfl
theorem k122_0 : mj_look (mj_prog 122) 0 = some (.aload_n 0, 1, 0, 0) := by decide +kernel
theorem k122_1 : mj_look (mj_prog 122) 1 = some (.aload_n 1, 1, 0, 0) := by decide +kernel
theorem k122_2 : mj_look (mj_prog 122) 2 = some (.getfield 15, 3, 7, 1) := by decide +kernel
theorem k122_5 : mj_look (mj_prog 122) 5 = some (.putfield 15, 3, 7, 1) := by decide +kernel
theorem k122_8 : mj_look (mj_prog 122) 8 = some (.aload_n 0, 1, 0, 0) := by decide +kernel
theorem k122_9 : mj_look (mj_prog 122) 9 = some (.aload_n 1, 1, 0, 0) := by decide +kernel
theorem k122_10 : mj_look (mj_prog 122) 10 = some (.getfield 19, 3, 7, 2) := by decide +kernel
theorem k122_13 : mj_look (mj_prog 122) 13 = some (.putfield 19, 3, 7, 2) := by decide +kernel
theorem k122_16 : mj_look (mj_prog 122) 16 = some (.aload_n 1, 1, 0, 0) := by decide +kernel
theorem k122_17 : mj_look (mj_prog 122) 17 = some (.getfield 9, 3, 7, 0) := by decide +kernel
theorem k122_20 : mj_look (mj_prog 122) 20 = some (.iconst 0, 1, 0, 0) := by decide +kernel
theorem k122_21 : mj_look (mj_prog 122) 21 = some (.aload_n 0, 1, 0, 0) := by decide +kernel
theorem k122_22 : mj_look (mj_prog 122) 22 = some (.getfield 9, 3, 7, 0) := by decide +kernel
theorem k122_25 : mj_look (mj_prog 122) 25 = some (.iconst 0, 1, 0, 0) := by decide +kernel
theorem k122_26 : mj_look (mj_prog 122) 26 = some (.bipush 24, 2, 0, 0) := by decide +kernel
theorem k122_28 : mj_look (mj_prog 122) 28 = some (.invokestatic 23, 3, 3001, 5) := by decide +kernel
theorem k122_31 : mj_look (mj_prog 122) 31 = some (.return_, 1, 0, 0) := by decide +kernel
theorem mx_123 : (mj_m 123).2.2.1 = 4 := by decide +kernel
theorem rt_123 : (mj_m 123).2.2.2.1 = (some FieldType.int) := by decide +kernel
theorem dp_123 : mj_disp 123 11 = some 123 := by decide +kernel
theorem pq_123 : mj_prog 123 = mj_p123 := rfl
theorem k123_0 : mj_look (mj_prog 123) 0 = some (.iload_n 1, 1, 0, 0) := by decide +kernel
theorem k123_1 : mj_look (mj_prog 123) 1 = some (.invokestatic 268, 3, 121, 1) := by decide +kernel
theorem k123_4 : mj_look (mj_prog 123) 4 = some (.ifCond .eq 10, 3, 14, 0) := by decide +kernel
theorem k123_7 : mj_look (mj_prog 123) 7 = some (.iload_n 2, 1, 0, 0) := by decide +kernel
theorem k123_8 : mj_look (mj_prog 123) 8 = some (.invokestatic 86, 3, 13, 1) := by decide +kernel
theorem k123_11 : mj_look (mj_prog 123) 11 = some (.ifCond .ne 6, 3, 17, 0) := by decide +kernel
theorem k123_14 : mj_look (mj_prog 123) 14 = some (.ldc 96, 2, 3294967295, 0) := by decide +kernel
theorem k123_16 : mj_look (mj_prog 123) 16 = some (.ireturn, 1, 0, 0) := by decide +kernel
theorem k123_17 : mj_look (mj_prog 123) 17 = some (.aload_n 0, 1, 0, 0) := by decide +kernel
theorem k123_18 : mj_look (mj_prog 123) 18 = some (.getfield 71, 3, 11, 8) := by decide +kernel
theorem k123_21 : mj_look (mj_prog 123) 21 = some (.iload_n 1, 1, 0, 0) := by decide +kernel
theorem k123_22 : mj_look (mj_prog 123) 22 = some (.aaload, 1, 0, 0) := by decide +kernel
theorem k123_23 : mj_look (mj_prog 123) 23 = some (.astore_n 3, 1, 0, 0) := by decide +kernel
theorem k123_24 : mj_look (mj_prog 123) 24 = some (.aload_n 3, 1, 0, 0) := by decide +kernel
theorem k123_25 : mj_look (mj_prog 123) 25 = some (.getfield 271, 3, 8, 0) := by decide +kernel
theorem k123_28 : mj_look (mj_prog 123) 28 = some (.ifCond .ne 6, 3, 34, 0) := by decide +kernel
theorem k123_31 : mj_look (mj_prog 123) 31 = some (.ldc 204, 2, 3294967285, 0) := by decide +kernel
theorem k123_33 : mj_look (mj_prog 123) 33 = some (.ireturn, 1, 0, 0) := by decide +kernel
theorem k123_34 : mj_look (mj_prog 123) 34 = some (.aload_n 3, 1, 0, 0) := by decide +kernel
theorem k123_35 : mj_look (mj_prog 123) 35 = some (.getfield 271, 3, 8, 0) := by decide +kernel
theorem k123_38 : mj_look (mj_prog 123) 38 = some (.iconst 1, 1, 0, 0) := by decide +kernel
theorem k123_39 : mj_look (mj_prog 123) 39 = some (.if_icmp .ne 21, 3, 60, 0) := by decide +kernel
theorem k123_42 : mj_look (mj_prog 123) 42 = some (.aload_n 3, 1, 0, 0) := by decide +kernel
theorem k123_43 : mj_look (mj_prog 123) 43 = some (.getfield 274, 3, 8, 1) := by decide +kernel
theorem k123_46 : mj_look (mj_prog 123) 46 = some (.ifnull 14, 3, 60, 0) := by decide +kernel
theorem k123_49 : mj_look (mj_prog 123) 49 = some (.aload_n 3, 1, 0, 0) := by decide +kernel
theorem k123_50 : mj_look (mj_prog 123) 50 = some (.getfield 274, 3, 8, 1) := by decide +kernel
theorem k123_53 : mj_look (mj_prog 123) 53 = some (.iload_n 2, 1, 0, 0) := by decide +kernel
theorem k123_54 : mj_look (mj_prog 123) 54 = some (.invokevirtual 137, 3, 1000, 1) := by decide +kernel
theorem k123_57 : mj_look (mj_prog 123) 57 = some (.ifCond .ne 6, 3, 63, 0) := by decide +kernel
theorem k123_60 : mj_look (mj_prog 123) 60 = some (.ldc 140, 2, 3294967284, 0) := by decide +kernel
theorem k123_62 : mj_look (mj_prog 123) 62 = some (.ireturn, 1, 0, 0) := by decide +kernel
theorem k123_63 : mj_look (mj_prog 123) 63 = some (.aload_n 3, 1, 0, 0) := by decide +kernel
theorem k123_64 : mj_look (mj_prog 123) 64 = some (.getfield 274, 3, 8, 1) := by decide +kernel
theorem k123_67 : mj_look (mj_prog 123) 67 = some (.aload_n 3, 1, 0, 0) := by decide +kernel
theorem k123_68 : mj_look (mj_prog 123) 68 = some (.getfield 278, 3, 8, 2) := by decide +kernel
theorem k123_71 : mj_look (mj_prog 123) 71 = some (.invokevirtual 131, 3, 1003, 1) := by decide +kernel
theorem k123_74 : mj_look (mj_prog 123) 74 = some (.ireturn, 1, 0, 0) := by decide +kernel
theorem mx_124 : (mj_m 124).2.2.1 = 4 := by decide +kernel
theorem rt_124 : (mj_m 124).2.2.2.1 = (some FieldType.int) := by decide +kernel
theorem dp_124 : mj_disp 124 11 = some 124 := by decide +kernel
theorem pq_124 : mj_prog 124 = mj_p124 := rfl
theorem k124_0 : mj_look (mj_prog 124) 0 = some (.iload_n 1, 1, 0, 0) := by decide +kernel
theorem k124_1 : mj_look (mj_prog 124) 1 = some (.invokestatic 268, 3, 121, 1) := by decide +kernel
theorem k124_4 : mj_look (mj_prog 124) 4 = some (.ifCond .ne 6, 3, 10, 0) := by decide +kernel
theorem k124_7 : mj_look (mj_prog 124) 7 = some (.ldc 96, 2, 3294967295, 0) := by decide +kernel
theorem k124_9 : mj_look (mj_prog 124) 9 = some (.ireturn, 1, 0, 0) := by decide +kernel
theorem k124_10 : mj_look (mj_prog 124) 10 = some (.aload_n 0, 1, 0, 0) := by decide +kernel
theorem k124_11 : mj_look (mj_prog 124) 11 = some (.getfield 71, 3, 11, 8) := by decide +kernel
theorem k124_14 : mj_look (mj_prog 124) 14 = some (.iload_n 1, 1, 0, 0) := by decide +kernel
theorem k124_15 : mj_look (mj_prog 124) 15 = some (.aaload, 1, 0, 0) := by decide +kernel
theorem k124_16 : mj_look (mj_prog 124) 16 = some (.astore_n 3, 1, 0, 0) := by decide +kernel
theorem k124_17 : mj_look (mj_prog 124) 17 = some (.aload_n 3, 1, 0, 0) := by decide +kernel
theorem k124_18 : mj_look (mj_prog 124) 18 = some (.getfield 271, 3, 8, 0) := by decide +kernel
theorem k124_21 : mj_look (mj_prog 124) 21 = some (.ifCond .ne 6, 3, 27, 0) := by decide +kernel
theorem k124_24 : mj_look (mj_prog 124) 24 = some (.ldc 204, 2, 3294967285, 0) := by decide +kernel
theorem k124_26 : mj_look (mj_prog 124) 26 = some (.ireturn, 1, 0, 0) := by decide +kernel
theorem k124_27 : mj_look (mj_prog 124) 27 = some (.aload_n 3, 1, 0, 0) := by decide +kernel
theorem k124_28 : mj_look (mj_prog 124) 28 = some (.getfield 271, 3, 8, 0) := by decide +kernel
theorem k124_31 : mj_look (mj_prog 124) 31 = some (.iconst 2, 1, 0, 0) := by decide +kernel
theorem k124_32 : mj_look (mj_prog 124) 32 = some (.if_icmp .eq 6, 3, 38, 0) := by decide +kernel
theorem k124_35 : mj_look (mj_prog 124) 35 = some (.ldc 140, 2, 3294967284, 0) := by decide +kernel
theorem k124_37 : mj_look (mj_prog 124) 37 = some (.ireturn, 1, 0, 0) := by decide +kernel
theorem k124_38 : mj_look (mj_prog 124) 38 = some (.aload_n 3, 1, 0, 0) := by decide +kernel
theorem k124_39 : mj_look (mj_prog 124) 39 = some (.getfield 281, 3, 8, 3) := by decide +kernel
theorem k124_42 : mj_look (mj_prog 124) 42 = some (.iload_n 2, 1, 0, 0) := by decide +kernel
theorem k124_43 : mj_look (mj_prog 124) 43 = some (.iconst 1, 1, 0, 0) := by decide +kernel
theorem k124_44 : mj_look (mj_prog 124) 44 = some (.invokevirtual 241, 3, 116, 2) := by decide +kernel
theorem k124_47 : mj_look (mj_prog 124) 47 = some (.ifCond .ne 6, 3, 53, 0) := by decide +kernel
theorem k124_50 : mj_look (mj_prog 124) 50 = some (.ldc 244, 2, 3294967283, 0) := by decide +kernel
theorem k124_52 : mj_look (mj_prog 124) 52 = some (.ireturn, 1, 0, 0) := by decide +kernel
theorem k124_53 : mj_look (mj_prog 124) 53 = some (.aload_n 3, 1, 0, 0) := by decide +kernel
theorem k124_54 : mj_look (mj_prog 124) 54 = some (.getfield 281, 3, 8, 3) := by decide +kernel
theorem k124_57 : mj_look (mj_prog 124) 57 = some (.iload_n 2, 1, 0, 0) := by decide +kernel
theorem k124_58 : mj_look (mj_prog 124) 58 = some (.invokevirtual 259, 3, 87, 1) := by decide +kernel
theorem k124_61 : mj_look (mj_prog 124) 61 = some (.ifCond .eq 15, 3, 76, 0) := by decide +kernel
theorem k124_64 : mj_look (mj_prog 124) 64 = some (.aload_n 3, 1, 0, 0) := by decide +kernel
theorem k124_65 : mj_look (mj_prog 124) 65 = some (.getfield 281, 3, 8, 3) := by decide +kernel
theorem k124_68 : mj_look (mj_prog 124) 68 = some (.getfield 250, 3, 7, 0) := by decide +kernel
theorem k124_71 : mj_look (mj_prog 124) 71 = some (.iload_n 2, 1, 0, 0) := by decide +kernel
theorem k124_72 : mj_look (mj_prog 124) 72 = some (.iaload, 1, 0, 0) := by decide +kernel
theorem k124_73 : mj_look (mj_prog 124) 73 = some (.goto 5, 3, 78, 0) := by decide +kernel
theorem k124_76 : mj_look (mj_prog 124) 76 = some (.ldc 140, 2, 3294967284, 0) := by decide +kernel
theorem k124_78 : mj_look (mj_prog 124) 78 = some (.ireturn, 1, 0, 0) := by decide +kernel
theorem mx_125 : (mj_m 125).2.2.1 = 4 := by decide +kernel
theorem rt_125 : (mj_m 125).2.2.2.1 = (some FieldType.int) := by decide +kernel
theorem dp_125 : mj_disp 125 11 = some 125 := by decide +kernel
theorem pq_125 : mj_prog 125 = mj_p125 := rfl
theorem k125_0 : mj_look (mj_prog 125) 0 = some (.iload_n 1, 1, 0, 0) := by decide +kernel
theorem k125_1 : mj_look (mj_prog 125) 1 = some (.invokestatic 268, 3, 121, 1) := by decide +kernel
theorem k125_4 : mj_look (mj_prog 125) 4 = some (.ifCond .ne 6, 3, 10, 0) := by decide +kernel
theorem k125_7 : mj_look (mj_prog 125) 7 = some (.ldc 96, 2, 3294967295, 0) := by decide +kernel
theorem k125_9 : mj_look (mj_prog 125) 9 = some (.ireturn, 1, 0, 0) := by decide +kernel
theorem k125_10 : mj_look (mj_prog 125) 10 = some (.aload_n 0, 1, 0, 0) := by decide +kernel
theorem k125_11 : mj_look (mj_prog 125) 11 = some (.getfield 71, 3, 11, 8) := by decide +kernel
theorem k125_14 : mj_look (mj_prog 125) 14 = some (.iload_n 1, 1, 0, 0) := by decide +kernel
theorem k125_15 : mj_look (mj_prog 125) 15 = some (.aaload, 1, 0, 0) := by decide +kernel
theorem k125_16 : mj_look (mj_prog 125) 16 = some (.astore_n 3, 1, 0, 0) := by decide +kernel
theorem k125_17 : mj_look (mj_prog 125) 17 = some (.aload_n 3, 1, 0, 0) := by decide +kernel
theorem k125_18 : mj_look (mj_prog 125) 18 = some (.getfield 271, 3, 8, 0) := by decide +kernel
theorem k125_21 : mj_look (mj_prog 125) 21 = some (.ifCond .ne 6, 3, 27, 0) := by decide +kernel
theorem k125_24 : mj_look (mj_prog 125) 24 = some (.ldc 204, 2, 3294967285, 0) := by decide +kernel
theorem k125_26 : mj_look (mj_prog 125) 26 = some (.ireturn, 1, 0, 0) := by decide +kernel
theorem k125_27 : mj_look (mj_prog 125) 27 = some (.aload_n 3, 1, 0, 0) := by decide +kernel
theorem k125_28 : mj_look (mj_prog 125) 28 = some (.getfield 271, 3, 8, 0) := by decide +kernel
theorem k125_31 : mj_look (mj_prog 125) 31 = some (.iconst 3, 1, 0, 0) := by decide +kernel
theorem k125_32 : mj_look (mj_prog 125) 32 = some (.if_icmp .eq 6, 3, 38, 0) := by decide +kernel
theorem k125_35 : mj_look (mj_prog 125) 35 = some (.ldc 140, 2, 3294967284, 0) := by decide +kernel
theorem k125_37 : mj_look (mj_prog 125) 37 = some (.ireturn, 1, 0, 0) := by decide +kernel
theorem k125_38 : mj_look (mj_prog 125) 38 = some (.iload_n 2, 1, 0, 0) := by decide +kernel
theorem k125_39 : mj_look (mj_prog 125) 39 = some (.ifCond .ne 9, 3, 48, 0) := by decide +kernel
theorem k125_42 : mj_look (mj_prog 125) 42 = some (.ldc_w 291, 3, 3294967294, 0) := by decide +kernel
theorem k125_45 : mj_look (mj_prog 125) 45 = some (.goto 9, 3, 54, 0) := by decide +kernel
theorem k125_48 : mj_look (mj_prog 125) 48 = some (.aload_n 3, 1, 0, 0) := by decide +kernel
theorem k125_49 : mj_look (mj_prog 125) 49 = some (.getfield 288, 3, 8, 4) := by decide +kernel
theorem k125_52 : mj_look (mj_prog 125) 52 = some (.iload_n 2, 1, 0, 0) := by decide +kernel
theorem k125_53 : mj_look (mj_prog 125) 53 = some (.irem, 1, 0, 0) := by decide +kernel
theorem k125_54 : mj_look (mj_prog 125) 54 = some (.ireturn, 1, 0, 0) := by decide +kernel
theorem mx_126 : (mj_m 126).2.2.1 = 2 := by decide +kernel
theorem rt_126 : (mj_m 126).2.2.2.1 = (some FieldType.int) := by decide +kernel
theorem dp_126 : mj_disp 126 11 = some 126 := by decide +kernel
theorem pq_126 : mj_prog 126 = mj_p126 := rfl
theorem k126_0 : mj_look (mj_prog 126) 0 = some (.aload_n 0, 1, 0, 0) := by decide +kernel
theorem k126_1 : mj_look (mj_prog 126) 1 = some (.getfield 79, 3, 11, 10) := by decide +kernel
theorem k126_4 : mj_look (mj_prog 126) 4 = some (.bipush 60, 2, 0, 0) := by decide +kernel
theorem k126_6 : mj_look (mj_prog 126) 6 = some (.if_icmp .lt 6, 3, 12, 0) := by decide +kernel
theorem k126_9 : mj_look (mj_prog 126) 9 = some (.ldc 100, 2, 3294967293, 0) := by decide +kernel
theorem k126_11 : mj_look (mj_prog 126) 11 = some (.ireturn, 1, 0, 0) := by decide +kernel
theorem k126_12 : mj_look (mj_prog 126) 12 = some (.aload_n 0, 1, 0, 0) := by decide +kernel
theorem k126_13 : mj_look (mj_prog 126) 13 = some (.getfield 75, 3, 11, 9) := by decide +kernel
theorem k126_16 : mj_look (mj_prog 126) 16 = some (.aload_n 0, 1, 0, 0) := by decide +kernel
theorem k126_17 : mj_look (mj_prog 126) 17 = some (.getfield 79, 3, 11, 10) := by decide +kernel
theorem k126_20 : mj_look (mj_prog 126) 20 = some (.iload_n 1, 1, 0, 0) := by decide +kernel
theorem k126_21 : mj_look (mj_prog 126) 21 = some (.iastore, 1, 0, 0) := by decide +kernel
theorem k126_22 : mj_look (mj_prog 126) 22 = some (.aload_n 0, 1, 0, 0) := by decide +kernel
theorem k126_23 : mj_look (mj_prog 126) 23 = some (.dup, 1, 0, 0) := by decide +kernel
theorem k126_24 : mj_look (mj_prog 126) 24 = some (.getfield 79, 3, 11, 10) := by decide +kernel
theorem k126_27 : mj_look (mj_prog 126) 27 = some (.iconst 1, 1, 0, 0) := by decide +kernel
theorem k126_28 : mj_look (mj_prog 126) 28 = some (.iadd, 1, 0, 0) := by decide +kernel
theorem k126_29 : mj_look (mj_prog 126) 29 = some (.putfield 79, 3, 11, 10) := by decide +kernel
theorem k126_32 : mj_look (mj_prog 126) 32 = some (.aload_n 0, 1, 0, 0) := by decide +kernel
theorem k126_33 : mj_look (mj_prog 126) 33 = some (.getfield 79, 3, 11, 10) := by decide +kernel
theorem k126_36 : mj_look (mj_prog 126) 36 = some (.ireturn, 1, 0, 0) := by decide +kernel
theorem mx_127 : (mj_m 127).2.2.1 = 6 := by decide +kernel
theorem rt_127 : (mj_m 127).2.2.2.1 = (some FieldType.int) := by decide +kernel
theorem dp_127 : mj_disp 127 11 = some 127 := by decide +kernel
theorem pq_127 : mj_prog 127 = mj_p127 := rfl
theorem k127_0 : mj_look (mj_prog 127) 0 = some (.aload_n 0, 1, 0, 0) := by decide +kernel
theorem k127_1 : mj_look (mj_prog 127) 1 = some (.getfield 79, 3, 11, 10) := by decide +kernel
theorem k127_4 : mj_look (mj_prog 127) 4 = some (.istore_n 2, 1, 0, 0) := by decide +kernel
theorem k127_5 : mj_look (mj_prog 127) 5 = some (.aload_n 0, 1, 0, 0) := by decide +kernel
theorem k127_6 : mj_look (mj_prog 127) 6 = some (.iconst 0, 1, 0, 0) := by decide +kernel
theorem k127_7 : mj_look (mj_prog 127) 7 = some (.putfield 79, 3, 11, 10) := by decide +kernel
theorem k127_10 : mj_look (mj_prog 127) 10 = some (.iload_n 1, 1, 0, 0) := by decide +kernel
theorem k127_11 : mj_look (mj_prog 127) 11 = some (.iconst 1, 1, 0, 0) := by decide +kernel
theorem k127_12 : mj_look (mj_prog 127) 12 = some (.bipush 30, 2, 0, 0) := by decide +kernel
theorem k127_14 : mj_look (mj_prog 127) 14 = some (.invokestatic 141, 3, 16, 3) := by decide +kernel
theorem k127_17 : mj_look (mj_prog 127) 17 = some (.ifCond .ne 6, 3, 23, 0) := by decide +kernel
theorem k127_20 : mj_look (mj_prog 127) 20 = some (.ldc 96, 2, 3294967295, 0) := by decide +kernel
theorem k127_22 : mj_look (mj_prog 127) 22 = some (.ireturn, 1, 0, 0) := by decide +kernel
theorem k127_23 : mj_look (mj_prog 127) 23 = some (.aload_n 0, 1, 0, 0) := by decide +kernel
theorem k127_24 : mj_look (mj_prog 127) 24 = some (.getfield 59, 3, 11, 6) := by decide +kernel
theorem k127_27 : mj_look (mj_prog 127) 27 = some (.ifCond .ne 7, 3, 34, 0) := by decide +kernel
theorem k127_30 : mj_look (mj_prog 127) 30 = some (.ldc_w 291, 3, 3294967294, 0) := by decide +kernel
theorem k127_33 : mj_look (mj_prog 127) 33 = some (.ireturn, 1, 0, 0) := by decide +kernel
theorem k127_34 : mj_look (mj_prog 127) 34 = some (.aload_n 0, 1, 0, 0) := by decide +kernel
theorem k127_35 : mj_look (mj_prog 127) 35 = some (.getfield 53, 3, 11, 4) := by decide +kernel
theorem k127_38 : mj_look (mj_prog 127) 38 = some (.aload_n 0, 1, 0, 0) := by decide +kernel
theorem k127_39 : mj_look (mj_prog 127) 39 = some (.getfield 56, 3, 11, 5) := by decide +kernel
theorem k127_42 : mj_look (mj_prog 127) 42 = some (.invokevirtual 175, 3, 70, 1) := by decide +kernel
theorem k127_45 : mj_look (mj_prog 127) 45 = some (.iconst 2, 1, 0, 0) := by decide +kernel
theorem k127_46 : mj_look (mj_prog 127) 46 = some (.iload_n 1, 1, 0, 0) := by decide +kernel
theorem k127_47 : mj_look (mj_prog 127) 47 = some (.sipush 9999, 3, 0, 0) := by decide +kernel
theorem k127_50 : mj_look (mj_prog 127) 50 = some (.aload_n 0, 1, 0, 0) := by decide +kernel
theorem k127_51 : mj_look (mj_prog 127) 51 = some (.getfield 56, 3, 11, 5) := by decide +kernel
theorem k127_54 : mj_look (mj_prog 127) 54 = some (.getfield 165, 3, 6, 7) := by decide +kernel
theorem k127_57 : mj_look (mj_prog 127) 57 = some (.isub, 1, 0, 0) := by decide +kernel
theorem k127_58 : mj_look (mj_prog 127) 58 = some (.invokestatic 151, 3, 3006, 2) := by decide +kernel
theorem k127_61 : mj_look (mj_prog 127) 61 = some (.imul, 1, 0, 0) := by decide +kernel
theorem k127_62 : mj_look (mj_prog 127) 62 = some (.istore_n 3, 1, 0, 0) := by decide +kernel
theorem k127_63 : mj_look (mj_prog 127) 63 = some (.iconst 0, 1, 0, 0) := by decide +kernel
theorem k127_64 : mj_look (mj_prog 127) 64 = some (.istore 4, 2, 0, 0) := by decide +kernel
theorem k127_66 : mj_look (mj_prog 127) 66 = some (.iload 4, 2, 0, 0) := by decide +kernel
theorem k127_68 : mj_look (mj_prog 127) 68 = some (.iload_n 3, 1, 0, 0) := by decide +kernel
theorem k127_69 : mj_look (mj_prog 127) 69 = some (.if_icmp .ge 68, 3, 137, 0) := by decide +kernel
theorem k127_72 : mj_look (mj_prog 127) 72 = some (.iload 4, 2, 0, 0) := by decide +kernel
theorem k127_74 : mj_look (mj_prog 127) 74 = some (.iconst 2, 1, 0, 0) := by decide +kernel
theorem k127_75 : mj_look (mj_prog 127) 75 = some (.irem, 1, 0, 0) := by decide +kernel
theorem k127_76 : mj_look (mj_prog 127) 76 = some (.ifCond .ne 11, 3, 87, 0) := by decide +kernel
theorem k127_79 : mj_look (mj_prog 127) 79 = some (.aload_n 0, 1, 0, 0) := by decide +kernel
theorem k127_80 : mj_look (mj_prog 127) 80 = some (.getfield 53, 3, 11, 4) := by decide +kernel
theorem k127_83 : mj_look (mj_prog 127) 83 = some (.iconst 1, 1, 0, 0) := by decide +kernel
theorem k127_84 : mj_look (mj_prog 127) 84 = some (.invokevirtual 168, 3, 63, 1) := by decide +kernel
theorem k127_87 : mj_look (mj_prog 127) 87 = some (.aload_n 0, 1, 0, 0) := by decide +kernel
theorem k127_88 : mj_look (mj_prog 127) 88 = some (.getfield 53, 3, 11, 4) := by decide +kernel
theorem k127_91 : mj_look (mj_prog 127) 91 = some (.iload 4, 2, 0, 0) := by decide +kernel
theorem k127_93 : mj_look (mj_prog 127) 93 = some (.iconst 2, 1, 0, 0) := by decide +kernel
theorem k127_94 : mj_look (mj_prog 127) 94 = some (.irem, 1, 0, 0) := by decide +kernel
theorem k127_95 : mj_look (mj_prog 127) 95 = some (.ifCond .ne 7, 3, 102, 0) := by decide +kernel
theorem k127_98 : mj_look (mj_prog 127) 98 = some (.iconst 1, 1, 0, 0) := by decide +kernel
theorem k127_99 : mj_look (mj_prog 127) 99 = some (.goto 4, 3, 103, 0) := by decide +kernel
theorem k127_102 : mj_look (mj_prog 127) 102 = some (.iconst 3, 1, 0, 0) := by decide +kernel
theorem k127_103 : mj_look (mj_prog 127) 103 = some (.invokevirtual 162, 3, 62, 1) := by decide +kernel
theorem k127_106 : mj_look (mj_prog 127) 106 = some (.istore 5, 2, 0, 0) := by decide +kernel
theorem k127_108 : mj_look (mj_prog 127) 108 = some (.iload 4, 2, 0, 0) := by decide +kernel
theorem k127_110 : mj_look (mj_prog 127) 110 = some (.iload_n 2, 1, 0, 0) := by decide +kernel
theorem k127_111 : mj_look (mj_prog 127) 111 = some (.if_icmp .ge 15, 3, 126, 0) := by decide +kernel
theorem k127_114 : mj_look (mj_prog 127) 114 = some (.aload_n 0, 1, 0, 0) := by decide +kernel
theorem k127_115 : mj_look (mj_prog 127) 115 = some (.getfield 75, 3, 11, 9) := by decide +kernel
theorem k127_118 : mj_look (mj_prog 127) 118 = some (.iload 4, 2, 0, 0) := by decide +kernel
theorem k127_120 : mj_look (mj_prog 127) 120 = some (.iaload, 1, 0, 0) := by decide +kernel
theorem k127_121 : mj_look (mj_prog 127) 121 = some (.iload 5, 2, 0, 0) := by decide +kernel
theorem k127_123 : mj_look (mj_prog 127) 123 = some (.if_icmp .eq 8, 3, 131, 0) := by decide +kernel
theorem k127_126 : mj_look (mj_prog 127) 126 = some (.iconst 1, 1, 0, 0) := by decide +kernel
theorem k127_127 : mj_look (mj_prog 127) 127 = some (.iload 4, 2, 0, 0) := by decide +kernel
theorem k127_129 : mj_look (mj_prog 127) 129 = some (.iadd, 1, 0, 0) := by decide +kernel
theorem k127_130 : mj_look (mj_prog 127) 130 = some (.ireturn, 1, 0, 0) := by decide +kernel
theorem k127_131 : mj_look (mj_prog 127) 131 = some (.iinc 4 1, 3, 0, 0) := by decide +kernel
theorem k127_134 : mj_look (mj_prog 127) 134 = some (.goto (-68), 3, 66, 0) := by decide +kernel
theorem k127_137 : mj_look (mj_prog 127) 137 = some (.iload_n 2, 1, 0, 0) := by decide +kernel
theorem k127_138 : mj_look (mj_prog 127) 138 = some (.iload_n 3, 1, 0, 0) := by decide +kernel
theorem k127_139 : mj_look (mj_prog 127) 139 = some (.if_icmp .le 9, 3, 148, 0) := by decide +kernel
theorem k127_142 : mj_look (mj_prog 127) 142 = some (.iconst 1, 1, 0, 0) := by decide +kernel
theorem k127_143 : mj_look (mj_prog 127) 143 = some (.iload_n 3, 1, 0, 0) := by decide +kernel
theorem k127_144 : mj_look (mj_prog 127) 144 = some (.iadd, 1, 0, 0) := by decide +kernel
theorem k127_145 : mj_look (mj_prog 127) 145 = some (.goto 4, 3, 149, 0) := by decide +kernel
theorem k127_148 : mj_look (mj_prog 127) 148 = some (.iconst 0, 1, 0, 0) := by decide +kernel
theorem k127_149 : mj_look (mj_prog 127) 149 = some (.ireturn, 1, 0, 0) := by decide +kernel
theorem mx_128 : (mj_m 128).2.2.1 = 1 := by decide +kernel
theorem rt_128 : (mj_m 128).2.2.2.1 = (some FieldType.int) := by decide +kernel
theorem dp_128 : mj_disp 128 11 = some 128 := by decide +kernel
theorem pq_128 : mj_prog 128 = mj_p128 := rfl
theorem k128_0 : mj_look (mj_prog 128) 0 = some (.aload_n 0, 1, 0, 0) := by decide +kernel
theorem k128_1 : mj_look (mj_prog 128) 1 = some (.getfield 56, 3, 11, 5) := by decide +kernel
theorem k128_4 : mj_look (mj_prog 128) 4 = some (.aload_n 0, 1, 0, 0) := by decide +kernel
theorem k128_5 : mj_look (mj_prog 128) 5 = some (.getfield 49, 3, 11, 3) := by decide +kernel
theorem k128_8 : mj_look (mj_prog 128) 8 = some (.invokevirtual 175, 3, 70, 1) := by decide +kernel
theorem k128_11 : mj_look (mj_prog 128) 11 = some (.aload_n 0, 1, 0, 0) := by decide +kernel
theorem k128_12 : mj_look (mj_prog 128) 12 = some (.iconst 1, 1, 0, 0) := by decide +kernel
theorem k128_13 : mj_look (mj_prog 128) 13 = some (.putfield 59, 3, 11, 6) := by decide +kernel
theorem k128_16 : mj_look (mj_prog 128) 16 = some (.aload_n 0, 1, 0, 0) := by decide +kernel
theorem k128_17 : mj_look (mj_prog 128) 17 = some (.getfield 49, 3, 11, 3) := by decide +kernel
theorem k128_20 : mj_look (mj_prog 128) 20 = some (.getfield 97, 3, 6, 5) := by decide +kernel
theorem k128_23 : mj_look (mj_prog 128) 23 = some (.ireturn, 1, 0, 0) := by decide +kernel
theorem mx_129 : (mj_m 129).2.2.1 = 1 := by decide +kernel
theorem rt_129 : (mj_m 129).2.2.2.1 = (some FieldType.int) := by decide +kernel
theorem dp_129 : mj_disp 129 11 = some 129 := by decide +kernel
theorem pq_129 : mj_prog 129 = mj_p129 := rfl
theorem k129_0 : mj_look (mj_prog 129) 0 = some (.aload_n 0, 1, 0, 0) := by decide +kernel
theorem k129_1 : mj_look (mj_prog 129) 1 = some (.getfield 59, 3, 11, 6) := by decide +kernel
theorem k129_4 : mj_look (mj_prog 129) 4 = some (.ifCond .ne 7, 3, 11, 0) := by decide +kernel
theorem k129_7 : mj_look (mj_prog 129) 7 = some (.ldc_w 291, 3, 3294967294, 0) := by decide +kernel
theorem k129_10 : mj_look (mj_prog 129) 10 = some (.ireturn, 1, 0, 0) := by decide +kernel
theorem k129_11 : mj_look (mj_prog 129) 11 = some (.aload_n 0, 1, 0, 0) := by decide +kernel
theorem k129_12 : mj_look (mj_prog 129) 12 = some (.getfield 49, 3, 11, 3) := by decide +kernel
theorem k129_15 : mj_look (mj_prog 129) 15 = some (.aload_n 0, 1, 0, 0) := by decide +kernel
theorem k129_16 : mj_look (mj_prog 129) 16 = some (.getfield 56, 3, 11, 5) := by decide +kernel
theorem k129_19 : mj_look (mj_prog 129) 19 = some (.invokevirtual 175, 3, 70, 1) := by decide +kernel
theorem k129_22 : mj_look (mj_prog 129) 22 = some (.aload_n 0, 1, 0, 0) := by decide +kernel
theorem k129_23 : mj_look (mj_prog 129) 23 = some (.getfield 49, 3, 11, 3) := by decide +kernel
theorem k129_26 : mj_look (mj_prog 129) 26 = some (.getfield 97, 3, 6, 5) := by decide +kernel
theorem k129_29 : mj_look (mj_prog 129) 29 = some (.ireturn, 1, 0, 0) := by decide +kernel
theorem mx_130 : (mj_m 130).2.2.1 = 2 := by decide +kernel
theorem rt_130 : (mj_m 130).2.2.2.1 = (some FieldType.int) := by decide +kernel
theorem dp_130 : mj_disp 130 11 = some 130 := by decide +kernel
theorem pq_130 : mj_prog 130 = mj_p130 := rfl
theorem k130_0 : mj_look (mj_prog 130) 0 = some (.iload_n 1, 1, 0, 0) := by decide +kernel
theorem k130_1 : mj_look (mj_prog 130) 1 = some (.tableswitch 108 0 7 #[47, 55, 63, 71, 79, 87, 92, 100], 47, 0, 0) := by decide +kernel
theorem k130_48 : mj_look (mj_prog 130) 48 = some (.aload_n 0, 1, 0, 0) := by decide +kernel
theorem k130_49 : mj_look (mj_prog 130) 49 = some (.getfield 49, 3, 11, 3) := by decide +kernel
theorem k130_52 : mj_look (mj_prog 130) 52 = some (.getfield 97, 3, 6, 5) := by decide +kernel
theorem k130_55 : mj_look (mj_prog 130) 55 = some (.ireturn, 1, 0, 0) := by decide +kernel
theorem k130_56 : mj_look (mj_prog 130) 56 = some (.aload_n 0, 1, 0, 0) := by decide +kernel
theorem k130_57 : mj_look (mj_prog 130) 57 = some (.getfield 49, 3, 11, 3) := by decide +kernel
theorem k130_60 : mj_look (mj_prog 130) 60 = some (.getfield 165, 3, 6, 7) := by decide +kernel
theorem k130_63 : mj_look (mj_prog 130) 63 = some (.ireturn, 1, 0, 0) := by decide +kernel
theorem k130_64 : mj_look (mj_prog 130) 64 = some (.aload_n 0, 1, 0, 0) := by decide +kernel
theorem k130_65 : mj_look (mj_prog 130) 65 = some (.getfield 49, 3, 11, 3) := by decide +kernel
theorem k130_68 : mj_look (mj_prog 130) 68 = some (.getfield 148, 3, 6, 6) := by decide +kernel
theorem k130_71 : mj_look (mj_prog 130) 71 = some (.ireturn, 1, 0, 0) := by decide +kernel
theorem k130_72 : mj_look (mj_prog 130) 72 = some (.aload_n 0, 1, 0, 0) := by decide +kernel
theorem k130_73 : mj_look (mj_prog 130) 73 = some (.getfield 49, 3, 11, 3) := by decide +kernel
theorem k130_76 : mj_look (mj_prog 130) 76 = some (.invokevirtual 292, 3, 131, 0) := by decide +kernel
theorem k130_79 : mj_look (mj_prog 130) 79 = some (.ireturn, 1, 0, 0) := by decide +kernel
theorem k130_80 : mj_look (mj_prog 130) 80 = some (.aload_n 0, 1, 0, 0) := by decide +kernel
theorem k130_81 : mj_look (mj_prog 130) 81 = some (.getfield 49, 3, 11, 3) := by decide +kernel
theorem k130_84 : mj_look (mj_prog 130) 84 = some (.getfield 221, 3, 6, 9) := by decide +kernel
theorem k130_87 : mj_look (mj_prog 130) 87 = some (.ireturn, 1, 0, 0) := by decide +kernel
theorem k130_88 : mj_look (mj_prog 130) 88 = some (.aload_n 0, 1, 0, 0) := by decide +kernel
theorem k130_89 : mj_look (mj_prog 130) 89 = some (.getfield 79, 3, 11, 10) := by decide +kernel
theorem k130_92 : mj_look (mj_prog 130) 92 = some (.ireturn, 1, 0, 0) := by decide +kernel
theorem k130_93 : mj_look (mj_prog 130) 93 = some (.aload_n 0, 1, 0, 0) := by decide +kernel
theorem k130_94 : mj_look (mj_prog 130) 94 = some (.getfield 40, 3, 11, 2) := by decide +kernel
theorem k130_97 : mj_look (mj_prog 130) 97 = some (.getfield 215, 3, 9, 1) := by decide +kernel
theorem k130_100 : mj_look (mj_prog 130) 100 = some (.ireturn, 1, 0, 0) := by decide +kernel
theorem k130_101 : mj_look (mj_prog 130) 101 = some (.aload_n 0, 1, 0, 0) := by decide +kernel
theorem k130_102 : mj_look (mj_prog 130) 102 = some (.getfield 49, 3, 11, 3) := by decide +kernel
theorem k130_105 : mj_look (mj_prog 130) 105 = some (.getfield 159, 3, 6, 8) := by decide +kernel
theorem k130_108 : mj_look (mj_prog 130) 108 = some (.ireturn, 1, 0, 0) := by decide +kernel
theorem k130_109 : mj_look (mj_prog 130) 109 = some (.ldc 96, 2, 3294967295, 0) := by decide +kernel
theorem k130_111 : mj_look (mj_prog 130) 111 = some (.ireturn, 1, 0, 0) := by decide +kernel
theorem mx_131 : (mj_m 131).2.2.1 = 3 := by decide +kernel
theorem rt_131 : (mj_m 131).2.2.2.1 = (some FieldType.int) := by decide +kernel
theorem dp_131 : mj_disp 131 6 = some 131 := by decide +kernel
theorem pq_131 : mj_prog 131 = mj_p131 := rfl
theorem k131_0 : mj_look (mj_prog 131) 0 = some (.iconst 0, 1, 0, 0) := by decide +kernel
theorem k131_1 : mj_look (mj_prog 131) 1 = some (.istore_n 1, 1, 0, 0) := by decide +kernel
theorem k131_2 : mj_look (mj_prog 131) 2 = some (.iconst 0, 1, 0, 0) := by decide +kernel
theorem k131_3 : mj_look (mj_prog 131) 3 = some (.istore_n 2, 1, 0, 0) := by decide +kernel
theorem k131_4 : mj_look (mj_prog 131) 4 = some (.iload_n 2, 1, 0, 0) := by decide +kernel
theorem k131_5 : mj_look (mj_prog 131) 5 = some (.bipush 12, 2, 0, 0) := by decide +kernel
theorem k131_7 : mj_look (mj_prog 131) 7 = some (.if_icmp .ge 23, 3, 30, 0) := by decide +kernel
theorem k131_10 : mj_look (mj_prog 131) 10 = some (.aload_n 0, 1, 0, 0) := by decide +kernel
theorem k131_11 : mj_look (mj_prog 131) 11 = some (.getfield 11, 3, 6, 2) := by decide +kernel
theorem k131_14 : mj_look (mj_prog 131) 14 = some (.iconst 2, 1, 0, 0) := by decide +kernel
theorem k131_15 : mj_look (mj_prog 131) 15 = some (.aaload, 1, 0, 0) := by decide +kernel
theorem k131_16 : mj_look (mj_prog 131) 16 = some (.iload_n 2, 1, 0, 0) := by decide +kernel
theorem k131_17 : mj_look (mj_prog 131) 17 = some (.iaload, 1, 0, 0) := by decide +kernel
theorem k131_18 : mj_look (mj_prog 131) 18 = some (.ifCond .le 6, 3, 24, 0) := by decide +kernel
theorem k131_21 : mj_look (mj_prog 131) 21 = some (.iinc 1 1, 3, 0, 0) := by decide +kernel
theorem k131_24 : mj_look (mj_prog 131) 24 = some (.iinc 2 1, 3, 0, 0) := by decide +kernel
theorem k131_27 : mj_look (mj_prog 131) 27 = some (.goto (-23), 3, 4, 0) := by decide +kernel
theorem k131_30 : mj_look (mj_prog 131) 30 = some (.iload_n 1, 1, 0, 0) := by decide +kernel
theorem k131_31 : mj_look (mj_prog 131) 31 = some (.ireturn, 1, 0, 0) := by decide +kernel
theorem mx_132 : (mj_m 132).2.2.1 = 1 := by decide +kernel
theorem rt_132 : (mj_m 132).2.2.2.1 = none := by decide +kernel
theorem dp_132 : mj_disp 132 12 = some 132 := by decide +kernel
theorem pq_132 : mj_prog 132 = mj_p132 := rfl
theorem k132_0 : mj_look (mj_prog 132) 0 = some (.aload_n 0, 1, 0, 0) := by decide +kernel
theorem k132_1 : mj_look (mj_prog 132) 1 = some (.invokespecial 1, 3, 3000, 0) := by decide +kernel
theorem k132_4 : mj_look (mj_prog 132) 4 = some (.aload_n 0, 1, 0, 0) := by decide +kernel
theorem k132_5 : mj_look (mj_prog 132) 5 = some (.sipush 1481, 3, 0, 0) := by decide +kernel
theorem k132_8 : mj_look (mj_prog 132) 8 = some (.newarray .int, 2, 20, 0) := by decide +kernel
theorem k132_10 : mj_look (mj_prog 132) 10 = some (.putfield 9, 3, 12, 0) := by decide +kernel
theorem k132_13 : mj_look (mj_prog 132) 13 = some (.aload_n 0, 1, 0, 0) := by decide +kernel
theorem k132_14 : mj_look (mj_prog 132) 14 = some (.sipush 1481, 3, 0, 0) := by decide +kernel
theorem k132_17 : mj_look (mj_prog 132) 17 = some (.newarray .int, 2, 20, 0) := by decide +kernel
theorem k132_19 : mj_look (mj_prog 132) 19 = some (.putfield 13, 3, 12, 1) := by decide +kernel
theorem k132_22 : mj_look (mj_prog 132) 22 = some (.aload_n 0, 1, 0, 0) := by decide +kernel
theorem k132_23 : mj_look (mj_prog 132) 23 = some (.sipush 1481, 3, 0, 0) := by decide +kernel
theorem k132_26 : mj_look (mj_prog 132) 26 = some (.newarray .int, 2, 20, 0) := by decide +kernel
theorem k132_28 : mj_look (mj_prog 132) 28 = some (.putfield 16, 3, 12, 2) := by decide +kernel
theorem k132_31 : mj_look (mj_prog 132) 31 = some (.aload_n 0, 1, 0, 0) := by decide +kernel
theorem k132_32 : mj_look (mj_prog 132) 32 = some (.iconst (-1), 1, 0, 0) := by decide +kernel
theorem k132_33 : mj_look (mj_prog 132) 33 = some (.putfield 19, 3, 12, 4) := by decide +kernel
theorem k132_36 : mj_look (mj_prog 132) 36 = some (.aload_n 0, 1, 0, 0) := by decide +kernel
theorem k132_37 : mj_look (mj_prog 132) 37 = some (.bipush 109, 2, 0, 0) := by decide +kernel
theorem k132_39 : mj_look (mj_prog 132) 39 = some (.newarray .int, 2, 20, 0) := by decide +kernel
theorem k132_41 : mj_look (mj_prog 132) 41 = some (.putfield 23, 3, 12, 5) := by decide +kernel
theorem k132_44 : mj_look (mj_prog 132) 44 = some (.aload_n 0, 1, 0, 0) := by decide +kernel
theorem k132_45 : mj_look (mj_prog 132) 45 = some (.bipush 96, 2, 0, 0) := by decide +kernel
theorem k132_47 : mj_look (mj_prog 132) 47 = some (.newarray .int, 2, 20, 0) := by decide +kernel
theorem k132_49 : mj_look (mj_prog 132) 49 = some (.putfield 26, 3, 12, 6) := by decide +kernel
theorem k132_52 : mj_look (mj_prog 132) 52 = some (.aload_n 0, 1, 0, 0) := by decide +kernel
theorem k132_53 : mj_look (mj_prog 132) 53 = some (.bipush 11, 2, 0, 0) := by decide +kernel
theorem k132_55 : mj_look (mj_prog 132) 55 = some (.newarray .char, 2, 22, 0) := by decide +kernel
theorem k132_57 : mj_look (mj_prog 132) 57 = some (.dup, 1, 0, 0) := by decide +kernel
theorem k132_58 : mj_look (mj_prog 132) 58 = some (.iconst 0, 1, 0, 0) := by decide +kernel
theorem k132_59 : mj_look (mj_prog 132) 59 = some (.bipush 112, 2, 0, 0) := by decide +kernel
theorem k132_61 : mj_look (mj_prog 132) 61 = some (.castore, 1, 0, 0) := by decide +kernel
theorem k132_62 : mj_look (mj_prog 132) 62 = some (.dup, 1, 0, 0) := by decide +kernel
theorem k132_63 : mj_look (mj_prog 132) 63 = some (.iconst 1, 1, 0, 0) := by decide +kernel
theorem k132_64 : mj_look (mj_prog 132) 64 = some (.bipush 97, 2, 0, 0) := by decide +kernel
theorem k132_66 : mj_look (mj_prog 132) 66 = some (.castore, 1, 0, 0) := by decide +kernel
theorem k132_67 : mj_look (mj_prog 132) 67 = some (.dup, 1, 0, 0) := by decide +kernel
theorem k132_68 : mj_look (mj_prog 132) 68 = some (.iconst 2, 1, 0, 0) := by decide +kernel
theorem k132_69 : mj_look (mj_prog 132) 69 = some (.bipush 99, 2, 0, 0) := by decide +kernel
theorem k132_71 : mj_look (mj_prog 132) 71 = some (.castore, 1, 0, 0) := by decide +kernel
theorem k132_72 : mj_look (mj_prog 132) 72 = some (.dup, 1, 0, 0) := by decide +kernel
theorem k132_73 : mj_look (mj_prog 132) 73 = some (.iconst 3, 1, 0, 0) := by decide +kernel
theorem k132_74 : mj_look (mj_prog 132) 74 = some (.bipush 101, 2, 0, 0) := by decide +kernel
theorem k132_76 : mj_look (mj_prog 132) 76 = some (.castore, 1, 0, 0) := by decide +kernel
theorem k132_77 : mj_look (mj_prog 132) 77 = some (.dup, 1, 0, 0) := by decide +kernel
theorem k132_78 : mj_look (mj_prog 132) 78 = some (.iconst 4, 1, 0, 0) := by decide +kernel
theorem k132_79 : mj_look (mj_prog 132) 79 = some (.bipush 102, 2, 0, 0) := by decide +kernel
theorem k132_81 : mj_look (mj_prog 132) 81 = some (.castore, 1, 0, 0) := by decide +kernel
theorem k132_82 : mj_look (mj_prog 132) 82 = some (.dup, 1, 0, 0) := by decide +kernel
theorem k132_83 : mj_look (mj_prog 132) 83 = some (.iconst 5, 1, 0, 0) := by decide +kernel
theorem k132_84 : mj_look (mj_prog 132) 84 = some (.bipush 101, 2, 0, 0) := by decide +kernel
theorem k132_86 : mj_look (mj_prog 132) 86 = some (.castore, 1, 0, 0) := by decide +kernel
theorem k132_87 : mj_look (mj_prog 132) 87 = some (.dup, 1, 0, 0) := by decide +kernel
theorem k132_88 : mj_look (mj_prog 132) 88 = some (.bipush 6, 2, 0, 0) := by decide +kernel
theorem k132_90 : mj_look (mj_prog 132) 90 = some (.bipush 101, 2, 0, 0) := by decide +kernel
theorem k132_92 : mj_look (mj_prog 132) 92 = some (.castore, 1, 0, 0) := by decide +kernel
theorem k132_93 : mj_look (mj_prog 132) 93 = some (.dup, 1, 0, 0) := by decide +kernel
theorem k132_94 : mj_look (mj_prog 132) 94 = some (.bipush 7, 2, 0, 0) := by decide +kernel
theorem k132_96 : mj_look (mj_prog 132) 96 = some (.bipush 102, 2, 0, 0) := by decide +kernel
theorem k132_98 : mj_look (mj_prog 132) 98 = some (.castore, 1, 0, 0) := by decide +kernel
theorem k132_99 : mj_look (mj_prog 132) 99 = some (.dup, 1, 0, 0) := by decide +kernel
theorem k132_100 : mj_look (mj_prog 132) 100 = some (.bipush 8, 2, 0, 0) := by decide +kernel
theorem k132_102 : mj_look (mj_prog 132) 102 = some (.bipush 105, 2, 0, 0) := by decide +kernel
theorem k132_104 : mj_look (mj_prog 132) 104 = some (.castore, 1, 0, 0) := by decide +kernel
theorem k132_105 : mj_look (mj_prog 132) 105 = some (.dup, 1, 0, 0) := by decide +kernel
theorem k132_106 : mj_look (mj_prog 132) 106 = some (.bipush 9, 2, 0, 0) := by decide +kernel
theorem k132_108 : mj_look (mj_prog 132) 108 = some (.bipush 110, 2, 0, 0) := by decide +kernel
theorem k132_110 : mj_look (mj_prog 132) 110 = some (.castore, 1, 0, 0) := by decide +kernel
theorem k132_111 : mj_look (mj_prog 132) 111 = some (.dup, 1, 0, 0) := by decide +kernel
theorem k132_112 : mj_look (mj_prog 132) 112 = some (.bipush 10, 2, 0, 0) := by decide +kernel
theorem k132_114 : mj_look (mj_prog 132) 114 = some (.bipush 101, 2, 0, 0) := by decide +kernel
theorem k132_116 : mj_look (mj_prog 132) 116 = some (.castore, 1, 0, 0) := by decide +kernel
theorem k132_117 : mj_look (mj_prog 132) 117 = some (.putfield 29, 3, 12, 14) := by decide +kernel
theorem k132_120 : mj_look (mj_prog 132) 120 = some (.aload_n 0, 1, 0, 0) := by decide +kernel
theorem k132_121 : mj_look (mj_prog 132) 121 = some (.iconst 4, 1, 0, 0) := by decide +kernel
theorem k132_122 : mj_look (mj_prog 132) 122 = some (.newarray .int, 2, 20, 0) := by decide +kernel
theorem k132_124 : mj_look (mj_prog 132) 124 = some (.dup, 1, 0, 0) := by decide +kernel
theorem k132_125 : mj_look (mj_prog 132) 125 = some (.iconst 0, 1, 0, 0) := by decide +kernel
theorem k132_126 : mj_look (mj_prog 132) 126 = some (.iconst 0, 1, 0, 0) := by decide +kernel
theorem k132_127 : mj_look (mj_prog 132) 127 = some (.iastore, 1, 0, 0) := by decide +kernel
theorem k132_128 : mj_look (mj_prog 132) 128 = some (.dup, 1, 0, 0) := by decide +kernel
theorem k132_129 : mj_look (mj_prog 132) 129 = some (.iconst 1, 1, 0, 0) := by decide +kernel
theorem k132_130 : mj_look (mj_prog 132) 130 = some (.iconst 4, 1, 0, 0) := by decide +kernel
theorem k132_131 : mj_look (mj_prog 132) 131 = some (.iastore, 1, 0, 0) := by decide +kernel
theorem k132_132 : mj_look (mj_prog 132) 132 = some (.dup, 1, 0, 0) := by decide +kernel
theorem k132_133 : mj_look (mj_prog 132) 133 = some (.iconst 2, 1, 0, 0) := by decide +kernel
theorem k132_134 : mj_look (mj_prog 132) 134 = some (.bipush 7, 2, 0, 0) := by decide +kernel
theorem k132_136 : mj_look (mj_prog 132) 136 = some (.iastore, 1, 0, 0) := by decide +kernel
theorem k132_137 : mj_look (mj_prog 132) 137 = some (.dup, 1, 0, 0) := by decide +kernel
theorem k132_138 : mj_look (mj_prog 132) 138 = some (.iconst 3, 1, 0, 0) := by decide +kernel
theorem k132_139 : mj_look (mj_prog 132) 139 = some (.bipush 11, 2, 0, 0) := by decide +kernel
theorem k132_141 : mj_look (mj_prog 132) 141 = some (.iastore, 1, 0, 0) := by decide +kernel
theorem k132_142 : mj_look (mj_prog 132) 142 = some (.putfield 33, 3, 12, 15) := by decide +kernel
theorem k132_145 : mj_look (mj_prog 132) 145 = some (.aload_n 0, 1, 0, 0) := by decide +kernel
theorem k132_146 : mj_look (mj_prog 132) 146 = some (.bipush 96, 2, 0, 0) := by decide +kernel
theorem k132_148 : mj_look (mj_prog 132) 148 = some (.newarray .int, 2, 20, 0) := by decide +kernel
theorem k132_150 : mj_look (mj_prog 132) 150 = some (.putfield 36, 3, 12, 16) := by decide +kernel
theorem k132_153 : mj_look (mj_prog 132) 153 = some (.aload_n 0, 1, 0, 0) := by decide +kernel
theorem k132_154 : mj_look (mj_prog 132) 154 = some (.bipush 96, 2, 0, 0) := by decide +kernel
theorem k132_156 : mj_look (mj_prog 132) 156 = some (.newarray .int, 2, 20, 0) := by decide +kernel
theorem k132_158 : mj_look (mj_prog 132) 158 = some (.putfield 39, 3, 12, 19) := by decide +kernel
theorem k132_161 : mj_look (mj_prog 132) 161 = some (.aload_n 0, 1, 0, 0) := by decide +kernel
theorem k132_162 : mj_look (mj_prog 132) 162 = some (.bipush 10, 2, 0, 0) := by decide +kernel
theorem k132_164 : mj_look (mj_prog 132) 164 = some (.newarray .boolean, 2, 21, 0) := by decide +kernel
theorem k132_166 : mj_look (mj_prog 132) 166 = some (.putfield 42, 3, 12, 21) := by decide +kernel
theorem k132_169 : mj_look (mj_prog 132) 169 = some (.aload_n 0, 1, 0, 0) := by decide +kernel
theorem k132_170 : mj_look (mj_prog 132) 170 = some (.bipush 96, 2, 0, 0) := by decide +kernel
theorem k132_172 : mj_look (mj_prog 132) 172 = some (.newarray .int, 2, 20, 0) := by decide +kernel
theorem k132_174 : mj_look (mj_prog 132) 174 = some (.putfield 46, 3, 12, 22) := by decide +kernel
theorem k132_177 : mj_look (mj_prog 132) 177 = some (.aload_n 0, 1, 0, 0) := by decide +kernel
theorem k132_178 : mj_look (mj_prog 132) 178 = some (.iconst 4, 1, 0, 0) := by decide +kernel
theorem k132_179 : mj_look (mj_prog 132) 179 = some (.newarray .int, 2, 20, 0) := by decide +kernel
theorem k132_181 : mj_look (mj_prog 132) 181 = some (.putfield 49, 3, 12, 23) := by decide +kernel
theorem k132_184 : mj_look (mj_prog 132) 184 = some (.aload_n 0, 1, 0, 0) := by decide +kernel
theorem k132_185 : mj_look (mj_prog 132) 185 = some (.iconst 4, 1, 0, 0) := by decide +kernel
theorem k132_186 : mj_look (mj_prog 132) 186 = some (.newarray .int, 2, 20, 0) := by decide +kernel
theorem k132_188 : mj_look (mj_prog 132) 188 = some (.dup, 1, 0, 0) := by decide +kernel
theorem k132_189 : mj_look (mj_prog 132) 189 = some (.iconst 0, 1, 0, 0) := by decide +kernel
theorem k132_190 : mj_look (mj_prog 132) 190 = some (.iconst (-1), 1, 0, 0) := by decide +kernel
theorem k132_191 : mj_look (mj_prog 132) 191 = some (.iastore, 1, 0, 0) := by decide +kernel
theorem k132_192 : mj_look (mj_prog 132) 192 = some (.dup, 1, 0, 0) := by decide +kernel
theorem k132_193 : mj_look (mj_prog 132) 193 = some (.iconst 1, 1, 0, 0) := by decide +kernel
theorem k132_194 : mj_look (mj_prog 132) 194 = some (.iconst (-1), 1, 0, 0) := by decide +kernel
theorem k132_195 : mj_look (mj_prog 132) 195 = some (.iastore, 1, 0, 0) := by decide +kernel
theorem k132_196 : mj_look (mj_prog 132) 196 = some (.dup, 1, 0, 0) := by decide +kernel
theorem k132_197 : mj_look (mj_prog 132) 197 = some (.iconst 2, 1, 0, 0) := by decide +kernel
theorem k132_198 : mj_look (mj_prog 132) 198 = some (.iconst (-1), 1, 0, 0) := by decide +kernel
theorem k132_199 : mj_look (mj_prog 132) 199 = some (.iastore, 1, 0, 0) := by decide +kernel
theorem k132_200 : mj_look (mj_prog 132) 200 = some (.dup, 1, 0, 0) := by decide +kernel
theorem k132_201 : mj_look (mj_prog 132) 201 = some (.iconst 3, 1, 0, 0) := by decide +kernel
theorem k132_202 : mj_look (mj_prog 132) 202 = some (.iconst (-1), 1, 0, 0) := by decide +kernel
theorem k132_203 : mj_look (mj_prog 132) 203 = some (.iastore, 1, 0, 0) := by decide +kernel
theorem k132_204 : mj_look (mj_prog 132) 204 = some (.putfield 52, 3, 12, 24) := by decide +kernel
theorem k132_207 : mj_look (mj_prog 132) 207 = some (.aload_n 0, 1, 0, 0) := by decide +kernel
theorem k132_208 : mj_look (mj_prog 132) 208 = some (.iconst 4, 1, 0, 0) := by decide +kernel
theorem k132_209 : mj_look (mj_prog 132) 209 = some (.newarray .int, 2, 20, 0) := by decide +kernel
theorem k132_211 : mj_look (mj_prog 132) 211 = some (.putfield 55, 3, 12, 25) := by decide +kernel
theorem k132_214 : mj_look (mj_prog 132) 214 = some (.aload_n 0, 1, 0, 0) := by decide +kernel
theorem k132_215 : mj_look (mj_prog 132) 215 = some (.bipush 96, 2, 0, 0) := by decide +kernel
theorem k132_217 : mj_look (mj_prog 132) 217 = some (.newarray .int, 2, 20, 0) := by decide +kernel
theorem k132_219 : mj_look (mj_prog 132) 219 = some (.putfield 58, 3, 12, 26) := by decide +kernel
theorem k132_222 : mj_look (mj_prog 132) 222 = some (.aload_n 0, 1, 0, 0) := by decide +kernel
theorem k132_223 : mj_look (mj_prog 132) 223 = some (.iconst 5, 1, 0, 0) := by decide +kernel
theorem k132_224 : mj_look (mj_prog 132) 224 = some (.newarray .int, 2, 20, 0) := by decide +kernel
theorem k132_226 : mj_look (mj_prog 132) 226 = some (.putfield 61, 3, 12, 27) := by decide +kernel
theorem k132_229 : mj_look (mj_prog 132) 229 = some (.aload_n 0, 1, 0, 0) := by decide +kernel
theorem k132_230 : mj_look (mj_prog 132) 230 = some (.iconst 5, 1, 0, 0) := by decide +kernel
theorem k132_231 : mj_look (mj_prog 132) 231 = some (.newarray .int, 2, 20, 0) := by decide +kernel
theorem k132_233 : mj_look (mj_prog 132) 233 = some (.putfield 64, 3, 12, 28) := by decide +kernel
theorem k132_236 : mj_look (mj_prog 132) 236 = some (.aload_n 0, 1, 0, 0) := by decide +kernel
theorem k132_237 : mj_look (mj_prog 132) 237 = some (.iconst 5, 1, 0, 0) := by decide +kernel
theorem k132_238 : mj_look (mj_prog 132) 238 = some (.newarray .int, 2, 20, 0) := by decide +kernel
theorem k132_240 : mj_look (mj_prog 132) 240 = some (.putfield 67, 3, 12, 29) := by decide +kernel
theorem k132_243 : mj_look (mj_prog 132) 243 = some (.aload_n 0, 1, 0, 0) := by decide +kernel
theorem k132_244 : mj_look (mj_prog 132) 244 = some (.bipush 120, 2, 0, 0) := by decide +kernel
theorem k132_246 : mj_look (mj_prog 132) 246 = some (.newarray .int, 2, 20, 0) := by decide +kernel
theorem k132_248 : mj_look (mj_prog 132) 248 = some (.putfield 70, 3, 12, 30) := by decide +kernel
theorem k132_251 : mj_look (mj_prog 132) 251 = some (.aload_n 0, 1, 0, 0) := by decide +kernel
theorem k132_252 : mj_look (mj_prog 132) 252 = some (.bipush 24, 2, 0, 0) := by decide +kernel
theorem k132_254 : mj_look (mj_prog 132) 254 = some (.newarray .int, 2, 20, 0) := by decide +kernel
theorem k132_256 : mj_look (mj_prog 132) 256 = some (.putfield 73, 3, 12, 31) := by decide +kernel
theorem k132_259 : mj_look (mj_prog 132) 259 = some (.aload_n 0, 1, 0, 0) := by decide +kernel
theorem k132_260 : mj_look (mj_prog 132) 260 = some (.bipush 60, 2, 0, 0) := by decide +kernel
theorem k132_262 : mj_look (mj_prog 132) 262 = some (.newarray .int, 2, 20, 0) := by decide +kernel
theorem k132_264 : mj_look (mj_prog 132) 264 = some (.putfield 76, 3, 12, 32) := by decide +kernel
theorem k132_267 : mj_look (mj_prog 132) 267 = some (.aload_n 0, 1, 0, 0) := by decide +kernel
theorem k132_268 : mj_look (mj_prog 132) 268 = some (.getfield 9, 3, 12, 0) := by decide +kernel
theorem k132_271 : mj_look (mj_prog 132) 271 = some (.iconst 0, 1, 0, 0) := by decide +kernel
theorem k132_272 : mj_look (mj_prog 132) 272 = some (.iconst 1, 1, 0, 0) := by decide +kernel
theorem k132_273 : mj_look (mj_prog 132) 273 = some (.iastore, 1, 0, 0) := by decide +kernel
theorem k132_274 : mj_look (mj_prog 132) 274 = some (.aload_n 0, 1, 0, 0) := by decide +kernel
theorem k132_275 : mj_look (mj_prog 132) 275 = some (.getfield 9, 3, 12, 0) := by decide +kernel
theorem k132_278 : mj_look (mj_prog 132) 278 = some (.iconst 3, 1, 0, 0) := by decide +kernel
theorem k132_279 : mj_look (mj_prog 132) 279 = some (.bipush 10, 2, 0, 0) := by decide +kernel
theorem k132_281 : mj_look (mj_prog 132) 281 = some (.iastore, 1, 0, 0) := by decide +kernel
theorem k132_282 : mj_look (mj_prog 132) 282 = some (.return_, 1, 0, 0) := by decide +kernel
theorem mx_133 : (mj_m 133).2.2.1 = 4 := by decide +kernel
theorem rt_133 : (mj_m 133).2.2.2.1 = (some FieldType.int) := by decide +kernel
theorem dp_133 : mj_disp 133 12 = some 133 := by decide +kernel
theorem pq_133 : mj_prog 133 = mj_p133 := rfl
theorem k133_0 : mj_look (mj_prog 133) 0 = some (.iload_n 1, 1, 0, 0) := by decide +kernel
theorem k133_1 : mj_look (mj_prog 133) 1 = some (.iconst 0, 1, 0, 0) := by decide +kernel
theorem k133_2 : mj_look (mj_prog 133) 2 = some (.iconst 5, 1, 0, 0) := by decide +kernel
theorem k133_3 : mj_look (mj_prog 133) 3 = some (.invokestatic 79, 3, 134, 3) := by decide +kernel
theorem k133_6 : mj_look (mj_prog 133) 6 = some (.ifCond .eq 24, 3, 30, 0) := by decide +kernel
theorem k133_9 : mj_look (mj_prog 133) 9 = some (.iload_n 2, 1, 0, 0) := by decide +kernel
theorem k133_10 : mj_look (mj_prog 133) 10 = some (.iconst 0, 1, 0, 0) := by decide +kernel
theorem k133_11 : mj_look (mj_prog 133) 11 = some (.sipush 239, 3, 0, 0) := by decide +kernel
theorem k133_14 : mj_look (mj_prog 133) 14 = some (.invokestatic 79, 3, 134, 3) := by decide +kernel
theorem k133_17 : mj_look (mj_prog 133) 17 = some (.ifCond .eq 13, 3, 30, 0) := by decide +kernel
theorem k133_20 : mj_look (mj_prog 133) 20 = some (.iload_n 3, 1, 0, 0) := by decide +kernel
theorem k133_21 : mj_look (mj_prog 133) 21 = some (.iconst 1, 1, 0, 0) := by decide +kernel
theorem k133_22 : mj_look (mj_prog 133) 22 = some (.bipush 99, 2, 0, 0) := by decide +kernel
theorem k133_24 : mj_look (mj_prog 133) 24 = some (.invokestatic 79, 3, 134, 3) := by decide +kernel
theorem k133_27 : mj_look (mj_prog 133) 27 = some (.ifCond .ne 6, 3, 33, 0) := by decide +kernel
theorem k133_30 : mj_look (mj_prog 133) 30 = some (.ldc 83, 2, 3294967295, 0) := by decide +kernel
theorem k133_32 : mj_look (mj_prog 133) 32 = some (.ireturn, 1, 0, 0) := by decide +kernel
theorem k133_33 : mj_look (mj_prog 133) 33 = some (.aload_n 0, 1, 0, 0) := by decide +kernel
theorem k133_34 : mj_look (mj_prog 133) 34 = some (.getfield 9, 3, 12, 0) := by decide +kernel
theorem k133_37 : mj_look (mj_prog 133) 37 = some (.iconst 1, 1, 0, 0) := by decide +kernel
theorem k133_38 : mj_look (mj_prog 133) 38 = some (.iaload, 1, 0, 0) := by decide +kernel
theorem k133_39 : mj_look (mj_prog 133) 39 = some (.bipush 8, 2, 0, 0) := by decide +kernel
theorem k133_41 : mj_look (mj_prog 133) 41 = some (.if_icmp .ne 8, 3, 49, 0) := by decide +kernel
theorem k133_44 : mj_look (mj_prog 133) 44 = some (.ldc 84, 2, 3294967293, 0) := by decide +kernel
theorem k133_46 : mj_look (mj_prog 133) 46 = some (.goto 10, 3, 56, 0) := by decide +kernel
theorem k133_49 : mj_look (mj_prog 133) 49 = some (.aload_n 0, 1, 0, 0) := by decide +kernel
theorem k133_50 : mj_look (mj_prog 133) 50 = some (.iload_n 1, 1, 0, 0) := by decide +kernel
theorem k133_51 : mj_look (mj_prog 133) 51 = some (.iload_n 2, 1, 0, 0) := by decide +kernel
theorem k133_52 : mj_look (mj_prog 133) 52 = some (.iload_n 3, 1, 0, 0) := by decide +kernel
theorem k133_53 : mj_look (mj_prog 133) 53 = some (.invokevirtual 85, 3, 135, 3) := by decide +kernel
theorem k133_56 : mj_look (mj_prog 133) 56 = some (.ireturn, 1, 0, 0) := by decide +kernel
theorem mx_134 : (mj_m 134).2.2.1 = 3 := by decide +kernel
theorem rt_134 : (mj_m 134).2.2.2.1 = (some FieldType.boolean) := by decide +kernel
theorem dp_134 : mj_disp 134 12 = some 134 := by decide +kernel
theorem pq_134 : mj_prog 134 = mj_p134 := rfl
theorem k134_0 : mj_look (mj_prog 134) 0 = some (.iload_n 0, 1, 0, 0) := by decide +kernel
theorem k134_1 : mj_look (mj_prog 134) 1 = some (.iload_n 1, 1, 0, 0) := by decide +kernel
theorem k134_2 : mj_look (mj_prog 134) 2 = some (.if_icmp .lt 12, 3, 14, 0) := by decide +kernel
theorem k134_5 : mj_look (mj_prog 134) 5 = some (.iload_n 0, 1, 0, 0) := by decide +kernel
theorem k134_6 : mj_look (mj_prog 134) 6 = some (.iload_n 2, 1, 0, 0) := by decide +kernel
theorem k134_7 : mj_look (mj_prog 134) 7 = some (.if_icmp .gt 7, 3, 14, 0) := by decide +kernel
theorem k134_10 : mj_look (mj_prog 134) 10 = some (.iconst 1, 1, 0, 0) := by decide +kernel
theorem k134_11 : mj_look (mj_prog 134) 11 = some (.goto 4, 3, 15, 0) := by decide +kernel
theorem k134_14 : mj_look (mj_prog 134) 14 = some (.iconst 0, 1, 0, 0) := by decide +kernel
theorem k134_15 : mj_look (mj_prog 134) 15 = some (.ireturn, 1, 0, 0) := by decide +kernel
theorem mx_135 : (mj_m 135).2.2.1 = 7 := by decide +kernel
theorem rt_135 : (mj_m 135).2.2.2.1 = (some FieldType.int) := by decide +kernel
theorem dp_135 : mj_disp 135 12 = some 135 := by decide +kernel
theorem pq_135 : mj_prog 135 = mj_p135 := rfl
theorem k135_0 : mj_look (mj_prog 135) 0 = some (.aload_n 0, 1, 0, 0) := by decide +kernel
theorem k135_1 : mj_look (mj_prog 135) 1 = some (.getfield 9, 3, 12, 0) := by decide +kernel
theorem k135_4 : mj_look (mj_prog 135) 4 = some (.iconst 1, 1, 0, 0) := by decide +kernel
theorem k135_5 : mj_look (mj_prog 135) 5 = some (.iaload, 1, 0, 0) := by decide +kernel
theorem k135_6 : mj_look (mj_prog 135) 6 = some (.istore 4, 2, 0, 0) := by decide +kernel
theorem k135_8 : mj_look (mj_prog 135) 8 = some (.bipush 53, 2, 0, 0) := by decide +kernel
theorem k135_10 : mj_look (mj_prog 135) 10 = some (.bipush 7, 2, 0, 0) := by decide +kernel
theorem k135_12 : mj_look (mj_prog 135) 12 = some (.iload 4, 2, 0, 0) := by decide +kernel
theorem k135_14 : mj_look (mj_prog 135) 14 = some (.imul, 1, 0, 0) := by decide +kernel
theorem k135_15 : mj_look (mj_prog 135) 15 = some (.iadd, 1, 0, 0) := by decide +kernel
theorem k135_16 : mj_look (mj_prog 135) 16 = some (.istore 5, 2, 0, 0) := by decide +kernel
theorem k135_18 : mj_look (mj_prog 135) 18 = some (.iconst 0, 1, 0, 0) := by decide +kernel
theorem k135_19 : mj_look (mj_prog 135) 19 = some (.istore 6, 2, 0, 0) := by decide +kernel
theorem k135_21 : mj_look (mj_prog 135) 21 = some (.iload 6, 2, 0, 0) := by decide +kernel
theorem k135_23 : mj_look (mj_prog 135) 23 = some (.bipush 7, 2, 0, 0) := by decide +kernel
theorem k135_25 : mj_look (mj_prog 135) 25 = some (.if_icmp .ge 20, 3, 45, 0) := by decide +kernel
theorem k135_28 : mj_look (mj_prog 135) 28 = some (.aload_n 0, 1, 0, 0) := by decide +kernel
theorem k135_29 : mj_look (mj_prog 135) 29 = some (.getfield 9, 3, 12, 0) := by decide +kernel
theorem k135_32 : mj_look (mj_prog 135) 32 = some (.iload 5, 2, 0, 0) := by decide +kernel
theorem k135_34 : mj_look (mj_prog 135) 34 = some (.iload 6, 2, 0, 0) := by decide +kernel
theorem k135_36 : mj_look (mj_prog 135) 36 = some (.iadd, 1, 0, 0) := by decide +kernel
theorem k135_37 : mj_look (mj_prog 135) 37 = some (.iconst 0, 1, 0, 0) := by decide +kernel
theorem k135_38 : mj_look (mj_prog 135) 38 = some (.iastore, 1, 0, 0) := by decide +kernel
theorem k135_39 : mj_look (mj_prog 135) 39 = some (.iinc 6 1, 3, 0, 0) := by decide +kernel
theorem k135_42 : mj_look (mj_prog 135) 42 = some (.goto (-21), 3, 21, 0) := by decide +kernel
theorem k135_45 : mj_look (mj_prog 135) 45 = some (.aload_n 0, 1, 0, 0) := by decide +kernel
theorem k135_46 : mj_look (mj_prog 135) 46 = some (.getfield 9, 3, 12, 0) := by decide +kernel
theorem k135_49 : mj_look (mj_prog 135) 49 = some (.iload 5, 2, 0, 0) := by decide +kernel
theorem k135_51 : mj_look (mj_prog 135) 51 = some (.iload_n 1, 1, 0, 0) := by decide +kernel
theorem k135_52 : mj_look (mj_prog 135) 52 = some (.iastore, 1, 0, 0) := by decide +kernel
theorem k135_53 : mj_look (mj_prog 135) 53 = some (.aload_n 0, 1, 0, 0) := by decide +kernel
theorem k135_54 : mj_look (mj_prog 135) 54 = some (.getfield 9, 3, 12, 0) := by decide +kernel
theorem k135_57 : mj_look (mj_prog 135) 57 = some (.iload 5, 2, 0, 0) := by decide +kernel
theorem k135_59 : mj_look (mj_prog 135) 59 = some (.iconst 1, 1, 0, 0) := by decide +kernel
theorem k135_60 : mj_look (mj_prog 135) 60 = some (.iadd, 1, 0, 0) := by decide +kernel
theorem k135_61 : mj_look (mj_prog 135) 61 = some (.iload_n 2, 1, 0, 0) := by decide +kernel
theorem k135_62 : mj_look (mj_prog 135) 62 = some (.iastore, 1, 0, 0) := by decide +kernel
theorem k135_63 : mj_look (mj_prog 135) 63 = some (.aload_n 0, 1, 0, 0) := by decide +kernel
theorem k135_64 : mj_look (mj_prog 135) 64 = some (.getfield 9, 3, 12, 0) := by decide +kernel
theorem k135_67 : mj_look (mj_prog 135) 67 = some (.iload 5, 2, 0, 0) := by decide +kernel
theorem k135_69 : mj_look (mj_prog 135) 69 = some (.iconst 2, 1, 0, 0) := by decide +kernel
theorem k135_70 : mj_look (mj_prog 135) 70 = some (.iadd, 1, 0, 0) := by decide +kernel
theorem k135_71 : mj_look (mj_prog 135) 71 = some (.iload_n 3, 1, 0, 0) := by decide +kernel
theorem k135_72 : mj_look (mj_prog 135) 72 = some (.iastore, 1, 0, 0) := by decide +kernel
theorem k135_73 : mj_look (mj_prog 135) 73 = some (.aload_n 0, 1, 0, 0) := by decide +kernel
theorem k135_74 : mj_look (mj_prog 135) 74 = some (.getfield 9, 3, 12, 0) := by decide +kernel
theorem k135_77 : mj_look (mj_prog 135) 77 = some (.iconst 1, 1, 0, 0) := by decide +kernel
theorem k135_78 : mj_look (mj_prog 135) 78 = some (.dup2, 1, 0, 0) := by decide +kernel
theorem k135_79 : mj_look (mj_prog 135) 79 = some (.iaload, 1, 0, 0) := by decide +kernel
theorem k135_80 : mj_look (mj_prog 135) 80 = some (.iconst 1, 1, 0, 0) := by decide +kernel
theorem k135_81 : mj_look (mj_prog 135) 81 = some (.iadd, 1, 0, 0) := by decide +kernel
theorem k135_82 : mj_look (mj_prog 135) 82 = some (.iastore, 1, 0, 0) := by decide +kernel
theorem k135_83 : mj_look (mj_prog 135) 83 = some (.iload 4, 2, 0, 0) := by decide +kernel
theorem k135_85 : mj_look (mj_prog 135) 85 = some (.ireturn, 1, 0, 0) := by decide +kernel
theorem mx_136 : (mj_m 136).2.2.1 = 3 := by decide +kernel
theorem rt_136 : (mj_m 136).2.2.2.1 = (some FieldType.int) := by decide +kernel
theorem dp_136 : mj_disp 136 12 = some 136 := by decide +kernel
theorem pq_136 : mj_prog 136 = mj_p136 := rfl
theorem k136_0 : mj_look (mj_prog 136) 0 = some (.aload_n 0, 1, 0, 0) := by decide +kernel
theorem k136_1 : mj_look (mj_prog 136) 1 = some (.iload_n 1, 1, 0, 0) := by decide +kernel
theorem k136_2 : mj_look (mj_prog 136) 2 = some (.invokevirtual 103, 3, 137, 1) := by decide +kernel
theorem k136_5 : mj_look (mj_prog 136) 5 = some (.ifCond .eq 19, 3, 24, 0) := by decide +kernel
theorem k136_8 : mj_look (mj_prog 136) 8 = some (.iload_n 2, 1, 0, 0) := by decide +kernel
theorem k136_9 : mj_look (mj_prog 136) 9 = some (.invokestatic 107, 3, 138, 1) := by decide +kernel
theorem k136_12 : mj_look (mj_prog 136) 12 = some (.ifCond .eq 12, 3, 24, 0) := by decide +kernel
theorem k136_15 : mj_look (mj_prog 136) 15 = some (.aload_n 0, 1, 0, 0) := by decide +kernel
theorem k136_16 : mj_look (mj_prog 136) 16 = some (.iload_n 1, 1, 0, 0) := by decide +kernel
theorem k136_17 : mj_look (mj_prog 136) 17 = some (.iload_n 2, 1, 0, 0) := by decide +kernel
theorem k136_18 : mj_look (mj_prog 136) 18 = some (.invokevirtual 110, 3, 139, 2) := by decide +kernel
theorem k136_21 : mj_look (mj_prog 136) 21 = some (.goto 5, 3, 26, 0) := by decide +kernel
theorem k136_24 : mj_look (mj_prog 136) 24 = some (.ldc 83, 2, 3294967295, 0) := by decide +kernel
theorem k136_26 : mj_look (mj_prog 136) 26 = some (.ireturn, 1, 0, 0) := by decide +kernel
theorem mx_137 : (mj_m 137).2.2.1 = 2 := by decide +kernel
theorem rt_137 : (mj_m 137).2.2.2.1 = (some FieldType.boolean) := by decide +kernel
theorem dp_137 : mj_disp 137 12 = some 137 := by decide +kernel
theorem pq_137 : mj_prog 137 = mj_p137 := rfl
theorem k137_0 : mj_look (mj_prog 137) 0 = some (.iload_n 1, 1, 0, 0) := by decide +kernel
theorem k137_1 : mj_look (mj_prog 137) 1 = some (.iconst 0, 1, 0, 0) := by decide +kernel
theorem k137_2 : mj_look (mj_prog 137) 2 = some (.aload_n 0, 1, 0, 0) := by decide +kernel
theorem k137_3 : mj_look (mj_prog 137) 3 = some (.getfield 9, 3, 12, 0) := by decide +kernel
theorem k137_6 : mj_look (mj_prog 137) 6 = some (.iconst 1, 1, 0, 0) := by decide +kernel
theorem k137_7 : mj_look (mj_prog 137) 7 = some (.iaload, 1, 0, 0) := by decide +kernel
theorem k137_8 : mj_look (mj_prog 137) 8 = some (.iconst 1, 1, 0, 0) := by decide +kernel
theorem k137_9 : mj_look (mj_prog 137) 9 = some (.isub, 1, 0, 0) := by decide +kernel
theorem k137_10 : mj_look (mj_prog 137) 10 = some (.invokestatic 79, 3, 134, 3) := by decide +kernel
theorem k137_13 : mj_look (mj_prog 137) 13 = some (.ireturn, 1, 0, 0) := by decide +kernel
theorem mx_138 : (mj_m 138).2.2.1 = 1 := by decide +kernel
theorem rt_138 : (mj_m 138).2.2.2.1 = (some FieldType.boolean) := by decide +kernel
theorem dp_138 : mj_disp 138 12 = some 138 := by decide +kernel
theorem pq_138 : mj_prog 138 = mj_p138 := rfl
theorem k138_0 : mj_look (mj_prog 138) 0 = some (.iload_n 0, 1, 0, 0) := by decide +kernel
theorem k138_1 : mj_look (mj_prog 138) 1 = some (.iconst 0, 1, 0, 0) := by decide +kernel
theorem k138_2 : mj_look (mj_prog 138) 2 = some (.bipush 11, 2, 0, 0) := by decide +kernel
theorem k138_4 : mj_look (mj_prog 138) 4 = some (.invokestatic 79, 3, 134, 3) := by decide +kernel
theorem k138_7 : mj_look (mj_prog 138) 7 = some (.ireturn, 1, 0, 0) := by decide +kernel
theorem mx_139 : (mj_m 139).2.2.1 = 9 := by decide +kernel
theorem rt_139 : (mj_m 139).2.2.2.1 = (some FieldType.int) := by decide +kernel
theorem dp_139 : mj_disp 139 12 = some 139 := by decide +kernel
theorem pq_139 : mj_prog 139 = mj_p139 := rfl
theorem k139_0 : mj_look (mj_prog 139) 0 = some (.aload_n 0, 1, 0, 0) := by decide +kernel
theorem k139_1 : mj_look (mj_prog 139) 1 = some (.getfield 9, 3, 12, 0) := by decide +kernel
theorem k139_4 : mj_look (mj_prog 139) 4 = some (.iconst 5, 1, 0, 0) := by decide +kernel
theorem k139_5 : mj_look (mj_prog 139) 5 = some (.iload_n 2, 1, 0, 0) := by decide +kernel
theorem k139_6 : mj_look (mj_prog 139) 6 = some (.iadd, 1, 0, 0) := by decide +kernel
theorem k139_7 : mj_look (mj_prog 139) 7 = some (.iaload, 1, 0, 0) := by decide +kernel
theorem k139_8 : mj_look (mj_prog 139) 8 = some (.istore_n 3, 1, 0, 0) := by decide +kernel
theorem k139_9 : mj_look (mj_prog 139) 9 = some (.aload_n 0, 1, 0, 0) := by decide +kernel
theorem k139_10 : mj_look (mj_prog 139) 10 = some (.getfield 9, 3, 12, 0) := by decide +kernel
theorem k139_13 : mj_look (mj_prog 139) 13 = some (.bipush 17, 2, 0, 0) := by decide +kernel
theorem k139_15 : mj_look (mj_prog 139) 15 = some (.iload_n 2, 1, 0, 0) := by decide +kernel
theorem k139_16 : mj_look (mj_prog 139) 16 = some (.iadd, 1, 0, 0) := by decide +kernel
theorem k139_17 : mj_look (mj_prog 139) 17 = some (.iaload, 1, 0, 0) := by decide +kernel
theorem k139_18 : mj_look (mj_prog 139) 18 = some (.istore 4, 2, 0, 0) := by decide +kernel
theorem k139_20 : mj_look (mj_prog 139) 20 = some (.aload_n 0, 1, 0, 0) := by decide +kernel
theorem k139_21 : mj_look (mj_prog 139) 21 = some (.iconst 0, 1, 0, 0) := by decide +kernel
theorem k139_22 : mj_look (mj_prog 139) 22 = some (.invokevirtual 89, 3, 140, 1) := by decide +kernel
theorem k139_25 : mj_look (mj_prog 139) 25 = some (.istore 5, 2, 0, 0) := by decide +kernel
theorem k139_27 : mj_look (mj_prog 139) 27 = some (.aload_n 0, 1, 0, 0) := by decide +kernel
theorem k139_28 : mj_look (mj_prog 139) 28 = some (.getfield 49, 3, 12, 23) := by decide +kernel
theorem k139_31 : mj_look (mj_prog 139) 31 = some (.iconst 0, 1, 0, 0) := by decide +kernel
theorem k139_32 : mj_look (mj_prog 139) 32 = some (.aload_n 0, 1, 0, 0) := by decide +kernel
theorem k139_33 : mj_look (mj_prog 139) 33 = some (.iload_n 1, 1, 0, 0) := by decide +kernel
theorem k139_34 : mj_look (mj_prog 139) 34 = some (.iconst 2, 1, 0, 0) := by decide +kernel
theorem k139_35 : mj_look (mj_prog 139) 35 = some (.invokevirtual 93, 3, 141, 2) := by decide +kernel
theorem k139_38 : mj_look (mj_prog 139) 38 = some (.iastore, 1, 0, 0) := by decide +kernel
theorem k139_39 : mj_look (mj_prog 139) 39 = some (.aload_n 0, 1, 0, 0) := by decide +kernel
theorem k139_40 : mj_look (mj_prog 139) 40 = some (.getfield 49, 3, 12, 23) := by decide +kernel
theorem k139_43 : mj_look (mj_prog 139) 43 = some (.iconst 1, 1, 0, 0) := by decide +kernel
theorem k139_44 : mj_look (mj_prog 139) 44 = some (.iload_n 3, 1, 0, 0) := by decide +kernel
theorem k139_45 : mj_look (mj_prog 139) 45 = some (.iastore, 1, 0, 0) := by decide +kernel
theorem k139_46 : mj_look (mj_prog 139) 46 = some (.aload_n 0, 1, 0, 0) := by decide +kernel
theorem k139_47 : mj_look (mj_prog 139) 47 = some (.getfield 49, 3, 12, 23) := by decide +kernel
theorem k139_50 : mj_look (mj_prog 139) 50 = some (.iconst 2, 1, 0, 0) := by decide +kernel
theorem k139_51 : mj_look (mj_prog 139) 51 = some (.iload 4, 2, 0, 0) := by decide +kernel
theorem k139_53 : mj_look (mj_prog 139) 53 = some (.iastore, 1, 0, 0) := by decide +kernel
theorem k139_54 : mj_look (mj_prog 139) 54 = some (.iload 5, 2, 0, 0) := by decide +kernel
theorem k139_56 : mj_look (mj_prog 139) 56 = some (.ifCond .ge 23, 3, 79, 0) := by decide +kernel
theorem k139_59 : mj_look (mj_prog 139) 59 = some (.bipush 6, 2, 0, 0) := by decide +kernel
theorem k139_61 : mj_look (mj_prog 139) 61 = some (.aload_n 0, 1, 0, 0) := by decide +kernel
theorem k139_62 : mj_look (mj_prog 139) 62 = some (.iload_n 1, 1, 0, 0) := by decide +kernel
theorem k139_63 : mj_look (mj_prog 139) 63 = some (.iconst 2, 1, 0, 0) := by decide +kernel
theorem k139_64 : mj_look (mj_prog 139) 64 = some (.invokevirtual 93, 3, 141, 2) := by decide +kernel
theorem k139_67 : mj_look (mj_prog 139) 67 = some (.bipush 20, 2, 0, 0) := by decide +kernel
theorem k139_69 : mj_look (mj_prog 139) 69 = some (.idiv, 1, 0, 0) := by decide +kernel
theorem k139_70 : mj_look (mj_prog 139) 70 = some (.iadd, 1, 0, 0) := by decide +kernel
theorem k139_71 : mj_look (mj_prog 139) 71 = some (.iload_n 3, 1, 0, 0) := by decide +kernel
theorem k139_72 : mj_look (mj_prog 139) 72 = some (.isub, 1, 0, 0) := by decide +kernel
theorem k139_73 : mj_look (mj_prog 139) 73 = some (.iload 4, 2, 0, 0) := by decide +kernel
theorem k139_75 : mj_look (mj_prog 139) 75 = some (.isub, 1, 0, 0) := by decide +kernel
theorem k139_76 : mj_look (mj_prog 139) 76 = some (.goto 9, 3, 85, 0) := by decide +kernel
theorem k139_79 : mj_look (mj_prog 139) 79 = some (.aload_n 0, 1, 0, 0) := by decide +kernel
theorem k139_80 : mj_look (mj_prog 139) 80 = some (.iload 5, 2, 0, 0) := by decide +kernel
theorem k139_82 : mj_look (mj_prog 139) 82 = some (.invokevirtual 97, 3, 142, 1) := by decide +kernel
theorem k139_85 : mj_look (mj_prog 139) 85 = some (.iconst 1, 1, 0, 0) := by decide +kernel
theorem k139_86 : mj_look (mj_prog 139) 86 = some (.bipush 20, 2, 0, 0) := by decide +kernel
theorem k139_88 : mj_look (mj_prog 139) 88 = some (.invokestatic 100, 3, 144, 3) := by decide +kernel
theorem k139_91 : mj_look (mj_prog 139) 91 = some (.istore 6, 2, 0, 0) := by decide +kernel
theorem k139_93 : mj_look (mj_prog 139) 93 = some (.iload_n 3, 1, 0, 0) := by decide +kernel
theorem k139_94 : mj_look (mj_prog 139) 94 = some (.ifCond .ge 10, 3, 104, 0) := by decide +kernel
theorem k139_97 : mj_look (mj_prog 139) 97 = some (.iload 6, 2, 0, 0) := by decide +kernel
theorem k139_99 : mj_look (mj_prog 139) 99 = some (.iconst 2, 1, 0, 0) := by decide +kernel
theorem k139_100 : mj_look (mj_prog 139) 100 = some (.iadd, 1, 0, 0) := by decide +kernel
theorem k139_101 : mj_look (mj_prog 139) 101 = some (.goto 5, 3, 106, 0) := by decide +kernel
theorem k139_104 : mj_look (mj_prog 139) 104 = some (.iload 6, 2, 0, 0) := by decide +kernel
theorem k139_106 : mj_look (mj_prog 139) 106 = some (.iconst 1, 1, 0, 0) := by decide +kernel
theorem k139_107 : mj_look (mj_prog 139) 107 = some (.bipush 20, 2, 0, 0) := by decide +kernel
theorem k139_109 : mj_look (mj_prog 139) 109 = some (.invokestatic 100, 3, 144, 3) := by decide +kernel
theorem k139_112 : mj_look (mj_prog 139) 112 = some (.istore 7, 2, 0, 0) := by decide +kernel
theorem k139_114 : mj_look (mj_prog 139) 114 = some (.iload 6, 2, 0, 0) := by decide +kernel
theorem k139_116 : mj_look (mj_prog 139) 116 = some (.iconst 2, 1, 0, 0) := by decide +kernel
theorem k139_117 : mj_look (mj_prog 139) 117 = some (.idiv, 1, 0, 0) := by decide +kernel
theorem k139_118 : mj_look (mj_prog 139) 118 = some (.iconst 1, 1, 0, 0) := by decide +kernel
theorem k139_119 : mj_look (mj_prog 139) 119 = some (.bipush 20, 2, 0, 0) := by decide +kernel
theorem k139_121 : mj_look (mj_prog 139) 121 = some (.invokestatic 100, 3, 144, 3) := by decide +kernel
theorem k139_124 : mj_look (mj_prog 139) 124 = some (.istore 8, 2, 0, 0) := by decide +kernel
theorem k139_126 : mj_look (mj_prog 139) 126 = some (.aload_n 0, 1, 0, 0) := by decide +kernel
theorem k139_127 : mj_look (mj_prog 139) 127 = some (.iload_n 1, 1, 0, 0) := by decide +kernel
theorem k139_128 : mj_look (mj_prog 139) 128 = some (.iconst 0, 1, 0, 0) := by decide +kernel
theorem k139_129 : mj_look (mj_prog 139) 129 = some (.invokevirtual 93, 3, 141, 2) := by decide +kernel
theorem k139_132 : mj_look (mj_prog 139) 132 = some (.tableswitch 78 1 5 #[36, 39, 42, 62, 75], 36, 0, 0) := by decide +kernel
theorem k139_168 : mj_look (mj_prog 139) 168 = some (.iload 7, 2, 0, 0) := by decide +kernel
theorem k139_170 : mj_look (mj_prog 139) 170 = some (.ireturn, 1, 0, 0) := by decide +kernel
theorem k139_171 : mj_look (mj_prog 139) 171 = some (.iload 8, 2, 0, 0) := by decide +kernel
theorem k139_173 : mj_look (mj_prog 139) 173 = some (.ireturn, 1, 0, 0) := by decide +kernel
theorem k139_174 : mj_look (mj_prog 139) 174 = some (.iload_n 3, 1, 0, 0) := by decide +kernel
theorem k139_175 : mj_look (mj_prog 139) 175 = some (.ifCond .le 10, 3, 185, 0) := by decide +kernel
theorem k139_178 : mj_look (mj_prog 139) 178 = some (.iload 7, 2, 0, 0) := by decide +kernel
theorem k139_180 : mj_look (mj_prog 139) 180 = some (.iconst 1, 1, 0, 0) := by decide +kernel
theorem k139_181 : mj_look (mj_prog 139) 181 = some (.isub, 1, 0, 0) := by decide +kernel
theorem k139_182 : mj_look (mj_prog 139) 182 = some (.goto 5, 3, 187, 0) := by decide +kernel
theorem k139_185 : mj_look (mj_prog 139) 185 = some (.iload 7, 2, 0, 0) := by decide +kernel
theorem k139_187 : mj_look (mj_prog 139) 187 = some (.iconst 1, 1, 0, 0) := by decide +kernel
theorem k139_188 : mj_look (mj_prog 139) 188 = some (.bipush 20, 2, 0, 0) := by decide +kernel
theorem k139_190 : mj_look (mj_prog 139) 190 = some (.invokestatic 100, 3, 144, 3) := by decide +kernel
theorem k139_193 : mj_look (mj_prog 139) 193 = some (.ireturn, 1, 0, 0) := by decide +kernel
theorem k139_194 : mj_look (mj_prog 139) 194 = some (.iload 4, 2, 0, 0) := by decide +kernel
theorem k139_196 : mj_look (mj_prog 139) 196 = some (.iconst 5, 1, 0, 0) := by decide +kernel
theorem k139_197 : mj_look (mj_prog 139) 197 = some (.if_icmp .lt 7, 3, 204, 0) := by decide +kernel
theorem k139_200 : mj_look (mj_prog 139) 200 = some (.iconst 1, 1, 0, 0) := by decide +kernel
theorem k139_201 : mj_look (mj_prog 139) 201 = some (.goto 5, 3, 206, 0) := by decide +kernel
theorem k139_204 : mj_look (mj_prog 139) 204 = some (.iload 8, 2, 0, 0) := by decide +kernel
theorem k139_206 : mj_look (mj_prog 139) 206 = some (.ireturn, 1, 0, 0) := by decide +kernel
theorem k139_207 : mj_look (mj_prog 139) 207 = some (.bipush 7, 2, 0, 0) := by decide +kernel
theorem k139_209 : mj_look (mj_prog 139) 209 = some (.ireturn, 1, 0, 0) := by decide +kernel
theorem k139_210 : mj_look (mj_prog 139) 210 = some (.iload 6, 2, 0, 0) := by decide +kernel
theorem k139_212 : mj_look (mj_prog 139) 212 = some (.ireturn, 1, 0, 0) := by decide +kernel
theorem mx_140 : (mj_m 140).2.2.1 = 3 := by decide +kernel
theorem rt_140 : (mj_m 140).2.2.2.1 = (some FieldType.int) := by decide +kernel
theorem dp_140 : mj_disp 140 12 = some 140 := by decide +kernel
theorem pq_140 : mj_prog 140 = mj_p140 := rfl
theorem k140_0 : mj_look (mj_prog 140) 0 = some (.aload_n 0, 1, 0, 0) := by decide +kernel
theorem k140_1 : mj_look (mj_prog 140) 1 = some (.getfield 9, 3, 12, 0) := by decide +kernel
theorem k140_4 : mj_look (mj_prog 140) 4 = some (.iconst 4, 1, 0, 0) := by decide +kernel
theorem k140_5 : mj_look (mj_prog 140) 5 = some (.iaload, 1, 0, 0) := by decide +kernel
theorem k140_6 : mj_look (mj_prog 140) 6 = some (.iconst 1, 1, 0, 0) := by decide +kernel
theorem k140_7 : mj_look (mj_prog 140) 7 = some (.isub, 1, 0, 0) := by decide +kernel
theorem k140_8 : mj_look (mj_prog 140) 8 = some (.istore_n 2, 1, 0, 0) := by decide +kernel
theorem k140_9 : mj_look (mj_prog 140) 9 = some (.iload_n 2, 1, 0, 0) := by decide +kernel
theorem k140_10 : mj_look (mj_prog 140) 10 = some (.ifCond .lt 30, 3, 40, 0) := by decide +kernel
theorem k140_13 : mj_look (mj_prog 140) 13 = some (.aload_n 0, 1, 0, 0) := by decide +kernel
theorem k140_14 : mj_look (mj_prog 140) 14 = some (.getfield 9, 3, 12, 0) := by decide +kernel
theorem k140_17 : mj_look (mj_prog 140) 17 = some (.bipush 109, 2, 0, 0) := by decide +kernel
theorem k140_19 : mj_look (mj_prog 140) 19 = some (.iconst 2, 1, 0, 0) := by decide +kernel
theorem k140_20 : mj_look (mj_prog 140) 20 = some (.iload_n 2, 1, 0, 0) := by decide +kernel
theorem k140_21 : mj_look (mj_prog 140) 21 = some (.imul, 1, 0, 0) := by decide +kernel
theorem k140_22 : mj_look (mj_prog 140) 22 = some (.iadd, 1, 0, 0) := by decide +kernel
theorem k140_23 : mj_look (mj_prog 140) 23 = some (.iaload, 1, 0, 0) := by decide +kernel
theorem k140_24 : mj_look (mj_prog 140) 24 = some (.sipush 1000, 3, 0, 0) := by decide +kernel
theorem k140_27 : mj_look (mj_prog 140) 27 = some (.idiv, 1, 0, 0) := by decide +kernel
theorem k140_28 : mj_look (mj_prog 140) 28 = some (.iload_n 1, 1, 0, 0) := by decide +kernel
theorem k140_29 : mj_look (mj_prog 140) 29 = some (.if_icmp .ne 5, 3, 34, 0) := by decide +kernel
theorem k140_32 : mj_look (mj_prog 140) 32 = some (.iload_n 2, 1, 0, 0) := by decide +kernel
theorem k140_33 : mj_look (mj_prog 140) 33 = some (.ireturn, 1, 0, 0) := by decide +kernel
theorem k140_34 : mj_look (mj_prog 140) 34 = some (.iinc 2 (-1), 3, 0, 0) := by decide +kernel
theorem k140_37 : mj_look (mj_prog 140) 37 = some (.goto (-28), 3, 9, 0) := by decide +kernel
theorem k140_40 : mj_look (mj_prog 140) 40 = some (.iconst (-1), 1, 0, 0) := by decide +kernel
theorem k140_41 : mj_look (mj_prog 140) 41 = some (.ireturn, 1, 0, 0) := by decide +kernel
theorem mx_141 : (mj_m 141).2.2.1 = 3 := by decide +kernel
theorem rt_141 : (mj_m 141).2.2.2.1 = (some FieldType.int) := by decide +kernel
theorem dp_141 : mj_disp 141 12 = some 141 := by decide +kernel
theorem pq_141 : mj_prog 141 = mj_p141 := rfl
theorem k141_0 : mj_look (mj_prog 141) 0 = some (.aload_n 0, 1, 0, 0) := by decide +kernel
theorem k141_1 : mj_look (mj_prog 141) 1 = some (.getfield 9, 3, 12, 0) := by decide +kernel
theorem k141_4 : mj_look (mj_prog 141) 4 = some (.bipush 53, 2, 0, 0) := by decide +kernel
theorem k141_6 : mj_look (mj_prog 141) 6 = some (.bipush 7, 2, 0, 0) := by decide +kernel
theorem k141_8 : mj_look (mj_prog 141) 8 = some (.iload_n 1, 1, 0, 0) := by decide +kernel
theorem k141_9 : mj_look (mj_prog 141) 9 = some (.imul, 1, 0, 0) := by decide +kernel
theorem k141_10 : mj_look (mj_prog 141) 10 = some (.iadd, 1, 0, 0) := by decide +kernel
theorem k141_11 : mj_look (mj_prog 141) 11 = some (.iload_n 2, 1, 0, 0) := by decide +kernel
theorem k141_12 : mj_look (mj_prog 141) 12 = some (.iadd, 1, 0, 0) := by decide +kernel
theorem k141_13 : mj_look (mj_prog 141) 13 = some (.iaload, 1, 0, 0) := by decide +kernel
theorem k141_14 : mj_look (mj_prog 141) 14 = some (.ireturn, 1, 0, 0) := by decide +kernel
theorem mx_142 : (mj_m 142).2.2.1 = 6 := by decide +kernel
theorem rt_142 : (mj_m 142).2.2.2.1 = (some FieldType.int) := by decide +kernel
theorem dp_142 : mj_disp 142 12 = some 142 := by decide +kernel
theorem pq_142 : mj_prog 142 = mj_p142 := rfl
theorem k142_0 : mj_look (mj_prog 142) 0 = some (.iconst 0, 1, 0, 0) := by decide +kernel
theorem k142_1 : mj_look (mj_prog 142) 1 = some (.istore_n 2, 1, 0, 0) := by decide +kernel
theorem k142_2 : mj_look (mj_prog 142) 2 = some (.aload_n 0, 1, 0, 0) := by decide +kernel
theorem k142_3 : mj_look (mj_prog 142) 3 = some (.getfield 9, 3, 12, 0) := by decide +kernel
theorem k142_6 : mj_look (mj_prog 142) 6 = some (.bipush 109, 2, 0, 0) := by decide +kernel
theorem k142_8 : mj_look (mj_prog 142) 8 = some (.iconst 2, 1, 0, 0) := by decide +kernel
theorem k142_9 : mj_look (mj_prog 142) 9 = some (.iload_n 1, 1, 0, 0) := by decide +kernel
theorem k142_10 : mj_look (mj_prog 142) 10 = some (.imul, 1, 0, 0) := by decide +kernel
theorem k142_11 : mj_look (mj_prog 142) 11 = some (.iadd, 1, 0, 0) := by decide +kernel
theorem k142_12 : mj_look (mj_prog 142) 12 = some (.iaload, 1, 0, 0) := by decide +kernel
theorem k142_13 : mj_look (mj_prog 142) 13 = some (.sipush 1000, 3, 0, 0) := by decide +kernel
theorem k142_16 : mj_look (mj_prog 142) 16 = some (.irem, 1, 0, 0) := by decide +kernel
theorem k142_17 : mj_look (mj_prog 142) 17 = some (.istore_n 3, 1, 0, 0) := by decide +kernel
theorem k142_18 : mj_look (mj_prog 142) 18 = some (.iconst 0, 1, 0, 0) := by decide +kernel
theorem k142_19 : mj_look (mj_prog 142) 19 = some (.istore 4, 2, 0, 0) := by decide +kernel
theorem k142_21 : mj_look (mj_prog 142) 21 = some (.iload 4, 2, 0, 0) := by decide +kernel
theorem k142_23 : mj_look (mj_prog 142) 23 = some (.iload_n 3, 1, 0, 0) := by decide +kernel
theorem k142_24 : mj_look (mj_prog 142) 24 = some (.if_icmp .ge 132, 3, 156, 0) := by decide +kernel
theorem k142_27 : mj_look (mj_prog 142) 27 = some (.aload_n 0, 1, 0, 0) := by decide +kernel
theorem k142_28 : mj_look (mj_prog 142) 28 = some (.getfield 9, 3, 12, 0) := by decide +kernel
theorem k142_31 : mj_look (mj_prog 142) 31 = some (.sipush 137, 3, 0, 0) := by decide +kernel
theorem k142_34 : mj_look (mj_prog 142) 34 = some (.bipush 96, 2, 0, 0) := by decide +kernel
theorem k142_36 : mj_look (mj_prog 142) 36 = some (.iload_n 1, 1, 0, 0) := by decide +kernel
theorem k142_37 : mj_look (mj_prog 142) 37 = some (.imul, 1, 0, 0) := by decide +kernel
theorem k142_38 : mj_look (mj_prog 142) 38 = some (.iadd, 1, 0, 0) := by decide +kernel
theorem k142_39 : mj_look (mj_prog 142) 39 = some (.iload 4, 2, 0, 0) := by decide +kernel
theorem k142_41 : mj_look (mj_prog 142) 41 = some (.iadd, 1, 0, 0) := by decide +kernel
theorem k142_42 : mj_look (mj_prog 142) 42 = some (.iaload, 1, 0, 0) := by decide +kernel
theorem k142_43 : mj_look (mj_prog 142) 43 = some (.istore 5, 2, 0, 0) := by decide +kernel
theorem k142_45 : mj_look (mj_prog 142) 45 = some (.iload 5, 2, 0, 0) := by decide +kernel
theorem k142_47 : mj_look (mj_prog 142) 47 = some (.ifCond .lt 39, 3, 86, 0) := by decide +kernel
theorem k142_50 : mj_look (mj_prog 142) 50 = some (.aload_n 0, 1, 0, 0) := by decide +kernel
theorem k142_51 : mj_look (mj_prog 142) 51 = some (.getfield 46, 3, 12, 22) := by decide +kernel
theorem k142_54 : mj_look (mj_prog 142) 54 = some (.iload_n 2, 1, 0, 0) := by decide +kernel
theorem k142_55 : mj_look (mj_prog 142) 55 = some (.iload 5, 2, 0, 0) := by decide +kernel
theorem k142_57 : mj_look (mj_prog 142) 57 = some (.sipush 10000, 3, 0, 0) := by decide +kernel
theorem k142_60 : mj_look (mj_prog 142) 60 = some (.if_icmp .ge 8, 3, 68, 0) := by decide +kernel
theorem k142_63 : mj_look (mj_prog 142) 63 = some (.iload 5, 2, 0, 0) := by decide +kernel
theorem k142_65 : mj_look (mj_prog 142) 65 = some (.goto 14, 3, 79, 0) := by decide +kernel
theorem k142_68 : mj_look (mj_prog 142) 68 = some (.aload_n 0, 1, 0, 0) := by decide +kernel
theorem k142_69 : mj_look (mj_prog 142) 69 = some (.getfield 49, 3, 12, 23) := by decide +kernel
theorem k142_72 : mj_look (mj_prog 142) 72 = some (.iload 5, 2, 0, 0) := by decide +kernel
theorem k142_74 : mj_look (mj_prog 142) 74 = some (.sipush 10000, 3, 0, 0) := by decide +kernel
theorem k142_77 : mj_look (mj_prog 142) 77 = some (.isub, 1, 0, 0) := by decide +kernel
theorem k142_78 : mj_look (mj_prog 142) 78 = some (.iaload, 1, 0, 0) := by decide +kernel
theorem k142_79 : mj_look (mj_prog 142) 79 = some (.iastore, 1, 0, 0) := by decide +kernel
theorem k142_80 : mj_look (mj_prog 142) 80 = some (.iinc 2 1, 3, 0, 0) := by decide +kernel
theorem k142_83 : mj_look (mj_prog 142) 83 = some (.goto 67, 3, 150, 0) := by decide +kernel
theorem k142_86 : mj_look (mj_prog 142) 86 = some (.iload 5, 2, 0, 0) := by decide +kernel
theorem k142_88 : mj_look (mj_prog 142) 88 = some (.bipush (-10), 2, 0, 0) := by decide +kernel
theorem k142_90 : mj_look (mj_prog 142) 90 = some (.if_icmp .ne 30, 3, 120, 0) := by decide +kernel
theorem k142_93 : mj_look (mj_prog 142) 93 = some (.aload_n 0, 1, 0, 0) := by decide +kernel
theorem k142_94 : mj_look (mj_prog 142) 94 = some (.getfield 46, 3, 12, 22) := by decide +kernel
theorem k142_97 : mj_look (mj_prog 142) 97 = some (.iload_n 2, 1, 0, 0) := by decide +kernel
theorem k142_98 : mj_look (mj_prog 142) 98 = some (.iconst 1, 1, 0, 0) := by decide +kernel
theorem k142_99 : mj_look (mj_prog 142) 99 = some (.isub, 1, 0, 0) := by decide +kernel
theorem k142_100 : mj_look (mj_prog 142) 100 = some (.aload_n 0, 1, 0, 0) := by decide +kernel
theorem k142_101 : mj_look (mj_prog 142) 101 = some (.getfield 46, 3, 12, 22) := by decide +kernel
theorem k142_104 : mj_look (mj_prog 142) 104 = some (.iload_n 2, 1, 0, 0) := by decide +kernel
theorem k142_105 : mj_look (mj_prog 142) 105 = some (.iconst 1, 1, 0, 0) := by decide +kernel
theorem k142_106 : mj_look (mj_prog 142) 106 = some (.isub, 1, 0, 0) := by decide +kernel
theorem k142_107 : mj_look (mj_prog 142) 107 = some (.iaload, 1, 0, 0) := by decide +kernel
theorem k142_108 : mj_look (mj_prog 142) 108 = some (.ifCond .ne 7, 3, 115, 0) := by decide +kernel
theorem k142_111 : mj_look (mj_prog 142) 111 = some (.iconst 1, 1, 0, 0) := by decide +kernel
theorem k142_112 : mj_look (mj_prog 142) 112 = some (.goto 4, 3, 116, 0) := by decide +kernel
theorem k142_115 : mj_look (mj_prog 142) 115 = some (.iconst 0, 1, 0, 0) := by decide +kernel
theorem k142_116 : mj_look (mj_prog 142) 116 = some (.iastore, 1, 0, 0) := by decide +kernel
theorem k142_117 : mj_look (mj_prog 142) 117 = some (.goto 33, 3, 150, 0) := by decide +kernel
theorem k142_120 : mj_look (mj_prog 142) 120 = some (.iinc 2 (-1), 3, 0, 0) := by decide +kernel
theorem k142_123 : mj_look (mj_prog 142) 123 = some (.aload_n 0, 1, 0, 0) := by decide +kernel
theorem k142_124 : mj_look (mj_prog 142) 124 = some (.getfield 46, 3, 12, 22) := by decide +kernel
theorem k142_127 : mj_look (mj_prog 142) 127 = some (.iload_n 2, 1, 0, 0) := by decide +kernel
theorem k142_128 : mj_look (mj_prog 142) 128 = some (.iconst 1, 1, 0, 0) := by decide +kernel
theorem k142_129 : mj_look (mj_prog 142) 129 = some (.isub, 1, 0, 0) := by decide +kernel
theorem k142_130 : mj_look (mj_prog 142) 130 = some (.iload 5, 2, 0, 0) := by decide +kernel
theorem k142_132 : mj_look (mj_prog 142) 132 = some (.aload_n 0, 1, 0, 0) := by decide +kernel
theorem k142_133 : mj_look (mj_prog 142) 133 = some (.getfield 46, 3, 12, 22) := by decide +kernel
theorem k142_136 : mj_look (mj_prog 142) 136 = some (.iload_n 2, 1, 0, 0) := by decide +kernel
theorem k142_137 : mj_look (mj_prog 142) 137 = some (.iconst 1, 1, 0, 0) := by decide +kernel
theorem k142_138 : mj_look (mj_prog 142) 138 = some (.isub, 1, 0, 0) := by decide +kernel
theorem k142_139 : mj_look (mj_prog 142) 139 = some (.iaload, 1, 0, 0) := by decide +kernel
theorem k142_140 : mj_look (mj_prog 142) 140 = some (.aload_n 0, 1, 0, 0) := by decide +kernel
theorem k142_141 : mj_look (mj_prog 142) 141 = some (.getfield 46, 3, 12, 22) := by decide +kernel
theorem k142_144 : mj_look (mj_prog 142) 144 = some (.iload_n 2, 1, 0, 0) := by decide +kernel
theorem k142_145 : mj_look (mj_prog 142) 145 = some (.iaload, 1, 0, 0) := by decide +kernel
theorem k142_146 : mj_look (mj_prog 142) 146 = some (.invokestatic 241, 3, 143, 3) := by decide +kernel
theorem k142_149 : mj_look (mj_prog 142) 149 = some (.iastore, 1, 0, 0) := by decide +kernel
theorem k142_150 : mj_look (mj_prog 142) 150 = some (.iinc 4 1, 3, 0, 0) := by decide +kernel
theorem k142_153 : mj_look (mj_prog 142) 153 = some (.goto (-132), 3, 21, 0) := by decide +kernel
theorem k142_156 : mj_look (mj_prog 142) 156 = some (.aload_n 0, 1, 0, 0) := by decide +kernel
theorem k142_157 : mj_look (mj_prog 142) 157 = some (.getfield 46, 3, 12, 22) := by decide +kernel
theorem k142_160 : mj_look (mj_prog 142) 160 = some (.iconst 0, 1, 0, 0) := by decide +kernel
theorem k142_161 : mj_look (mj_prog 142) 161 = some (.iaload, 1, 0, 0) := by decide +kernel
theorem k142_162 : mj_look (mj_prog 142) 162 = some (.ireturn, 1, 0, 0) := by decide +kernel
theorem mx_143 : (mj_m 143).2.2.1 = 3 := by decide +kernel
theorem rt_143 : (mj_m 143).2.2.2.1 = (some FieldType.int) := by decide +kernel
theorem dp_143 : mj_disp 143 12 = some 143 := by decide +kernel
theorem pq_143 : mj_prog 143 = mj_p143 := rfl
theorem k143_0 : mj_look (mj_prog 143) 0 = some (.iload_n 0, 1, 0, 0) := by decide +kernel
theorem k143_1 : mj_look (mj_prog 143) 1 = some (.tableswitch 120 (-8) (-1) #[116, 112, 108, 97, 86, 75, 61, 47], 47, 0, 0) := by decide +kernel
theorem k143_48 : mj_look (mj_prog 143) 48 = some (.iload_n 1, 1, 0, 0) := by decide +kernel
theorem k143_49 : mj_look (mj_prog 143) 49 = some (.ifCond .ne 7, 3, 56, 0) := by decide +kernel
theorem k143_52 : mj_look (mj_prog 143) 52 = some (.iload_n 2, 1, 0, 0) := by decide +kernel
theorem k143_53 : mj_look (mj_prog 143) 53 = some (.ifCond .eq 7, 3, 60, 0) := by decide +kernel
theorem k143_56 : mj_look (mj_prog 143) 56 = some (.iconst 1, 1, 0, 0) := by decide +kernel
theorem k143_57 : mj_look (mj_prog 143) 57 = some (.goto 4, 3, 61, 0) := by decide +kernel
theorem k143_60 : mj_look (mj_prog 143) 60 = some (.iconst 0, 1, 0, 0) := by decide +kernel
theorem k143_61 : mj_look (mj_prog 143) 61 = some (.ireturn, 1, 0, 0) := by decide +kernel
theorem k143_62 : mj_look (mj_prog 143) 62 = some (.iload_n 1, 1, 0, 0) := by decide +kernel
theorem k143_63 : mj_look (mj_prog 143) 63 = some (.ifCond .eq 11, 3, 74, 0) := by decide +kernel
theorem k143_66 : mj_look (mj_prog 143) 66 = some (.iload_n 2, 1, 0, 0) := by decide +kernel
theorem k143_67 : mj_look (mj_prog 143) 67 = some (.ifCond .eq 7, 3, 74, 0) := by decide +kernel
theorem k143_70 : mj_look (mj_prog 143) 70 = some (.iconst 1, 1, 0, 0) := by decide +kernel
theorem k143_71 : mj_look (mj_prog 143) 71 = some (.goto 4, 3, 75, 0) := by decide +kernel
theorem k143_74 : mj_look (mj_prog 143) 74 = some (.iconst 0, 1, 0, 0) := by decide +kernel
theorem k143_75 : mj_look (mj_prog 143) 75 = some (.ireturn, 1, 0, 0) := by decide +kernel
theorem k143_76 : mj_look (mj_prog 143) 76 = some (.iload_n 1, 1, 0, 0) := by decide +kernel
theorem k143_77 : mj_look (mj_prog 143) 77 = some (.iload_n 2, 1, 0, 0) := by decide +kernel
theorem k143_78 : mj_look (mj_prog 143) 78 = some (.if_icmp .ge 7, 3, 85, 0) := by decide +kernel
theorem k143_81 : mj_look (mj_prog 143) 81 = some (.iconst 1, 1, 0, 0) := by decide +kernel
theorem k143_82 : mj_look (mj_prog 143) 82 = some (.goto 4, 3, 86, 0) := by decide +kernel
theorem k143_85 : mj_look (mj_prog 143) 85 = some (.iconst 0, 1, 0, 0) := by decide +kernel
theorem k143_86 : mj_look (mj_prog 143) 86 = some (.ireturn, 1, 0, 0) := by decide +kernel
theorem k143_87 : mj_look (mj_prog 143) 87 = some (.iload_n 1, 1, 0, 0) := by decide +kernel
theorem k143_88 : mj_look (mj_prog 143) 88 = some (.iload_n 2, 1, 0, 0) := by decide +kernel
theorem k143_89 : mj_look (mj_prog 143) 89 = some (.if_icmp .ne 7, 3, 96, 0) := by decide +kernel
theorem k143_92 : mj_look (mj_prog 143) 92 = some (.iconst 1, 1, 0, 0) := by decide +kernel
theorem k143_93 : mj_look (mj_prog 143) 93 = some (.goto 4, 3, 97, 0) := by decide +kernel
theorem k143_96 : mj_look (mj_prog 143) 96 = some (.iconst 0, 1, 0, 0) := by decide +kernel
theorem k143_97 : mj_look (mj_prog 143) 97 = some (.ireturn, 1, 0, 0) := by decide +kernel
theorem k143_98 : mj_look (mj_prog 143) 98 = some (.iload_n 1, 1, 0, 0) := by decide +kernel
theorem k143_99 : mj_look (mj_prog 143) 99 = some (.iload_n 2, 1, 0, 0) := by decide +kernel
theorem k143_100 : mj_look (mj_prog 143) 100 = some (.if_icmp .le 7, 3, 107, 0) := by decide +kernel
theorem k143_103 : mj_look (mj_prog 143) 103 = some (.iconst 1, 1, 0, 0) := by decide +kernel
theorem k143_104 : mj_look (mj_prog 143) 104 = some (.goto 4, 3, 108, 0) := by decide +kernel
theorem k143_107 : mj_look (mj_prog 143) 107 = some (.iconst 0, 1, 0, 0) := by decide +kernel
theorem k143_108 : mj_look (mj_prog 143) 108 = some (.ireturn, 1, 0, 0) := by decide +kernel
theorem k143_109 : mj_look (mj_prog 143) 109 = some (.iload_n 1, 1, 0, 0) := by decide +kernel
theorem k143_110 : mj_look (mj_prog 143) 110 = some (.iload_n 2, 1, 0, 0) := by decide +kernel
theorem k143_111 : mj_look (mj_prog 143) 111 = some (.iadd, 1, 0, 0) := by decide +kernel
theorem k143_112 : mj_look (mj_prog 143) 112 = some (.ireturn, 1, 0, 0) := by decide +kernel
theorem k143_113 : mj_look (mj_prog 143) 113 = some (.iload_n 1, 1, 0, 0) := by decide +kernel
theorem k143_114 : mj_look (mj_prog 143) 114 = some (.iload_n 2, 1, 0, 0) := by decide +kernel
theorem k143_115 : mj_look (mj_prog 143) 115 = some (.isub, 1, 0, 0) := by decide +kernel
theorem k143_116 : mj_look (mj_prog 143) 116 = some (.ireturn, 1, 0, 0) := by decide +kernel
theorem k143_117 : mj_look (mj_prog 143) 117 = some (.iload_n 1, 1, 0, 0) := by decide +kernel
theorem k143_118 : mj_look (mj_prog 143) 118 = some (.iload_n 2, 1, 0, 0) := by decide +kernel
theorem k143_119 : mj_look (mj_prog 143) 119 = some (.imul, 1, 0, 0) := by decide +kernel
theorem k143_120 : mj_look (mj_prog 143) 120 = some (.ireturn, 1, 0, 0) := by decide +kernel
theorem k143_121 : mj_look (mj_prog 143) 121 = some (.iload_n 2, 1, 0, 0) := by decide +kernel
theorem k143_122 : mj_look (mj_prog 143) 122 = some (.ifCond .ne 7, 3, 129, 0) := by decide +kernel
theorem k143_125 : mj_look (mj_prog 143) 125 = some (.iconst 0, 1, 0, 0) := by decide +kernel
theorem k143_126 : mj_look (mj_prog 143) 126 = some (.goto 6, 3, 132, 0) := by decide +kernel
theorem k143_129 : mj_look (mj_prog 143) 129 = some (.iload_n 1, 1, 0, 0) := by decide +kernel
theorem k143_130 : mj_look (mj_prog 143) 130 = some (.iload_n 2, 1, 0, 0) := by decide +kernel
theorem k143_131 : mj_look (mj_prog 143) 131 = some (.idiv, 1, 0, 0) := by decide +kernel
theorem k143_132 : mj_look (mj_prog 143) 132 = some (.ireturn, 1, 0, 0) := by decide +kernel
theorem mx_144 : (mj_m 144).2.2.1 = 3 := by decide +kernel
theorem rt_144 : (mj_m 144).2.2.2.1 = (some FieldType.int) := by decide +kernel
theorem dp_144 : mj_disp 144 12 = some 144 := by decide +kernel
theorem pq_144 : mj_prog 144 = mj_p144 := rfl
theorem k144_0 : mj_look (mj_prog 144) 0 = some (.iload_n 0, 1, 0, 0) := by decide +kernel
theorem k144_1 : mj_look (mj_prog 144) 1 = some (.iload_n 1, 1, 0, 0) := by decide +kernel
theorem k144_2 : mj_look (mj_prog 144) 2 = some (.if_icmp .ge 7, 3, 9, 0) := by decide +kernel
theorem k144_5 : mj_look (mj_prog 144) 5 = some (.iload_n 1, 1, 0, 0) := by decide +kernel
theorem k144_6 : mj_look (mj_prog 144) 6 = some (.goto 13, 3, 19, 0) := by decide +kernel
theorem k144_9 : mj_look (mj_prog 144) 9 = some (.iload_n 0, 1, 0, 0) := by decide +kernel
theorem k144_10 : mj_look (mj_prog 144) 10 = some (.iload_n 2, 1, 0, 0) := by decide +kernel
theorem k144_11 : mj_look (mj_prog 144) 11 = some (.if_icmp .le 7, 3, 18, 0) := by decide +kernel
theorem k144_14 : mj_look (mj_prog 144) 14 = some (.iload_n 2, 1, 0, 0) := by decide +kernel
theorem k144_15 : mj_look (mj_prog 144) 15 = some (.goto 4, 3, 19, 0) := by decide +kernel
theorem k144_18 : mj_look (mj_prog 144) 18 = some (.iload_n 0, 1, 0, 0) := by decide +kernel
theorem k144_19 : mj_look (mj_prog 144) 19 = some (.ireturn, 1, 0, 0) := by decide +kernel
theorem mx_145 : (mj_m 145).2.2.1 = 3 := by decide +kernel
theorem rt_145 : (mj_m 145).2.2.2.1 = (some FieldType.int) := by decide +kernel
theorem dp_145 : mj_disp 145 12 = some 145 := by decide +kernel
theorem pq_145 : mj_prog 145 = mj_p145 := rfl
theorem k145_0 : mj_look (mj_prog 145) 0 = some (.aload_n 0, 1, 0, 0) := by decide +kernel
theorem k145_1 : mj_look (mj_prog 145) 1 = some (.iload_n 1, 1, 0, 0) := by decide +kernel
theorem k145_2 : mj_look (mj_prog 145) 2 = some (.invokevirtual 103, 3, 137, 1) := by decide +kernel
theorem k145_5 : mj_look (mj_prog 145) 5 = some (.ifCond .ne 6, 3, 11, 0) := by decide +kernel
theorem k145_8 : mj_look (mj_prog 145) 8 = some (.ldc 83, 2, 3294967295, 0) := by decide +kernel
theorem k145_10 : mj_look (mj_prog 145) 10 = some (.ireturn, 1, 0, 0) := by decide +kernel
theorem k145_11 : mj_look (mj_prog 145) 11 = some (.iload_n 2, 1, 0, 0) := by decide +kernel
theorem k145_12 : mj_look (mj_prog 145) 12 = some (.tableswitch 100 0 10 #[60, 60, 60, 60, 60, 60, 60, 67, 82, 88, 94], 60, 0, 0) := by decide +kernel
theorem k145_72 : mj_look (mj_prog 145) 72 = some (.aload_n 0, 1, 0, 0) := by decide +kernel
theorem k145_73 : mj_look (mj_prog 145) 73 = some (.iload_n 1, 1, 0, 0) := by decide +kernel
theorem k145_74 : mj_look (mj_prog 145) 74 = some (.iload_n 2, 1, 0, 0) := by decide +kernel
theorem k145_75 : mj_look (mj_prog 145) 75 = some (.invokevirtual 93, 3, 141, 2) := by decide +kernel
theorem k145_78 : mj_look (mj_prog 145) 78 = some (.ireturn, 1, 0, 0) := by decide +kernel
theorem k145_79 : mj_look (mj_prog 145) 79 = some (.aload_n 0, 1, 0, 0) := by decide +kernel
theorem k145_80 : mj_look (mj_prog 145) 80 = some (.iload_n 1, 1, 0, 0) := by decide +kernel
theorem k145_81 : mj_look (mj_prog 145) 81 = some (.aload_n 0, 1, 0, 0) := by decide +kernel
theorem k145_82 : mj_look (mj_prog 145) 82 = some (.iload_n 1, 1, 0, 0) := by decide +kernel
theorem k145_83 : mj_look (mj_prog 145) 83 = some (.iconst 1, 1, 0, 0) := by decide +kernel
theorem k145_84 : mj_look (mj_prog 145) 84 = some (.invokevirtual 93, 3, 141, 2) := by decide +kernel
theorem k145_87 : mj_look (mj_prog 145) 87 = some (.bipush 20, 2, 0, 0) := by decide +kernel
theorem k145_89 : mj_look (mj_prog 145) 89 = some (.idiv, 1, 0, 0) := by decide +kernel
theorem k145_90 : mj_look (mj_prog 145) 90 = some (.invokevirtual 110, 3, 139, 2) := by decide +kernel
theorem k145_93 : mj_look (mj_prog 145) 93 = some (.ireturn, 1, 0, 0) := by decide +kernel
theorem k145_94 : mj_look (mj_prog 145) 94 = some (.aload_n 0, 1, 0, 0) := by decide +kernel
theorem k145_95 : mj_look (mj_prog 145) 95 = some (.iload_n 1, 1, 0, 0) := by decide +kernel
theorem k145_96 : mj_look (mj_prog 145) 96 = some (.invokevirtual 113, 3, 146, 1) := by decide +kernel
theorem k145_99 : mj_look (mj_prog 145) 99 = some (.ireturn, 1, 0, 0) := by decide +kernel
theorem k145_100 : mj_look (mj_prog 145) 100 = some (.aload_n 0, 1, 0, 0) := by decide +kernel
theorem k145_101 : mj_look (mj_prog 145) 101 = some (.iload_n 1, 1, 0, 0) := by decide +kernel
theorem k145_102 : mj_look (mj_prog 145) 102 = some (.invokevirtual 116, 3, 147, 1) := by decide +kernel
theorem k145_105 : mj_look (mj_prog 145) 105 = some (.ireturn, 1, 0, 0) := by decide +kernel
theorem k145_106 : mj_look (mj_prog 145) 106 = some (.aload_n 0, 1, 0, 0) := by decide +kernel
theorem k145_107 : mj_look (mj_prog 145) 107 = some (.iload_n 1, 1, 0, 0) := by decide +kernel
theorem k145_108 : mj_look (mj_prog 145) 108 = some (.invokevirtual 119, 3, 148, 1) := by decide +kernel
theorem k145_111 : mj_look (mj_prog 145) 111 = some (.ireturn, 1, 0, 0) := by decide +kernel
theorem k145_112 : mj_look (mj_prog 145) 112 = some (.ldc 83, 2, 3294967295, 0) := by decide +kernel
theorem k145_114 : mj_look (mj_prog 145) 114 = some (.ireturn, 1, 0, 0) := by decide +kernel
theorem mx_146 : (mj_m 146).2.2.1 = 5 := by decide +kernel
theorem rt_146 : (mj_m 146).2.2.2.1 = (some FieldType.int) := by decide +kernel
theorem dp_146 : mj_disp 146 12 = some 146 := by decide +kernel
theorem pq_146 : mj_prog 146 = mj_p146 := rfl
theorem k146_0 : mj_look (mj_prog 146) 0 = some (.iconst (-1), 1, 0, 0) := by decide +kernel
theorem k146_1 : mj_look (mj_prog 146) 1 = some (.istore_n 2, 1, 0, 0) := by decide +kernel
theorem k146_2 : mj_look (mj_prog 146) 2 = some (.iconst 0, 1, 0, 0) := by decide +kernel
theorem k146_3 : mj_look (mj_prog 146) 3 = some (.istore_n 3, 1, 0, 0) := by decide +kernel
theorem k146_4 : mj_look (mj_prog 146) 4 = some (.iload_n 3, 1, 0, 0) := by decide +kernel
theorem k146_5 : mj_look (mj_prog 146) 5 = some (.aload_n 0, 1, 0, 0) := by decide +kernel
theorem k146_6 : mj_look (mj_prog 146) 6 = some (.getfield 9, 3, 12, 0) := by decide +kernel
theorem k146_9 : mj_look (mj_prog 146) 9 = some (.iconst 1, 1, 0, 0) := by decide +kernel
theorem k146_10 : mj_look (mj_prog 146) 10 = some (.iaload, 1, 0, 0) := by decide +kernel
theorem k146_11 : mj_look (mj_prog 146) 11 = some (.if_icmp .ge 82, 3, 93, 0) := by decide +kernel
theorem k146_14 : mj_look (mj_prog 146) 14 = some (.iload_n 3, 1, 0, 0) := by decide +kernel
theorem k146_15 : mj_look (mj_prog 146) 15 = some (.iload_n 1, 1, 0, 0) := by decide +kernel
theorem k146_16 : mj_look (mj_prog 146) 16 = some (.if_icmp .eq 71, 3, 87, 0) := by decide +kernel
theorem k146_19 : mj_look (mj_prog 146) 19 = some (.iload_n 3, 1, 0, 0) := by decide +kernel
theorem k146_20 : mj_look (mj_prog 146) 20 = some (.aload_n 0, 1, 0, 0) := by decide +kernel
theorem k146_21 : mj_look (mj_prog 146) 21 = some (.getfield 19, 3, 12, 4) := by decide +kernel
theorem k146_24 : mj_look (mj_prog 146) 24 = some (.if_icmp .eq 63, 3, 87, 0) := by decide +kernel
theorem k146_27 : mj_look (mj_prog 146) 27 = some (.aload_n 0, 1, 0, 0) := by decide +kernel
theorem k146_28 : mj_look (mj_prog 146) 28 = some (.iload_n 3, 1, 0, 0) := by decide +kernel
theorem k146_29 : mj_look (mj_prog 146) 29 = some (.iconst 1, 1, 0, 0) := by decide +kernel
theorem k146_30 : mj_look (mj_prog 146) 30 = some (.invokevirtual 93, 3, 141, 2) := by decide +kernel
theorem k146_33 : mj_look (mj_prog 146) 33 = some (.aload_n 0, 1, 0, 0) := by decide +kernel
theorem k146_34 : mj_look (mj_prog 146) 34 = some (.iload_n 1, 1, 0, 0) := by decide +kernel
theorem k146_35 : mj_look (mj_prog 146) 35 = some (.iconst 1, 1, 0, 0) := by decide +kernel
theorem k146_36 : mj_look (mj_prog 146) 36 = some (.invokevirtual 93, 3, 141, 2) := by decide +kernel
theorem k146_39 : mj_look (mj_prog 146) 39 = some (.isub, 1, 0, 0) := by decide +kernel
theorem k146_40 : mj_look (mj_prog 146) 40 = some (.sipush 240, 3, 0, 0) := by decide +kernel
theorem k146_43 : mj_look (mj_prog 146) 43 = some (.iadd, 1, 0, 0) := by decide +kernel
theorem k146_44 : mj_look (mj_prog 146) 44 = some (.sipush 240, 3, 0, 0) := by decide +kernel
theorem k146_47 : mj_look (mj_prog 146) 47 = some (.irem, 1, 0, 0) := by decide +kernel
theorem k146_48 : mj_look (mj_prog 146) 48 = some (.istore 4, 2, 0, 0) := by decide +kernel
theorem k146_50 : mj_look (mj_prog 146) 50 = some (.iload 4, 2, 0, 0) := by decide +kernel
theorem k146_52 : mj_look (mj_prog 146) 52 = some (.ifCond .ne 14, 3, 66, 0) := by decide +kernel
theorem k146_55 : mj_look (mj_prog 146) 55 = some (.iload_n 3, 1, 0, 0) := by decide +kernel
theorem k146_56 : mj_look (mj_prog 146) 56 = some (.iload_n 1, 1, 0, 0) := by decide +kernel
theorem k146_57 : mj_look (mj_prog 146) 57 = some (.if_icmp .ge 9, 3, 66, 0) := by decide +kernel
theorem k146_60 : mj_look (mj_prog 146) 60 = some (.sipush 240, 3, 0, 0) := by decide +kernel
theorem k146_63 : mj_look (mj_prog 146) 63 = some (.goto 5, 3, 68, 0) := by decide +kernel
theorem k146_66 : mj_look (mj_prog 146) 66 = some (.iload 4, 2, 0, 0) := by decide +kernel
theorem k146_68 : mj_look (mj_prog 146) 68 = some (.istore 4, 2, 0, 0) := by decide +kernel
theorem k146_70 : mj_look (mj_prog 146) 70 = some (.iload_n 2, 1, 0, 0) := by decide +kernel
theorem k146_71 : mj_look (mj_prog 146) 71 = some (.ifCond .lt 9, 3, 80, 0) := by decide +kernel
theorem k146_74 : mj_look (mj_prog 146) 74 = some (.iload 4, 2, 0, 0) := by decide +kernel
theorem k146_76 : mj_look (mj_prog 146) 76 = some (.iload_n 2, 1, 0, 0) := by decide +kernel
theorem k146_77 : mj_look (mj_prog 146) 77 = some (.if_icmp .ge 8, 3, 85, 0) := by decide +kernel
theorem k146_80 : mj_look (mj_prog 146) 80 = some (.iload 4, 2, 0, 0) := by decide +kernel
theorem k146_82 : mj_look (mj_prog 146) 82 = some (.goto 4, 3, 86, 0) := by decide +kernel
theorem k146_85 : mj_look (mj_prog 146) 85 = some (.iload_n 2, 1, 0, 0) := by decide +kernel
theorem k146_86 : mj_look (mj_prog 146) 86 = some (.istore_n 2, 1, 0, 0) := by decide +kernel
theorem k146_87 : mj_look (mj_prog 146) 87 = some (.iinc 3 1, 3, 0, 0) := by decide +kernel
theorem k146_90 : mj_look (mj_prog 146) 90 = some (.goto (-86), 3, 4, 0) := by decide +kernel
theorem k146_93 : mj_look (mj_prog 146) 93 = some (.iload_n 2, 1, 0, 0) := by decide +kernel
theorem k146_94 : mj_look (mj_prog 146) 94 = some (.ifCond .ge 9, 3, 103, 0) := by decide +kernel
theorem k146_97 : mj_look (mj_prog 146) 97 = some (.sipush 240, 3, 0, 0) := by decide +kernel
theorem k146_100 : mj_look (mj_prog 146) 100 = some (.goto 11, 3, 111, 0) := by decide +kernel
theorem k146_103 : mj_look (mj_prog 146) 103 = some (.iload_n 2, 1, 0, 0) := by decide +kernel
theorem k146_104 : mj_look (mj_prog 146) 104 = some (.aload_n 0, 1, 0, 0) := by decide +kernel
theorem k146_105 : mj_look (mj_prog 146) 105 = some (.getfield 9, 3, 12, 0) := by decide +kernel
theorem k146_108 : mj_look (mj_prog 146) 108 = some (.iconst 3, 1, 0, 0) := by decide +kernel
theorem k146_109 : mj_look (mj_prog 146) 109 = some (.iaload, 1, 0, 0) := by decide +kernel
theorem k146_110 : mj_look (mj_prog 146) 110 = some (.isub, 1, 0, 0) := by decide +kernel
theorem k146_111 : mj_look (mj_prog 146) 111 = some (.ireturn, 1, 0, 0) := by decide +kernel
theorem mx_147 : (mj_m 147).2.2.1 = 2 := by decide +kernel
theorem rt_147 : (mj_m 147).2.2.2.1 = (some FieldType.int) := by decide +kernel
theorem dp_147 : mj_disp 147 12 = some 147 := by decide +kernel
theorem pq_147 : mj_prog 147 = mj_p147 := rfl
theorem k147_0 : mj_look (mj_prog 147) 0 = some (.aload_n 0, 1, 0, 0) := by decide +kernel
theorem k147_1 : mj_look (mj_prog 147) 1 = some (.iload_n 1, 1, 0, 0) := by decide +kernel
theorem k147_2 : mj_look (mj_prog 147) 2 = some (.iconst 0, 1, 0, 0) := by decide +kernel
theorem k147_3 : mj_look (mj_prog 147) 3 = some (.invokevirtual 93, 3, 141, 2) := by decide +kernel
theorem k147_6 : mj_look (mj_prog 147) 6 = some (.tableswitch 42 1 5 #[34, 36, 34, 38, 40], 34, 0, 0) := by decide +kernel
theorem k147_40 : mj_look (mj_prog 147) 40 = some (.iconst 1, 1, 0, 0) := by decide +kernel
theorem k147_41 : mj_look (mj_prog 147) 41 = some (.ireturn, 1, 0, 0) := by decide +kernel
theorem k147_42 : mj_look (mj_prog 147) 42 = some (.iconst 3, 1, 0, 0) := by decide +kernel
theorem k147_43 : mj_look (mj_prog 147) 43 = some (.ireturn, 1, 0, 0) := by decide +kernel
theorem k147_44 : mj_look (mj_prog 147) 44 = some (.iconst 4, 1, 0, 0) := by decide +kernel
theorem k147_45 : mj_look (mj_prog 147) 45 = some (.ireturn, 1, 0, 0) := by decide +kernel
theorem k147_46 : mj_look (mj_prog 147) 46 = some (.iconst 0, 1, 0, 0) := by decide +kernel
theorem k147_47 : mj_look (mj_prog 147) 47 = some (.ireturn, 1, 0, 0) := by decide +kernel
theorem k147_48 : mj_look (mj_prog 147) 48 = some (.iconst 2, 1, 0, 0) := by decide +kernel
theorem k147_49 : mj_look (mj_prog 147) 49 = some (.ireturn, 1, 0, 0) := by decide +kernel
theorem mx_148 : (mj_m 148).2.2.1 = 3 := by decide +kernel
theorem rt_148 : (mj_m 148).2.2.2.1 = (some FieldType.int) := by decide +kernel
theorem dp_148 : mj_disp 148 12 = some 148 := by decide +kernel
theorem pq_148 : mj_prog 148 = mj_p148 := rfl
theorem k148_0 : mj_look (mj_prog 148) 0 = some (.aload_n 0, 1, 0, 0) := by decide +kernel
theorem k148_1 : mj_look (mj_prog 148) 1 = some (.iload_n 1, 1, 0, 0) := by decide +kernel
theorem k148_2 : mj_look (mj_prog 148) 2 = some (.iconst 2, 1, 0, 0) := by decide +kernel
theorem k148_3 : mj_look (mj_prog 148) 3 = some (.invokevirtual 93, 3, 141, 2) := by decide +kernel
theorem k148_6 : mj_look (mj_prog 148) 6 = some (.istore_n 2, 1, 0, 0) := by decide +kernel
theorem k148_7 : mj_look (mj_prog 148) 7 = some (.aload_n 0, 1, 0, 0) := by decide +kernel
theorem k148_8 : mj_look (mj_prog 148) 8 = some (.iload_n 1, 1, 0, 0) := by decide +kernel
theorem k148_9 : mj_look (mj_prog 148) 9 = some (.iconst 0, 1, 0, 0) := by decide +kernel
theorem k148_10 : mj_look (mj_prog 148) 10 = some (.invokevirtual 93, 3, 141, 2) := by decide +kernel
theorem k148_13 : mj_look (mj_prog 148) 13 = some (.tableswitch 59 1 5 #[35, 40, 45, 52, 57], 35, 0, 0) := by decide +kernel
theorem k148_48 : mj_look (mj_prog 148) 48 = some (.iload_n 2, 1, 0, 0) := by decide +kernel
theorem k148_49 : mj_look (mj_prog 148) 49 = some (.bipush 8, 2, 0, 0) := by decide +kernel
theorem k148_51 : mj_look (mj_prog 148) 51 = some (.iadd, 1, 0, 0) := by decide +kernel
theorem k148_52 : mj_look (mj_prog 148) 52 = some (.ireturn, 1, 0, 0) := by decide +kernel
theorem k148_53 : mj_look (mj_prog 148) 53 = some (.bipush 99, 2, 0, 0) := by decide +kernel
theorem k148_55 : mj_look (mj_prog 148) 55 = some (.iload_n 2, 1, 0, 0) := by decide +kernel
theorem k148_56 : mj_look (mj_prog 148) 56 = some (.isub, 1, 0, 0) := by decide +kernel
theorem k148_57 : mj_look (mj_prog 148) 57 = some (.ireturn, 1, 0, 0) := by decide +kernel
theorem k148_58 : mj_look (mj_prog 148) 58 = some (.iconst 2, 1, 0, 0) := by decide +kernel
theorem k148_59 : mj_look (mj_prog 148) 59 = some (.iload_n 2, 1, 0, 0) := by decide +kernel
theorem k148_60 : mj_look (mj_prog 148) 60 = some (.bipush 8, 2, 0, 0) := by decide +kernel
theorem k148_62 : mj_look (mj_prog 148) 62 = some (.iadd, 1, 0, 0) := by decide +kernel
theorem k148_63 : mj_look (mj_prog 148) 63 = some (.imul, 1, 0, 0) := by decide +kernel
theorem k148_64 : mj_look (mj_prog 148) 64 = some (.ireturn, 1, 0, 0) := by decide +kernel
theorem k148_65 : mj_look (mj_prog 148) 65 = some (.bipush 96, 2, 0, 0) := by decide +kernel
theorem k148_67 : mj_look (mj_prog 148) 67 = some (.iload_n 2, 1, 0, 0) := by decide +kernel
theorem k148_68 : mj_look (mj_prog 148) 68 = some (.isub, 1, 0, 0) := by decide +kernel
theorem k148_69 : mj_look (mj_prog 148) 69 = some (.ireturn, 1, 0, 0) := by decide +kernel
theorem k148_70 : mj_look (mj_prog 148) 70 = some (.iconst 4, 1, 0, 0) := by decide +kernel
theorem k148_71 : mj_look (mj_prog 148) 71 = some (.ireturn, 1, 0, 0) := by decide +kernel
theorem k148_72 : mj_look (mj_prog 148) 72 = some (.iload_n 2, 1, 0, 0) := by decide +kernel
theorem k148_73 : mj_look (mj_prog 148) 73 = some (.ireturn, 1, 0, 0) := by decide +kernel
theorem mx_149 : (mj_m 149).2.2.1 = 3 := by decide +kernel
theorem rt_149 : (mj_m 149).2.2.2.1 = (some FieldType.int) := by decide +kernel
theorem dp_149 : mj_disp 149 12 = some 149 := by decide +kernel
theorem pq_149 : mj_prog 149 = mj_p149 := rfl
theorem k149_0 : mj_look (mj_prog 149) 0 = some (.aload_n 0, 1, 0, 0) := by decide +kernel
theorem k149_1 : mj_look (mj_prog 149) 1 = some (.iload_n 1, 1, 0, 0) := by decide +kernel
theorem k149_2 : mj_look (mj_prog 149) 2 = some (.invokevirtual 103, 3, 137, 1) := by decide +kernel
theorem k149_5 : mj_look (mj_prog 149) 5 = some (.ifCond .eq 12, 3, 17, 0) := by decide +kernel
theorem k149_8 : mj_look (mj_prog 149) 8 = some (.iload_n 2, 1, 0, 0) := by decide +kernel
theorem k149_9 : mj_look (mj_prog 149) 9 = some (.iconst 0, 1, 0, 0) := by decide +kernel
theorem k149_10 : mj_look (mj_prog 149) 10 = some (.iconst 5, 1, 0, 0) := by decide +kernel
theorem k149_11 : mj_look (mj_prog 149) 11 = some (.invokestatic 79, 3, 134, 3) := by decide +kernel
theorem k149_14 : mj_look (mj_prog 149) 14 = some (.ifCond .ne 6, 3, 20, 0) := by decide +kernel
theorem k149_17 : mj_look (mj_prog 149) 17 = some (.ldc 83, 2, 3294967295, 0) := by decide +kernel
theorem k149_19 : mj_look (mj_prog 149) 19 = some (.ireturn, 1, 0, 0) := by decide +kernel
theorem k149_20 : mj_look (mj_prog 149) 20 = some (.aload_n 0, 1, 0, 0) := by decide +kernel
theorem k149_21 : mj_look (mj_prog 149) 21 = some (.iload_n 1, 1, 0, 0) := by decide +kernel
theorem k149_22 : mj_look (mj_prog 149) 22 = some (.iconst 0, 1, 0, 0) := by decide +kernel
theorem k149_23 : mj_look (mj_prog 149) 23 = some (.invokevirtual 93, 3, 141, 2) := by decide +kernel
theorem k149_26 : mj_look (mj_prog 149) 26 = some (.iload_n 2, 1, 0, 0) := by decide +kernel
theorem k149_27 : mj_look (mj_prog 149) 27 = some (.invokestatic 122, 3, 150, 2) := by decide +kernel
theorem k149_30 : mj_look (mj_prog 149) 30 = some (.ifCond .eq 12, 3, 42, 0) := by decide +kernel
theorem k149_33 : mj_look (mj_prog 149) 33 = some (.aload_n 0, 1, 0, 0) := by decide +kernel
theorem k149_34 : mj_look (mj_prog 149) 34 = some (.iload_n 1, 1, 0, 0) := by decide +kernel
theorem k149_35 : mj_look (mj_prog 149) 35 = some (.iconst 2, 1, 0, 0) := by decide +kernel
theorem k149_36 : mj_look (mj_prog 149) 36 = some (.invokevirtual 93, 3, 141, 2) := by decide +kernel
theorem k149_39 : mj_look (mj_prog 149) 39 = some (.goto 5, 3, 44, 0) := by decide +kernel
theorem k149_42 : mj_look (mj_prog 149) 42 = some (.ldc 126, 2, 3294967284, 0) := by decide +kernel
theorem k149_44 : mj_look (mj_prog 149) 44 = some (.ireturn, 1, 0, 0) := by decide +kernel
theorem mx_150 : (mj_m 150).2.2.1 = 2 := by decide +kernel
theorem rt_150 : (mj_m 150).2.2.2.1 = (some FieldType.boolean) := by decide +kernel
theorem dp_150 : mj_disp 150 12 = some 150 := by decide +kernel
theorem pq_150 : mj_prog 150 = mj_p150 := rfl
theorem k150_0 : mj_look (mj_prog 150) 0 = some (.iload_n 1, 1, 0, 0) := by decide +kernel
theorem k150_1 : mj_look (mj_prog 150) 1 = some (.ifCond .eq 28, 3, 29, 0) := by decide +kernel
theorem k150_4 : mj_look (mj_prog 150) 4 = some (.iload_n 0, 1, 0, 0) := by decide +kernel
theorem k150_5 : mj_look (mj_prog 150) 5 = some (.iload_n 1, 1, 0, 0) := by decide +kernel
theorem k150_6 : mj_look (mj_prog 150) 6 = some (.if_icmp .eq 23, 3, 29, 0) := by decide +kernel
theorem k150_9 : mj_look (mj_prog 150) 9 = some (.iload_n 1, 1, 0, 0) := by decide +kernel
theorem k150_10 : mj_look (mj_prog 150) 10 = some (.iconst 1, 1, 0, 0) := by decide +kernel
theorem k150_11 : mj_look (mj_prog 150) 11 = some (.if_icmp .ne 8, 3, 19, 0) := by decide +kernel
theorem k150_14 : mj_look (mj_prog 150) 14 = some (.iload_n 0, 1, 0, 0) := by decide +kernel
theorem k150_15 : mj_look (mj_prog 150) 15 = some (.iconst 3, 1, 0, 0) := by decide +kernel
theorem k150_16 : mj_look (mj_prog 150) 16 = some (.if_icmp .eq 13, 3, 29, 0) := by decide +kernel
theorem k150_19 : mj_look (mj_prog 150) 19 = some (.iload_n 1, 1, 0, 0) := by decide +kernel
theorem k150_20 : mj_look (mj_prog 150) 20 = some (.iconst 2, 1, 0, 0) := by decide +kernel
theorem k150_21 : mj_look (mj_prog 150) 21 = some (.if_icmp .ne 12, 3, 33, 0) := by decide +kernel
theorem k150_24 : mj_look (mj_prog 150) 24 = some (.iload_n 0, 1, 0, 0) := by decide +kernel
theorem k150_25 : mj_look (mj_prog 150) 25 = some (.iconst 4, 1, 0, 0) := by decide +kernel
theorem k150_26 : mj_look (mj_prog 150) 26 = some (.if_icmp .ne 7, 3, 33, 0) := by decide +kernel
theorem k150_29 : mj_look (mj_prog 150) 29 = some (.iconst 1, 1, 0, 0) := by decide +kernel
theorem k150_30 : mj_look (mj_prog 150) 30 = some (.goto 4, 3, 34, 0) := by decide +kernel
theorem k150_33 : mj_look (mj_prog 150) 33 = some (.iconst 0, 1, 0, 0) := by decide +kernel
theorem k150_34 : mj_look (mj_prog 150) 34 = some (.ireturn, 1, 0, 0) := by decide +kernel
theorem mx_151 : (mj_m 151).2.2.1 = 3 := by decide +kernel
theorem rt_151 : (mj_m 151).2.2.2.1 = (some FieldType.int) := by decide +kernel
theorem dp_151 : mj_disp 151 12 = some 151 := by decide +kernel
theorem pq_151 : mj_prog 151 = mj_p151 := rfl
theorem k151_0 : mj_look (mj_prog 151) 0 = some (.aload_n 0, 1, 0, 0) := by decide +kernel
theorem k151_1 : mj_look (mj_prog 151) 1 = some (.iload_n 1, 1, 0, 0) := by decide +kernel
theorem k151_2 : mj_look (mj_prog 151) 2 = some (.invokevirtual 103, 3, 137, 1) := by decide +kernel
theorem k151_5 : mj_look (mj_prog 151) 5 = some (.ifCond .eq 27, 3, 32, 0) := by decide +kernel
theorem k151_8 : mj_look (mj_prog 151) 8 = some (.iload_n 2, 1, 0, 0) := by decide +kernel
theorem k151_9 : mj_look (mj_prog 151) 9 = some (.iconst 0, 1, 0, 0) := by decide +kernel
theorem k151_10 : mj_look (mj_prog 151) 10 = some (.iconst 5, 1, 0, 0) := by decide +kernel
theorem k151_11 : mj_look (mj_prog 151) 11 = some (.invokestatic 79, 3, 134, 3) := by decide +kernel
theorem k151_14 : mj_look (mj_prog 151) 14 = some (.ifCond .eq 18, 3, 32, 0) := by decide +kernel
theorem k151_17 : mj_look (mj_prog 151) 17 = some (.aload_n 0, 1, 0, 0) := by decide +kernel
theorem k151_18 : mj_look (mj_prog 151) 18 = some (.bipush 53, 2, 0, 0) := by decide +kernel
theorem k151_20 : mj_look (mj_prog 151) 20 = some (.bipush 7, 2, 0, 0) := by decide +kernel
theorem k151_22 : mj_look (mj_prog 151) 22 = some (.iload_n 1, 1, 0, 0) := by decide +kernel
theorem k151_23 : mj_look (mj_prog 151) 23 = some (.imul, 1, 0, 0) := by decide +kernel
theorem k151_24 : mj_look (mj_prog 151) 24 = some (.iadd, 1, 0, 0) := by decide +kernel
theorem k151_25 : mj_look (mj_prog 151) 25 = some (.iload_n 2, 1, 0, 0) := by decide +kernel
theorem k151_26 : mj_look (mj_prog 151) 26 = some (.invokevirtual 127, 3, 152, 2) := by decide +kernel
theorem k151_29 : mj_look (mj_prog 151) 29 = some (.goto 5, 3, 34, 0) := by decide +kernel
theorem k151_32 : mj_look (mj_prog 151) 32 = some (.ldc 83, 2, 3294967295, 0) := by decide +kernel
theorem k151_34 : mj_look (mj_prog 151) 34 = some (.ireturn, 1, 0, 0) := by decide +kernel
theorem mx_152 : (mj_m 152).2.2.1 = 4 := by decide +kernel
theorem rt_152 : (mj_m 152).2.2.2.1 = (some FieldType.int) := by decide +kernel
theorem dp_152 : mj_disp 152 12 = some 152 := by decide +kernel
theorem pq_152 : mj_prog 152 = mj_p152 := rfl
theorem k152_0 : mj_look (mj_prog 152) 0 = some (.aload_n 0, 1, 0, 0) := by decide +kernel
theorem k152_1 : mj_look (mj_prog 152) 1 = some (.getfield 9, 3, 12, 0) := by decide +kernel
theorem k152_4 : mj_look (mj_prog 152) 4 = some (.iload_n 1, 1, 0, 0) := by decide +kernel
theorem k152_5 : mj_look (mj_prog 152) 5 = some (.iaload, 1, 0, 0) := by decide +kernel
theorem k152_6 : mj_look (mj_prog 152) 6 = some (.istore_n 3, 1, 0, 0) := by decide +kernel
theorem k152_7 : mj_look (mj_prog 152) 7 = some (.aload_n 0, 1, 0, 0) := by decide +kernel
theorem k152_8 : mj_look (mj_prog 152) 8 = some (.getfield 9, 3, 12, 0) := by decide +kernel
theorem k152_11 : mj_look (mj_prog 152) 11 = some (.iload_n 1, 1, 0, 0) := by decide +kernel
theorem k152_12 : mj_look (mj_prog 152) 12 = some (.iload_n 2, 1, 0, 0) := by decide +kernel
theorem k152_13 : mj_look (mj_prog 152) 13 = some (.iastore, 1, 0, 0) := by decide +kernel
theorem k152_14 : mj_look (mj_prog 152) 14 = some (.iload_n 3, 1, 0, 0) := by decide +kernel
theorem k152_15 : mj_look (mj_prog 152) 15 = some (.ireturn, 1, 0, 0) := by decide +kernel
theorem mx_153 : (mj_m 153).2.2.1 = 4 := by decide +kernel
theorem rt_153 : (mj_m 153).2.2.2.1 = (some FieldType.int) := by decide +kernel
theorem dp_153 : mj_disp 153 12 = some 153 := by decide +kernel
theorem pq_153 : mj_prog 153 = mj_p153 := rfl
theorem k153_0 : mj_look (mj_prog 153) 0 = some (.aload_n 0, 1, 0, 0) := by decide +kernel
theorem k153_1 : mj_look (mj_prog 153) 1 = some (.iload_n 1, 1, 0, 0) := by decide +kernel
theorem k153_2 : mj_look (mj_prog 153) 2 = some (.invokevirtual 103, 3, 137, 1) := by decide +kernel
theorem k153_5 : mj_look (mj_prog 153) 5 = some (.ifCond .eq 52, 3, 57, 0) := by decide +kernel
theorem k153_8 : mj_look (mj_prog 153) 8 = some (.iload_n 2, 1, 0, 0) := by decide +kernel
theorem k153_9 : mj_look (mj_prog 153) 9 = some (.iconst 1, 1, 0, 0) := by decide +kernel
theorem k153_10 : mj_look (mj_prog 153) 10 = some (.iconst 2, 1, 0, 0) := by decide +kernel
theorem k153_11 : mj_look (mj_prog 153) 11 = some (.invokestatic 79, 3, 134, 3) := by decide +kernel
theorem k153_14 : mj_look (mj_prog 153) 14 = some (.ifCond .eq 43, 3, 57, 0) := by decide +kernel
theorem k153_17 : mj_look (mj_prog 153) 17 = some (.iload_n 3, 1, 0, 0) := by decide +kernel
theorem k153_18 : mj_look (mj_prog 153) 18 = some (.iload_n 2, 1, 0, 0) := by decide +kernel
theorem k153_19 : mj_look (mj_prog 153) 19 = some (.iconst 1, 1, 0, 0) := by decide +kernel
theorem k153_20 : mj_look (mj_prog 153) 20 = some (.isub, 1, 0, 0) := by decide +kernel
theorem k153_21 : mj_look (mj_prog 153) 21 = some (.iload_n 2, 1, 0, 0) := by decide +kernel
theorem k153_22 : mj_look (mj_prog 153) 22 = some (.iconst 1, 1, 0, 0) := by decide +kernel
theorem k153_23 : mj_look (mj_prog 153) 23 = some (.if_icmp .ne 9, 3, 32, 0) := by decide +kernel
theorem k153_26 : mj_look (mj_prog 153) 26 = some (.sipush 239, 3, 0, 0) := by decide +kernel
theorem k153_29 : mj_look (mj_prog 153) 29 = some (.goto 5, 3, 34, 0) := by decide +kernel
theorem k153_32 : mj_look (mj_prog 153) 32 = some (.bipush 99, 2, 0, 0) := by decide +kernel
theorem k153_34 : mj_look (mj_prog 153) 34 = some (.invokestatic 79, 3, 134, 3) := by decide +kernel
theorem k153_37 : mj_look (mj_prog 153) 37 = some (.ifCond .eq 20, 3, 57, 0) := by decide +kernel
theorem k153_40 : mj_look (mj_prog 153) 40 = some (.aload_n 0, 1, 0, 0) := by decide +kernel
theorem k153_41 : mj_look (mj_prog 153) 41 = some (.bipush 53, 2, 0, 0) := by decide +kernel
theorem k153_43 : mj_look (mj_prog 153) 43 = some (.bipush 7, 2, 0, 0) := by decide +kernel
theorem k153_45 : mj_look (mj_prog 153) 45 = some (.iload_n 1, 1, 0, 0) := by decide +kernel
theorem k153_46 : mj_look (mj_prog 153) 46 = some (.imul, 1, 0, 0) := by decide +kernel
theorem k153_47 : mj_look (mj_prog 153) 47 = some (.iadd, 1, 0, 0) := by decide +kernel
theorem k153_48 : mj_look (mj_prog 153) 48 = some (.iload_n 2, 1, 0, 0) := by decide +kernel
theorem k153_49 : mj_look (mj_prog 153) 49 = some (.iadd, 1, 0, 0) := by decide +kernel
theorem k153_50 : mj_look (mj_prog 153) 50 = some (.iload_n 3, 1, 0, 0) := by decide +kernel
theorem k153_51 : mj_look (mj_prog 153) 51 = some (.invokevirtual 127, 3, 152, 2) := by decide +kernel
theorem k153_54 : mj_look (mj_prog 153) 54 = some (.goto 5, 3, 59, 0) := by decide +kernel
theorem k153_57 : mj_look (mj_prog 153) 57 = some (.ldc 83, 2, 3294967295, 0) := by decide +kernel
theorem k153_59 : mj_look (mj_prog 153) 59 = some (.ireturn, 1, 0, 0) := by decide +kernel
theorem mx_154 : (mj_m 154).2.2.1 = 3 := by decide +kernel
theorem rt_154 : (mj_m 154).2.2.2.1 = (some FieldType.int) := by decide +kernel
theorem dp_154 : mj_disp 154 12 = some 154 := by decide +kernel
theorem pq_154 : mj_prog 154 = mj_p154 := rfl
theorem k154_0 : mj_look (mj_prog 154) 0 = some (.iload_n 1, 1, 0, 0) := by decide +kernel
theorem k154_1 : mj_look (mj_prog 154) 1 = some (.invokestatic 107, 3, 138, 1) := by decide +kernel
theorem k154_4 : mj_look (mj_prog 154) 4 = some (.ifCond .eq 28, 3, 32, 0) := by decide +kernel
theorem k154_7 : mj_look (mj_prog 154) 7 = some (.iload_n 2, 1, 0, 0) := by decide +kernel
theorem k154_8 : mj_look (mj_prog 154) 8 = some (.iconst 0, 1, 0, 0) := by decide +kernel
theorem k154_9 : mj_look (mj_prog 154) 9 = some (.iconst 3, 1, 0, 0) := by decide +kernel
theorem k154_10 : mj_look (mj_prog 154) 10 = some (.invokestatic 79, 3, 134, 3) := by decide +kernel
theorem k154_13 : mj_look (mj_prog 154) 13 = some (.ifCond .eq 19, 3, 32, 0) := by decide +kernel
theorem k154_16 : mj_look (mj_prog 154) 16 = some (.aload_n 0, 1, 0, 0) := by decide +kernel
theorem k154_17 : mj_look (mj_prog 154) 17 = some (.getfield 9, 3, 12, 0) := by decide +kernel
theorem k154_20 : mj_look (mj_prog 154) 20 = some (.iconst 5, 1, 0, 0) := by decide +kernel
theorem k154_21 : mj_look (mj_prog 154) 21 = some (.bipush 12, 2, 0, 0) := by decide +kernel
theorem k154_23 : mj_look (mj_prog 154) 23 = some (.iload_n 2, 1, 0, 0) := by decide +kernel
theorem k154_24 : mj_look (mj_prog 154) 24 = some (.imul, 1, 0, 0) := by decide +kernel
theorem k154_25 : mj_look (mj_prog 154) 25 = some (.iadd, 1, 0, 0) := by decide +kernel
theorem k154_26 : mj_look (mj_prog 154) 26 = some (.iload_n 1, 1, 0, 0) := by decide +kernel
theorem k154_27 : mj_look (mj_prog 154) 27 = some (.iadd, 1, 0, 0) := by decide +kernel
theorem k154_28 : mj_look (mj_prog 154) 28 = some (.iaload, 1, 0, 0) := by decide +kernel
theorem k154_29 : mj_look (mj_prog 154) 29 = some (.goto 5, 3, 34, 0) := by decide +kernel
theorem k154_32 : mj_look (mj_prog 154) 32 = some (.ldc 83, 2, 3294967295, 0) := by decide +kernel
theorem k154_34 : mj_look (mj_prog 154) 34 = some (.ireturn, 1, 0, 0) := by decide +kernel
theorem mx_155 : (mj_m 155).2.2.1 = 4 := by decide +kernel
theorem rt_155 : (mj_m 155).2.2.2.1 = (some FieldType.int) := by decide +kernel
theorem dp_155 : mj_disp 155 12 = some 155 := by decide +kernel
theorem pq_155 : mj_prog 155 = mj_p155 := rfl
theorem k155_0 : mj_look (mj_prog 155) 0 = some (.iload_n 1, 1, 0, 0) := by decide +kernel
theorem k155_1 : mj_look (mj_prog 155) 1 = some (.invokestatic 107, 3, 138, 1) := by decide +kernel
theorem k155_4 : mj_look (mj_prog 155) 4 = some (.ifCond .eq 41, 3, 45, 0) := by decide +kernel
theorem k155_7 : mj_look (mj_prog 155) 7 = some (.iload_n 2, 1, 0, 0) := by decide +kernel
theorem k155_8 : mj_look (mj_prog 155) 8 = some (.iconst 0, 1, 0, 0) := by decide +kernel
theorem k155_9 : mj_look (mj_prog 155) 9 = some (.iconst 2, 1, 0, 0) := by decide +kernel
theorem k155_10 : mj_look (mj_prog 155) 10 = some (.invokestatic 79, 3, 134, 3) := by decide +kernel
theorem k155_13 : mj_look (mj_prog 155) 13 = some (.ifCond .eq 32, 3, 45, 0) := by decide +kernel
theorem k155_16 : mj_look (mj_prog 155) 16 = some (.iload_n 3, 1, 0, 0) := by decide +kernel
theorem k155_17 : mj_look (mj_prog 155) 17 = some (.iload_n 2, 1, 0, 0) := by decide +kernel
theorem k155_18 : mj_look (mj_prog 155) 18 = some (.ifCond .ne 8, 3, 26, 0) := by decide +kernel
theorem k155_21 : mj_look (mj_prog 155) 21 = some (.bipush (-9), 2, 0, 0) := by decide +kernel
theorem k155_23 : mj_look (mj_prog 155) 23 = some (.goto 4, 3, 27, 0) := by decide +kernel
theorem k155_26 : mj_look (mj_prog 155) 26 = some (.iconst 0, 1, 0, 0) := by decide +kernel
theorem k155_27 : mj_look (mj_prog 155) 27 = some (.iload_n 2, 1, 0, 0) := by decide +kernel
theorem k155_28 : mj_look (mj_prog 155) 28 = some (.iconst 2, 1, 0, 0) := by decide +kernel
theorem k155_29 : mj_look (mj_prog 155) 29 = some (.if_icmp .ne 8, 3, 37, 0) := by decide +kernel
theorem k155_32 : mj_look (mj_prog 155) 32 = some (.bipush 60, 2, 0, 0) := by decide +kernel
theorem k155_34 : mj_look (mj_prog 155) 34 = some (.goto 5, 3, 39, 0) := by decide +kernel
theorem k155_37 : mj_look (mj_prog 155) 37 = some (.bipush 9, 2, 0, 0) := by decide +kernel
theorem k155_39 : mj_look (mj_prog 155) 39 = some (.invokestatic 79, 3, 134, 3) := by decide +kernel
theorem k155_42 : mj_look (mj_prog 155) 42 = some (.ifCond .ne 6, 3, 48, 0) := by decide +kernel
theorem k155_45 : mj_look (mj_prog 155) 45 = some (.ldc 83, 2, 3294967295, 0) := by decide +kernel
theorem k155_47 : mj_look (mj_prog 155) 47 = some (.ireturn, 1, 0, 0) := by decide +kernel
theorem k155_48 : mj_look (mj_prog 155) 48 = some (.iload_n 2, 1, 0, 0) := by decide +kernel
theorem k155_49 : mj_look (mj_prog 155) 49 = some (.iconst 2, 1, 0, 0) := by decide +kernel
theorem k155_50 : mj_look (mj_prog 155) 50 = some (.if_icmp .ne 13, 3, 63, 0) := by decide +kernel
theorem k155_53 : mj_look (mj_prog 155) 53 = some (.aload_n 0, 1, 0, 0) := by decide +kernel
theorem k155_54 : mj_look (mj_prog 155) 54 = some (.getfield 9, 3, 12, 0) := by decide +kernel
theorem k155_57 : mj_look (mj_prog 155) 57 = some (.bipush 41, 2, 0, 0) := by decide +kernel
theorem k155_59 : mj_look (mj_prog 155) 59 = some (.iload_n 1, 1, 0, 0) := by decide +kernel
theorem k155_60 : mj_look (mj_prog 155) 60 = some (.iadd, 1, 0, 0) := by decide +kernel
theorem k155_61 : mj_look (mj_prog 155) 61 = some (.iconst 0, 1, 0, 0) := by decide +kernel
theorem k155_62 : mj_look (mj_prog 155) 62 = some (.iastore, 1, 0, 0) := by decide +kernel
theorem k155_63 : mj_look (mj_prog 155) 63 = some (.aload_n 0, 1, 0, 0) := by decide +kernel
theorem k155_64 : mj_look (mj_prog 155) 64 = some (.iconst 5, 1, 0, 0) := by decide +kernel
theorem k155_65 : mj_look (mj_prog 155) 65 = some (.bipush 12, 2, 0, 0) := by decide +kernel
theorem k155_67 : mj_look (mj_prog 155) 67 = some (.iload_n 2, 1, 0, 0) := by decide +kernel
theorem k155_68 : mj_look (mj_prog 155) 68 = some (.imul, 1, 0, 0) := by decide +kernel
theorem k155_69 : mj_look (mj_prog 155) 69 = some (.iadd, 1, 0, 0) := by decide +kernel
theorem k155_70 : mj_look (mj_prog 155) 70 = some (.iload_n 1, 1, 0, 0) := by decide +kernel
theorem k155_71 : mj_look (mj_prog 155) 71 = some (.iadd, 1, 0, 0) := by decide +kernel
theorem k155_72 : mj_look (mj_prog 155) 72 = some (.iload_n 3, 1, 0, 0) := by decide +kernel
theorem k155_73 : mj_look (mj_prog 155) 73 = some (.invokevirtual 127, 3, 152, 2) := by decide +kernel
theorem k155_76 : mj_look (mj_prog 155) 76 = some (.ireturn, 1, 0, 0) := by decide +kernel
theorem mx_156 : (mj_m 156).2.2.1 = 2 := by decide +kernel
theorem rt_156 : (mj_m 156).2.2.2.1 = (some FieldType.int) := by decide +kernel
theorem dp_156 : mj_disp 156 12 = some 156 := by decide +kernel
theorem pq_156 : mj_prog 156 = mj_p156 := rfl
theorem k156_0 : mj_look (mj_prog 156) 0 = some (.iload_n 1, 1, 0, 0) := by decide +kernel
theorem k156_1 : mj_look (mj_prog 156) 1 = some (.iconst 1, 1, 0, 0) := by decide +kernel
theorem k156_2 : mj_look (mj_prog 156) 2 = some (.bipush 60, 2, 0, 0) := by decide +kernel
theorem k156_4 : mj_look (mj_prog 156) 4 = some (.invokestatic 79, 3, 134, 3) := by decide +kernel
theorem k156_7 : mj_look (mj_prog 156) 7 = some (.ifCond .eq 12, 3, 19, 0) := by decide +kernel
theorem k156_10 : mj_look (mj_prog 156) 10 = some (.aload_n 0, 1, 0, 0) := by decide +kernel
theorem k156_11 : mj_look (mj_prog 156) 11 = some (.iconst 3, 1, 0, 0) := by decide +kernel
theorem k156_12 : mj_look (mj_prog 156) 12 = some (.iload_n 1, 1, 0, 0) := by decide +kernel
theorem k156_13 : mj_look (mj_prog 156) 13 = some (.invokevirtual 127, 3, 152, 2) := by decide +kernel
theorem k156_16 : mj_look (mj_prog 156) 16 = some (.goto 5, 3, 21, 0) := by decide +kernel
theorem k156_19 : mj_look (mj_prog 156) 19 = some (.ldc 83, 2, 3294967295, 0) := by decide +kernel
theorem k156_21 : mj_look (mj_prog 156) 21 = some (.ireturn, 1, 0, 0) := by decide +kernel
theorem mx_157 : (mj_m 157).2.2.1 = 6 := by decide +kernel
theorem rt_157 : (mj_m 157).2.2.2.1 = (some FieldType.int) := by decide +kernel
theorem dp_157 : mj_disp 157 12 = some 157 := by decide +kernel
theorem pq_157 : mj_prog 157 = mj_p157 := rfl
theorem k157_0 : mj_look (mj_prog 157) 0 = some (.iload_n 1, 1, 0, 0) := by decide +kernel
theorem k157_1 : mj_look (mj_prog 157) 1 = some (.iconst 1, 1, 0, 0) := by decide +kernel
theorem k157_2 : mj_look (mj_prog 157) 2 = some (.bipush 8, 2, 0, 0) := by decide +kernel
theorem k157_4 : mj_look (mj_prog 157) 4 = some (.invokestatic 79, 3, 134, 3) := by decide +kernel
theorem k157_7 : mj_look (mj_prog 157) 7 = some (.ifCond .ne 6, 3, 13, 0) := by decide +kernel
theorem k157_10 : mj_look (mj_prog 157) 10 = some (.ldc 83, 2, 3294967295, 0) := by decide +kernel
theorem k157_12 : mj_look (mj_prog 157) 12 = some (.ireturn, 1, 0, 0) := by decide +kernel
theorem k157_13 : mj_look (mj_prog 157) 13 = some (.iconst 0, 1, 0, 0) := by decide +kernel
theorem k157_14 : mj_look (mj_prog 157) 14 = some (.istore_n 2, 1, 0, 0) := by decide +kernel
theorem k157_15 : mj_look (mj_prog 157) 15 = some (.iload_n 2, 1, 0, 0) := by decide +kernel
theorem k157_16 : mj_look (mj_prog 157) 16 = some (.iload_n 1, 1, 0, 0) := by decide +kernel
theorem k157_17 : mj_look (mj_prog 157) 17 = some (.if_icmp .ge 56, 3, 73, 0) := by decide +kernel
theorem k157_20 : mj_look (mj_prog 157) 20 = some (.aload_n 0, 1, 0, 0) := by decide +kernel
theorem k157_21 : mj_look (mj_prog 157) 21 = some (.getfield 9, 3, 12, 0) := by decide +kernel
theorem k157_24 : mj_look (mj_prog 157) 24 = some (.iconst 1, 1, 0, 0) := by decide +kernel
theorem k157_25 : mj_look (mj_prog 157) 25 = some (.iaload, 1, 0, 0) := by decide +kernel
theorem k157_26 : mj_look (mj_prog 157) 26 = some (.bipush 8, 2, 0, 0) := by decide +kernel
theorem k157_28 : mj_look (mj_prog 157) 28 = some (.if_icmp .ge 45, 3, 73, 0) := by decide +kernel
theorem k157_31 : mj_look (mj_prog 157) 31 = some (.aload_n 0, 1, 0, 0) := by decide +kernel
theorem k157_32 : mj_look (mj_prog 157) 32 = some (.invokevirtual 131, 3, 158, 0) := by decide +kernel
theorem k157_35 : mj_look (mj_prog 157) 35 = some (.bipush 6, 2, 0, 0) := by decide +kernel
theorem k157_37 : mj_look (mj_prog 157) 37 = some (.irem, 1, 0, 0) := by decide +kernel
theorem k157_38 : mj_look (mj_prog 157) 38 = some (.istore_n 3, 1, 0, 0) := by decide +kernel
theorem k157_39 : mj_look (mj_prog 157) 39 = some (.aload_n 0, 1, 0, 0) := by decide +kernel
theorem k157_40 : mj_look (mj_prog 157) 40 = some (.invokevirtual 131, 3, 158, 0) := by decide +kernel
theorem k157_43 : mj_look (mj_prog 157) 43 = some (.sipush 240, 3, 0, 0) := by decide +kernel
theorem k157_46 : mj_look (mj_prog 157) 46 = some (.irem, 1, 0, 0) := by decide +kernel
theorem k157_47 : mj_look (mj_prog 157) 47 = some (.istore 4, 2, 0, 0) := by decide +kernel
theorem k157_49 : mj_look (mj_prog 157) 49 = some (.aload_n 0, 1, 0, 0) := by decide +kernel
theorem k157_50 : mj_look (mj_prog 157) 50 = some (.iload_n 3, 1, 0, 0) := by decide +kernel
theorem k157_51 : mj_look (mj_prog 157) 51 = some (.iload 4, 2, 0, 0) := by decide +kernel
theorem k157_53 : mj_look (mj_prog 157) 53 = some (.iconst 1, 1, 0, 0) := by decide +kernel
theorem k157_54 : mj_look (mj_prog 157) 54 = some (.aload_n 0, 1, 0, 0) := by decide +kernel
theorem k157_55 : mj_look (mj_prog 157) 55 = some (.invokevirtual 131, 3, 158, 0) := by decide +kernel
theorem k157_58 : mj_look (mj_prog 157) 58 = some (.bipush 99, 2, 0, 0) := by decide +kernel
theorem k157_60 : mj_look (mj_prog 157) 60 = some (.irem, 1, 0, 0) := by decide +kernel
theorem k157_61 : mj_look (mj_prog 157) 61 = some (.iadd, 1, 0, 0) := by decide +kernel
theorem k157_62 : mj_look (mj_prog 157) 62 = some (.invokevirtual 85, 3, 135, 3) := by decide +kernel
theorem k157_65 : mj_look (mj_prog 157) 65 = some (.istore 5, 2, 0, 0) := by decide +kernel
theorem k157_67 : mj_look (mj_prog 157) 67 = some (.iinc 2 1, 3, 0, 0) := by decide +kernel
theorem k157_70 : mj_look (mj_prog 157) 70 = some (.goto (-55), 3, 15, 0) := by decide +kernel
theorem k157_73 : mj_look (mj_prog 157) 73 = some (.iload_n 2, 1, 0, 0) := by decide +kernel
theorem k157_74 : mj_look (mj_prog 157) 74 = some (.ireturn, 1, 0, 0) := by decide +kernel
theorem mx_158 : (mj_m 158).2.2.1 = 1 := by decide +kernel
theorem rt_158 : (mj_m 158).2.2.2.1 = (some FieldType.int) := by decide +kernel
theorem dp_158 : mj_disp 158 12 = some 158 := by decide +kernel
theorem pq_158 : mj_prog 158 = mj_p158 := rfl
theorem k158_0 : mj_look (mj_prog 158) 0 = some (.aload_n 0, 1, 0, 0) := by decide +kernel
theorem k158_1 : mj_look (mj_prog 158) 1 = some (.getfield 9, 3, 12, 0) := by decide +kernel
theorem k158_4 : mj_look (mj_prog 158) 4 = some (.iconst 0, 1, 0, 0) := by decide +kernel
theorem k158_5 : mj_look (mj_prog 158) 5 = some (.aload_n 0, 1, 0, 0) := by decide +kernel
theorem k158_6 : mj_look (mj_prog 158) 6 = some (.getfield 9, 3, 12, 0) := by decide +kernel
theorem k158_9 : mj_look (mj_prog 158) 9 = some (.iconst 0, 1, 0, 0) := by decide +kernel
theorem k158_10 : mj_look (mj_prog 158) 10 = some (.iaload, 1, 0, 0) := by decide +kernel
theorem k158_11 : mj_look (mj_prog 158) 11 = some (.ldc 130, 2, 1103515245, 0) := by decide +kernel
theorem k158_13 : mj_look (mj_prog 158) 13 = some (.imul, 1, 0, 0) := by decide +kernel
theorem k158_14 : mj_look (mj_prog 158) 14 = some (.sipush 12345, 3, 0, 0) := by decide +kernel
theorem k158_17 : mj_look (mj_prog 158) 17 = some (.iadd, 1, 0, 0) := by decide +kernel
theorem k158_18 : mj_look (mj_prog 158) 18 = some (.iastore, 1, 0, 0) := by decide +kernel
theorem k158_19 : mj_look (mj_prog 158) 19 = some (.aload_n 0, 1, 0, 0) := by decide +kernel
theorem k158_20 : mj_look (mj_prog 158) 20 = some (.getfield 9, 3, 12, 0) := by decide +kernel
theorem k158_23 : mj_look (mj_prog 158) 23 = some (.iconst 0, 1, 0, 0) := by decide +kernel
theorem k158_24 : mj_look (mj_prog 158) 24 = some (.iaload, 1, 0, 0) := by decide +kernel
theorem k158_25 : mj_look (mj_prog 158) 25 = some (.bipush 8, 2, 0, 0) := by decide +kernel
theorem k158_27 : mj_look (mj_prog 158) 27 = some (.iushr, 1, 0, 0) := by decide +kernel
theorem k158_28 : mj_look (mj_prog 158) 28 = some (.ireturn, 1, 0, 0) := by decide +kernel
theorem mx_159 : (mj_m 159).2.2.1 = 2 := by decide +kernel
theorem rt_159 : (mj_m 159).2.2.2.1 = (some FieldType.int) := by decide +kernel
theorem dp_159 : mj_disp 159 12 = some 159 := by decide +kernel
theorem pq_159 : mj_prog 159 = mj_p159 := rfl
theorem k159_0 : mj_look (mj_prog 159) 0 = some (.aload_n 0, 1, 0, 0) := by decide +kernel
theorem k159_1 : mj_look (mj_prog 159) 1 = some (.iconst 0, 1, 0, 0) := by decide +kernel
theorem k159_2 : mj_look (mj_prog 159) 2 = some (.iload_n 1, 1, 0, 0) := by decide +kernel
theorem k159_3 : mj_look (mj_prog 159) 3 = some (.invokevirtual 127, 3, 152, 2) := by decide +kernel
theorem k159_6 : mj_look (mj_prog 159) 6 = some (.ireturn, 1, 0, 0) := by decide +kernel
theorem mx_160 : (mj_m 160).2.2.1 = 3 := by decide +kernel
theorem rt_160 : (mj_m 160).2.2.2.1 = (some FieldType.int) := by decide +kernel
theorem dp_160 : mj_disp 160 12 = some 160 := by decide +kernel
theorem pq_160 : mj_prog 160 = mj_p160 := rfl
theorem k160_0 : mj_look (mj_prog 160) 0 = some (.iload_n 1, 1, 0, 0) := by decide +kernel
theorem k160_1 : mj_look (mj_prog 160) 1 = some (.iconst 1, 1, 0, 0) := by decide +kernel
theorem k160_2 : mj_look (mj_prog 160) 2 = some (.sipush 300, 3, 0, 0) := by decide +kernel
theorem k160_5 : mj_look (mj_prog 160) 5 = some (.invokestatic 79, 3, 134, 3) := by decide +kernel
theorem k160_8 : mj_look (mj_prog 160) 8 = some (.ifCond .ne 6, 3, 14, 0) := by decide +kernel
theorem k160_11 : mj_look (mj_prog 160) 11 = some (.ldc 83, 2, 3294967295, 0) := by decide +kernel
theorem k160_13 : mj_look (mj_prog 160) 13 = some (.ireturn, 1, 0, 0) := by decide +kernel
theorem k160_14 : mj_look (mj_prog 160) 14 = some (.aload_n 0, 1, 0, 0) := by decide +kernel
theorem k160_15 : mj_look (mj_prog 160) 15 = some (.iconst 3, 1, 0, 0) := by decide +kernel
theorem k160_16 : mj_look (mj_prog 160) 16 = some (.invokevirtual 150, 3, 161, 1) := by decide +kernel
theorem k160_19 : mj_look (mj_prog 160) 19 = some (.istore_n 2, 1, 0, 0) := by decide +kernel
theorem k160_20 : mj_look (mj_prog 160) 20 = some (.aload_n 0, 1, 0, 0) := by decide +kernel
theorem k160_21 : mj_look (mj_prog 160) 21 = some (.sipush 9999, 3, 0, 0) := by decide +kernel
theorem k160_24 : mj_look (mj_prog 160) 24 = some (.aload_n 0, 1, 0, 0) := by decide +kernel
theorem k160_25 : mj_look (mj_prog 160) 25 = some (.getfield 9, 3, 12, 0) := by decide +kernel
theorem k160_28 : mj_look (mj_prog 160) 28 = some (.iconst 2, 1, 0, 0) := by decide +kernel
theorem k160_29 : mj_look (mj_prog 160) 29 = some (.iaload, 1, 0, 0) := by decide +kernel
theorem k160_30 : mj_look (mj_prog 160) 30 = some (.isub, 1, 0, 0) := by decide +kernel
theorem k160_31 : mj_look (mj_prog 160) 31 = some (.iconst 0, 1, 0, 0) := by decide +kernel
theorem k160_32 : mj_look (mj_prog 160) 32 = some (.iload_n 1, 1, 0, 0) := by decide +kernel
theorem k160_33 : mj_look (mj_prog 160) 33 = some (.invokestatic 100, 3, 144, 3) := by decide +kernel
theorem k160_36 : mj_look (mj_prog 160) 36 = some (.invokevirtual 153, 3, 162, 1) := by decide +kernel
theorem k160_39 : mj_look (mj_prog 160) 39 = some (.aload_n 0, 1, 0, 0) := by decide +kernel
theorem k160_40 : mj_look (mj_prog 160) 40 = some (.iconst 3, 1, 0, 0) := by decide +kernel
theorem k160_41 : mj_look (mj_prog 160) 41 = some (.invokevirtual 150, 3, 161, 1) := by decide +kernel
theorem k160_44 : mj_look (mj_prog 160) 44 = some (.iload_n 2, 1, 0, 0) := by decide +kernel
theorem k160_45 : mj_look (mj_prog 160) 45 = some (.isub, 1, 0, 0) := by decide +kernel
theorem k160_46 : mj_look (mj_prog 160) 46 = some (.ireturn, 1, 0, 0) := by decide +kernel
theorem mx_161 : (mj_m 161).2.2.1 = 4 := by decide +kernel
theorem rt_161 : (mj_m 161).2.2.2.1 = (some FieldType.int) := by decide +kernel
theorem dp_161 : mj_disp 161 12 = some 161 := by decide +kernel
theorem pq_161 : mj_prog 161 = mj_p161 := rfl
theorem k161_0 : mj_look (mj_prog 161) 0 = some (.iconst 0, 1, 0, 0) := by decide +kernel
theorem k161_1 : mj_look (mj_prog 161) 1 = some (.istore_n 2, 1, 0, 0) := by decide +kernel
theorem k161_2 : mj_look (mj_prog 161) 2 = some (.iconst 0, 1, 0, 0) := by decide +kernel
theorem k161_3 : mj_look (mj_prog 161) 3 = some (.istore_n 3, 1, 0, 0) := by decide +kernel
theorem k161_4 : mj_look (mj_prog 161) 4 = some (.iload_n 3, 1, 0, 0) := by decide +kernel
theorem k161_5 : mj_look (mj_prog 161) 5 = some (.aload_n 0, 1, 0, 0) := by decide +kernel
theorem k161_6 : mj_look (mj_prog 161) 6 = some (.getfield 9, 3, 12, 0) := by decide +kernel
theorem k161_9 : mj_look (mj_prog 161) 9 = some (.iconst 1, 1, 0, 0) := by decide +kernel
theorem k161_10 : mj_look (mj_prog 161) 10 = some (.iaload, 1, 0, 0) := by decide +kernel
theorem k161_11 : mj_look (mj_prog 161) 11 = some (.if_icmp .ge 30, 3, 41, 0) := by decide +kernel
theorem k161_14 : mj_look (mj_prog 161) 14 = some (.iload_n 2, 1, 0, 0) := by decide +kernel
theorem k161_15 : mj_look (mj_prog 161) 15 = some (.iload_n 3, 1, 0, 0) := by decide +kernel
theorem k161_16 : mj_look (mj_prog 161) 16 = some (.aload_n 0, 1, 0, 0) := by decide +kernel
theorem k161_17 : mj_look (mj_prog 161) 17 = some (.getfield 19, 3, 12, 4) := by decide +kernel
theorem k161_20 : mj_look (mj_prog 161) 20 = some (.if_icmp .ne 7, 3, 27, 0) := by decide +kernel
theorem k161_23 : mj_look (mj_prog 161) 23 = some (.iconst 0, 1, 0, 0) := by decide +kernel
theorem k161_24 : mj_look (mj_prog 161) 24 = some (.goto 9, 3, 33, 0) := by decide +kernel
theorem k161_27 : mj_look (mj_prog 161) 27 = some (.aload_n 0, 1, 0, 0) := by decide +kernel
theorem k161_28 : mj_look (mj_prog 161) 28 = some (.iload_n 3, 1, 0, 0) := by decide +kernel
theorem k161_29 : mj_look (mj_prog 161) 29 = some (.iload_n 1, 1, 0, 0) := by decide +kernel
theorem k161_30 : mj_look (mj_prog 161) 30 = some (.invokevirtual 93, 3, 141, 2) := by decide +kernel
theorem k161_33 : mj_look (mj_prog 161) 33 = some (.iadd, 1, 0, 0) := by decide +kernel
theorem k161_34 : mj_look (mj_prog 161) 34 = some (.istore_n 2, 1, 0, 0) := by decide +kernel
theorem k161_35 : mj_look (mj_prog 161) 35 = some (.iinc 3 1, 3, 0, 0) := by decide +kernel
theorem k161_38 : mj_look (mj_prog 161) 38 = some (.goto (-34), 3, 4, 0) := by decide +kernel
theorem k161_41 : mj_look (mj_prog 161) 41 = some (.iload_n 2, 1, 0, 0) := by decide +kernel
theorem k161_42 : mj_look (mj_prog 161) 42 = some (.ireturn, 1, 0, 0) := by decide +kernel
theorem mx_162 : (mj_m 162).2.2.1 = 3 := by decide +kernel
theorem rt_162 : (mj_m 162).2.2.2.1 = none := by decide +kernel
theorem dp_162 : mj_disp 162 12 = some 162 := by decide +kernel
theorem pq_162 : mj_prog 162 = mj_p162 := rfl
theorem k162_0 : mj_look (mj_prog 162) 0 = some (.iconst 0, 1, 0, 0) := by decide +kernel
theorem k162_1 : mj_look (mj_prog 162) 1 = some (.istore_n 2, 1, 0, 0) := by decide +kernel
theorem k162_2 : mj_look (mj_prog 162) 2 = some (.iload_n 2, 1, 0, 0) := by decide +kernel
theorem k162_3 : mj_look (mj_prog 162) 3 = some (.iload_n 1, 1, 0, 0) := by decide +kernel
theorem k162_4 : mj_look (mj_prog 162) 4 = some (.if_icmp .ge 13, 3, 17, 0) := by decide +kernel
theorem k162_7 : mj_look (mj_prog 162) 7 = some (.aload_n 0, 1, 0, 0) := by decide +kernel
theorem k162_8 : mj_look (mj_prog 162) 8 = some (.invokevirtual 147, 3, 163, 0) := by decide +kernel
theorem k162_11 : mj_look (mj_prog 162) 11 = some (.iinc 2 1, 3, 0, 0) := by decide +kernel
theorem k162_14 : mj_look (mj_prog 162) 14 = some (.goto (-12), 3, 2, 0) := by decide +kernel
theorem k162_17 : mj_look (mj_prog 162) 17 = some (.return_, 1, 0, 0) := by decide +kernel
theorem mx_163 : (mj_m 163).2.2.1 = 2 := by decide +kernel
theorem rt_163 : (mj_m 163).2.2.2.1 = none := by decide +kernel
theorem dp_163 : mj_disp 163 12 = some 163 := by decide +kernel
theorem pq_163 : mj_prog 163 = mj_p163 := rfl
theorem k163_0 : mj_look (mj_prog 163) 0 = some (.iconst 0, 1, 0, 0) := by decide +kernel
theorem k163_1 : mj_look (mj_prog 163) 1 = some (.istore_n 1, 1, 0, 0) := by decide +kernel
theorem k163_2 : mj_look (mj_prog 163) 2 = some (.iload_n 1, 1, 0, 0) := by decide +kernel
theorem k163_3 : mj_look (mj_prog 163) 3 = some (.bipush 12, 2, 0, 0) := by decide +kernel
theorem k163_5 : mj_look (mj_prog 163) 5 = some (.if_icmp .ge 38, 3, 43, 0) := by decide +kernel
theorem k163_8 : mj_look (mj_prog 163) 8 = some (.aload_n 0, 1, 0, 0) := by decide +kernel
theorem k163_9 : mj_look (mj_prog 163) 9 = some (.getfield 9, 3, 12, 0) := by decide +kernel
theorem k163_12 : mj_look (mj_prog 163) 12 = some (.bipush 41, 2, 0, 0) := by decide +kernel
theorem k163_14 : mj_look (mj_prog 163) 14 = some (.iload_n 1, 1, 0, 0) := by decide +kernel
theorem k163_15 : mj_look (mj_prog 163) 15 = some (.iadd, 1, 0, 0) := by decide +kernel
theorem k163_16 : mj_look (mj_prog 163) 16 = some (.dup2, 1, 0, 0) := by decide +kernel
theorem k163_17 : mj_look (mj_prog 163) 17 = some (.iaload, 1, 0, 0) := by decide +kernel
theorem k163_18 : mj_look (mj_prog 163) 18 = some (.aload_n 0, 1, 0, 0) := by decide +kernel
theorem k163_19 : mj_look (mj_prog 163) 19 = some (.getfield 9, 3, 12, 0) := by decide +kernel
theorem k163_22 : mj_look (mj_prog 163) 22 = some (.bipush 41, 2, 0, 0) := by decide +kernel
theorem k163_24 : mj_look (mj_prog 163) 24 = some (.iload_n 1, 1, 0, 0) := by decide +kernel
theorem k163_25 : mj_look (mj_prog 163) 25 = some (.iadd, 1, 0, 0) := by decide +kernel
theorem k163_26 : mj_look (mj_prog 163) 26 = some (.iaload, 1, 0, 0) := by decide +kernel
theorem k163_27 : mj_look (mj_prog 163) 27 = some (.ifCond .le 7, 3, 34, 0) := by decide +kernel
theorem k163_30 : mj_look (mj_prog 163) 30 = some (.iconst 1, 1, 0, 0) := by decide +kernel
theorem k163_31 : mj_look (mj_prog 163) 31 = some (.goto 4, 3, 35, 0) := by decide +kernel
theorem k163_34 : mj_look (mj_prog 163) 34 = some (.iconst 0, 1, 0, 0) := by decide +kernel
theorem k163_35 : mj_look (mj_prog 163) 35 = some (.isub, 1, 0, 0) := by decide +kernel
theorem k163_36 : mj_look (mj_prog 163) 36 = some (.iastore, 1, 0, 0) := by decide +kernel
theorem k163_37 : mj_look (mj_prog 163) 37 = some (.iinc 1 1, 3, 0, 0) := by decide +kernel
theorem k163_40 : mj_look (mj_prog 163) 40 = some (.goto (-38), 3, 2, 0) := by decide +kernel
theorem k163_43 : mj_look (mj_prog 163) 43 = some (.iconst 0, 1, 0, 0) := by decide +kernel
theorem k163_44 : mj_look (mj_prog 163) 44 = some (.istore_n 1, 1, 0, 0) := by decide +kernel
theorem k163_45 : mj_look (mj_prog 163) 45 = some (.iload_n 1, 1, 0, 0) := by decide +kernel
theorem k163_46 : mj_look (mj_prog 163) 46 = some (.aload_n 0, 1, 0, 0) := by decide +kernel
theorem k163_47 : mj_look (mj_prog 163) 47 = some (.getfield 9, 3, 12, 0) := by decide +kernel
theorem k163_50 : mj_look (mj_prog 163) 50 = some (.iconst 1, 1, 0, 0) := by decide +kernel
theorem k163_51 : mj_look (mj_prog 163) 51 = some (.iaload, 1, 0, 0) := by decide +kernel
theorem k163_52 : mj_look (mj_prog 163) 52 = some (.if_icmp .ge 22, 3, 74, 0) := by decide +kernel
theorem k163_55 : mj_look (mj_prog 163) 55 = some (.iload_n 1, 1, 0, 0) := by decide +kernel
theorem k163_56 : mj_look (mj_prog 163) 56 = some (.aload_n 0, 1, 0, 0) := by decide +kernel
theorem k163_57 : mj_look (mj_prog 163) 57 = some (.getfield 19, 3, 12, 4) := by decide +kernel
theorem k163_60 : mj_look (mj_prog 163) 60 = some (.if_icmp .eq 8, 3, 68, 0) := by decide +kernel
theorem k163_63 : mj_look (mj_prog 163) 63 = some (.aload_n 0, 1, 0, 0) := by decide +kernel
theorem k163_64 : mj_look (mj_prog 163) 64 = some (.iload_n 1, 1, 0, 0) := by decide +kernel
theorem k163_65 : mj_look (mj_prog 163) 65 = some (.invokevirtual 143, 3, 164, 1) := by decide +kernel
theorem k163_68 : mj_look (mj_prog 163) 68 = some (.iinc 1 1, 3, 0, 0) := by decide +kernel
theorem k163_71 : mj_look (mj_prog 163) 71 = some (.goto (-26), 3, 45, 0) := by decide +kernel
theorem k163_74 : mj_look (mj_prog 163) 74 = some (.aload_n 0, 1, 0, 0) := by decide +kernel
theorem k163_75 : mj_look (mj_prog 163) 75 = some (.getfield 9, 3, 12, 0) := by decide +kernel
theorem k163_78 : mj_look (mj_prog 163) 78 = some (.iconst 2, 1, 0, 0) := by decide +kernel
theorem k163_79 : mj_look (mj_prog 163) 79 = some (.dup2, 1, 0, 0) := by decide +kernel
theorem k163_80 : mj_look (mj_prog 163) 80 = some (.iaload, 1, 0, 0) := by decide +kernel
theorem k163_81 : mj_look (mj_prog 163) 81 = some (.iconst 1, 1, 0, 0) := by decide +kernel
theorem k163_82 : mj_look (mj_prog 163) 82 = some (.iadd, 1, 0, 0) := by decide +kernel
theorem k163_83 : mj_look (mj_prog 163) 83 = some (.iastore, 1, 0, 0) := by decide +kernel
theorem k163_84 : mj_look (mj_prog 163) 84 = some (.return_, 1, 0, 0) := by decide +kernel
theorem mx_164 : (mj_m 164).2.2.1 = 5 := by decide +kernel
theorem rt_164 : (mj_m 164).2.2.2.1 = none := by decide +kernel
theorem dp_164 : mj_disp 164 12 = some 164 := by decide +kernel
theorem pq_164 : mj_prog 164 = mj_p164 := rfl
theorem k164_0 : mj_look (mj_prog 164) 0 = some (.aload_n 0, 1, 0, 0) := by decide +kernel
theorem k164_1 : mj_look (mj_prog 164) 1 = some (.iload_n 1, 1, 0, 0) := by decide +kernel
theorem k164_2 : mj_look (mj_prog 164) 2 = some (.iconst 1, 1, 0, 0) := by decide +kernel
theorem k164_3 : mj_look (mj_prog 164) 3 = some (.invokevirtual 93, 3, 141, 2) := by decide +kernel
theorem k164_6 : mj_look (mj_prog 164) 6 = some (.bipush 20, 2, 0, 0) := by decide +kernel
theorem k164_8 : mj_look (mj_prog 164) 8 = some (.idiv, 1, 0, 0) := by decide +kernel
theorem k164_9 : mj_look (mj_prog 164) 9 = some (.istore_n 2, 1, 0, 0) := by decide +kernel
theorem k164_10 : mj_look (mj_prog 164) 10 = some (.aload_n 0, 1, 0, 0) := by decide +kernel
theorem k164_11 : mj_look (mj_prog 164) 11 = some (.iload_n 1, 1, 0, 0) := by decide +kernel
theorem k164_12 : mj_look (mj_prog 164) 12 = some (.invokevirtual 113, 3, 146, 1) := by decide +kernel
theorem k164_15 : mj_look (mj_prog 164) 15 = some (.iconst 0, 1, 0, 0) := by decide +kernel
theorem k164_16 : mj_look (mj_prog 164) 16 = some (.aload_n 0, 1, 0, 0) := by decide +kernel
theorem k164_17 : mj_look (mj_prog 164) 17 = some (.iload_n 1, 1, 0, 0) := by decide +kernel
theorem k164_18 : mj_look (mj_prog 164) 18 = some (.iload_n 2, 1, 0, 0) := by decide +kernel
theorem k164_19 : mj_look (mj_prog 164) 19 = some (.invokevirtual 110, 3, 139, 2) := by decide +kernel
theorem k164_22 : mj_look (mj_prog 164) 22 = some (.invokestatic 100, 3, 144, 3) := by decide +kernel
theorem k164_25 : mj_look (mj_prog 164) 25 = some (.istore_n 3, 1, 0, 0) := by decide +kernel
theorem k164_26 : mj_look (mj_prog 164) 26 = some (.aload_n 0, 1, 0, 0) := by decide +kernel
theorem k164_27 : mj_look (mj_prog 164) 27 = some (.iload_n 1, 1, 0, 0) := by decide +kernel
theorem k164_28 : mj_look (mj_prog 164) 28 = some (.iconst 5, 1, 0, 0) := by decide +kernel
theorem k164_29 : mj_look (mj_prog 164) 29 = some (.iload_n 3, 1, 0, 0) := by decide +kernel
theorem k164_30 : mj_look (mj_prog 164) 30 = some (.ifCond .ne 7, 3, 37, 0) := by decide +kernel
theorem k164_33 : mj_look (mj_prog 164) 33 = some (.iconst 1, 1, 0, 0) := by decide +kernel
theorem k164_34 : mj_look (mj_prog 164) 34 = some (.goto 4, 3, 38, 0) := by decide +kernel
theorem k164_37 : mj_look (mj_prog 164) 37 = some (.iconst 0, 1, 0, 0) := by decide +kernel
theorem k164_38 : mj_look (mj_prog 164) 38 = some (.invokevirtual 135, 3, 165, 3) := by decide +kernel
theorem k164_41 : mj_look (mj_prog 164) 41 = some (.aload_n 0, 1, 0, 0) := by decide +kernel
theorem k164_42 : mj_look (mj_prog 164) 42 = some (.iload_n 1, 1, 0, 0) := by decide +kernel
theorem k164_43 : mj_look (mj_prog 164) 43 = some (.iconst 1, 1, 0, 0) := by decide +kernel
theorem k164_44 : mj_look (mj_prog 164) 44 = some (.iload_n 3, 1, 0, 0) := by decide +kernel
theorem k164_45 : mj_look (mj_prog 164) 45 = some (.invokevirtual 135, 3, 165, 3) := by decide +kernel
theorem k164_48 : mj_look (mj_prog 164) 48 = some (.aload_n 0, 1, 0, 0) := by decide +kernel
theorem k164_49 : mj_look (mj_prog 164) 49 = some (.iload_n 1, 1, 0, 0) := by decide +kernel
theorem k164_50 : mj_look (mj_prog 164) 50 = some (.iconst 1, 1, 0, 0) := by decide +kernel
theorem k164_51 : mj_look (mj_prog 164) 51 = some (.invokevirtual 93, 3, 141, 2) := by decide +kernel
theorem k164_54 : mj_look (mj_prog 164) 54 = some (.sipush 240, 3, 0, 0) := by decide +kernel
theorem k164_57 : mj_look (mj_prog 164) 57 = some (.if_icmp .lt 20, 3, 77, 0) := by decide +kernel
theorem k164_60 : mj_look (mj_prog 164) 60 = some (.aload_n 0, 1, 0, 0) := by decide +kernel
theorem k164_61 : mj_look (mj_prog 164) 61 = some (.iload_n 1, 1, 0, 0) := by decide +kernel
theorem k164_62 : mj_look (mj_prog 164) 62 = some (.iconst 1, 1, 0, 0) := by decide +kernel
theorem k164_63 : mj_look (mj_prog 164) 63 = some (.sipush (-240), 3, 0, 0) := by decide +kernel
theorem k164_66 : mj_look (mj_prog 164) 66 = some (.invokevirtual 135, 3, 165, 3) := by decide +kernel
theorem k164_69 : mj_look (mj_prog 164) 69 = some (.aload_n 0, 1, 0, 0) := by decide +kernel
theorem k164_70 : mj_look (mj_prog 164) 70 = some (.iload_n 1, 1, 0, 0) := by decide +kernel
theorem k164_71 : mj_look (mj_prog 164) 71 = some (.bipush 6, 2, 0, 0) := by decide +kernel
theorem k164_73 : mj_look (mj_prog 164) 73 = some (.iconst 1, 1, 0, 0) := by decide +kernel
theorem k164_74 : mj_look (mj_prog 164) 74 = some (.invokevirtual 135, 3, 165, 3) := by decide +kernel
theorem k164_77 : mj_look (mj_prog 164) 77 = some (.aload_n 0, 1, 0, 0) := by decide +kernel
theorem k164_78 : mj_look (mj_prog 164) 78 = some (.iload_n 1, 1, 0, 0) := by decide +kernel
theorem k164_79 : mj_look (mj_prog 164) 79 = some (.iconst 1, 1, 0, 0) := by decide +kernel
theorem k164_80 : mj_look (mj_prog 164) 80 = some (.invokevirtual 93, 3, 141, 2) := by decide +kernel
theorem k164_83 : mj_look (mj_prog 164) 83 = some (.bipush 20, 2, 0, 0) := by decide +kernel
theorem k164_85 : mj_look (mj_prog 164) 85 = some (.idiv, 1, 0, 0) := by decide +kernel
theorem k164_86 : mj_look (mj_prog 164) 86 = some (.istore 4, 2, 0, 0) := by decide +kernel
theorem k164_88 : mj_look (mj_prog 164) 88 = some (.iload 4, 2, 0, 0) := by decide +kernel
theorem k164_90 : mj_look (mj_prog 164) 90 = some (.iload_n 2, 1, 0, 0) := by decide +kernel
theorem k164_91 : mj_look (mj_prog 164) 91 = some (.if_icmp .eq 10, 3, 101, 0) := by decide +kernel
theorem k164_94 : mj_look (mj_prog 164) 94 = some (.aload_n 0, 1, 0, 0) := by decide +kernel
theorem k164_95 : mj_look (mj_prog 164) 95 = some (.iload_n 1, 1, 0, 0) := by decide +kernel
theorem k164_96 : mj_look (mj_prog 164) 96 = some (.iload 4, 2, 0, 0) := by decide +kernel
theorem k164_98 : mj_look (mj_prog 164) 98 = some (.invokevirtual 139, 3, 166, 2) := by decide +kernel
theorem k164_101 : mj_look (mj_prog 164) 101 = some (.return_, 1, 0, 0) := by decide +kernel
theorem mx_165 : (mj_m 165).2.2.1 = 4 := by decide +kernel
theorem rt_165 : (mj_m 165).2.2.2.1 = none := by decide +kernel
theorem dp_165 : mj_disp 165 12 = some 165 := by decide +kernel
theorem pq_165 : mj_prog 165 = mj_p165 := rfl
theorem k165_0 : mj_look (mj_prog 165) 0 = some (.aload_n 0, 1, 0, 0) := by decide +kernel
theorem k165_1 : mj_look (mj_prog 165) 1 = some (.getfield 9, 3, 12, 0) := by decide +kernel
theorem k165_4 : mj_look (mj_prog 165) 4 = some (.bipush 53, 2, 0, 0) := by decide +kernel
theorem k165_6 : mj_look (mj_prog 165) 6 = some (.bipush 7, 2, 0, 0) := by decide +kernel
theorem k165_8 : mj_look (mj_prog 165) 8 = some (.iload_n 1, 1, 0, 0) := by decide +kernel
theorem k165_9 : mj_look (mj_prog 165) 9 = some (.imul, 1, 0, 0) := by decide +kernel
theorem k165_10 : mj_look (mj_prog 165) 10 = some (.iadd, 1, 0, 0) := by decide +kernel
theorem k165_11 : mj_look (mj_prog 165) 11 = some (.iload_n 2, 1, 0, 0) := by decide +kernel
theorem k165_12 : mj_look (mj_prog 165) 12 = some (.iadd, 1, 0, 0) := by decide +kernel
theorem k165_13 : mj_look (mj_prog 165) 13 = some (.dup2, 1, 0, 0) := by decide +kernel
theorem k165_14 : mj_look (mj_prog 165) 14 = some (.iaload, 1, 0, 0) := by decide +kernel
theorem k165_15 : mj_look (mj_prog 165) 15 = some (.iload_n 3, 1, 0, 0) := by decide +kernel
theorem k165_16 : mj_look (mj_prog 165) 16 = some (.iadd, 1, 0, 0) := by decide +kernel
theorem k165_17 : mj_look (mj_prog 165) 17 = some (.iastore, 1, 0, 0) := by decide +kernel
theorem k165_18 : mj_look (mj_prog 165) 18 = some (.return_, 1, 0, 0) := by decide +kernel
theorem mx_166 : (mj_m 166).2.2.1 = 3 := by decide +kernel
theorem rt_166 : (mj_m 166).2.2.2.1 = none := by decide +kernel
theorem dp_166 : mj_disp 166 12 = some 166 := by decide +kernel
theorem pq_166 : mj_prog 166 = mj_p166 := rfl
theorem k166_0 : mj_look (mj_prog 166) 0 = some (.aload_n 0, 1, 0, 0) := by decide +kernel
theorem k166_1 : mj_look (mj_prog 166) 1 = some (.getfield 9, 3, 12, 0) := by decide +kernel
theorem k166_4 : mj_look (mj_prog 166) 4 = some (.bipush 29, 2, 0, 0) := by decide +kernel
theorem k166_6 : mj_look (mj_prog 166) 6 = some (.iload_n 2, 1, 0, 0) := by decide +kernel
theorem k166_7 : mj_look (mj_prog 166) 7 = some (.iadd, 1, 0, 0) := by decide +kernel
theorem k166_8 : mj_look (mj_prog 166) 8 = some (.iaload, 1, 0, 0) := by decide +kernel
theorem k166_9 : mj_look (mj_prog 166) 9 = some (.ifCond .ne 4, 3, 13, 0) := by decide +kernel
theorem k166_12 : mj_look (mj_prog 166) 12 = some (.return_, 1, 0, 0) := by decide +kernel
theorem k166_13 : mj_look (mj_prog 166) 13 = some (.aload_n 0, 1, 0, 0) := by decide +kernel
theorem k166_14 : mj_look (mj_prog 166) 14 = some (.getfield 9, 3, 12, 0) := by decide +kernel
theorem k166_17 : mj_look (mj_prog 166) 17 = some (.bipush 41, 2, 0, 0) := by decide +kernel
theorem k166_19 : mj_look (mj_prog 166) 19 = some (.iload_n 2, 1, 0, 0) := by decide +kernel
theorem k166_20 : mj_look (mj_prog 166) 20 = some (.iadd, 1, 0, 0) := by decide +kernel
theorem k166_21 : mj_look (mj_prog 166) 21 = some (.iaload, 1, 0, 0) := by decide +kernel
theorem k166_22 : mj_look (mj_prog 166) 22 = some (.ifCond .le 13, 3, 35, 0) := by decide +kernel
theorem k166_25 : mj_look (mj_prog 166) 25 = some (.aload_n 0, 1, 0, 0) := by decide +kernel
theorem k166_26 : mj_look (mj_prog 166) 26 = some (.iload_n 1, 1, 0, 0) := by decide +kernel
theorem k166_27 : mj_look (mj_prog 166) 27 = some (.iconst 4, 1, 0, 0) := by decide +kernel
theorem k166_28 : mj_look (mj_prog 166) 28 = some (.iconst 1, 1, 0, 0) := by decide +kernel
theorem k166_29 : mj_look (mj_prog 166) 29 = some (.invokevirtual 135, 3, 165, 3) := by decide +kernel
theorem k166_32 : mj_look (mj_prog 166) 32 = some (.goto 32, 3, 64, 0) := by decide +kernel
theorem k166_35 : mj_look (mj_prog 166) 35 = some (.aload_n 0, 1, 0, 0) := by decide +kernel
theorem k166_36 : mj_look (mj_prog 166) 36 = some (.iload_n 1, 1, 0, 0) := by decide +kernel
theorem k166_37 : mj_look (mj_prog 166) 37 = some (.iconst 3, 1, 0, 0) := by decide +kernel
theorem k166_38 : mj_look (mj_prog 166) 38 = some (.aload_n 0, 1, 0, 0) := by decide +kernel
theorem k166_39 : mj_look (mj_prog 166) 39 = some (.iload_n 1, 1, 0, 0) := by decide +kernel
theorem k166_40 : mj_look (mj_prog 166) 40 = some (.invokevirtual 116, 3, 147, 1) := by decide +kernel
theorem k166_43 : mj_look (mj_prog 166) 43 = some (.invokevirtual 135, 3, 165, 3) := by decide +kernel
theorem k166_46 : mj_look (mj_prog 166) 46 = some (.aload_n 0, 1, 0, 0) := by decide +kernel
theorem k166_47 : mj_look (mj_prog 166) 47 = some (.getfield 9, 3, 12, 0) := by decide +kernel
theorem k166_50 : mj_look (mj_prog 166) 50 = some (.bipush 41, 2, 0, 0) := by decide +kernel
theorem k166_52 : mj_look (mj_prog 166) 52 = some (.iload_n 2, 1, 0, 0) := by decide +kernel
theorem k166_53 : mj_look (mj_prog 166) 53 = some (.iadd, 1, 0, 0) := by decide +kernel
theorem k166_54 : mj_look (mj_prog 166) 54 = some (.aload_n 0, 1, 0, 0) := by decide +kernel
theorem k166_55 : mj_look (mj_prog 166) 55 = some (.getfield 9, 3, 12, 0) := by decide +kernel
theorem k166_58 : mj_look (mj_prog 166) 58 = some (.bipush 29, 2, 0, 0) := by decide +kernel
theorem k166_60 : mj_look (mj_prog 166) 60 = some (.iload_n 2, 1, 0, 0) := by decide +kernel
theorem k166_61 : mj_look (mj_prog 166) 61 = some (.iadd, 1, 0, 0) := by decide +kernel
theorem k166_62 : mj_look (mj_prog 166) 62 = some (.iaload, 1, 0, 0) := by decide +kernel
theorem k166_63 : mj_look (mj_prog 166) 63 = some (.iastore, 1, 0, 0) := by decide +kernel
theorem k166_64 : mj_look (mj_prog 166) 64 = some (.return_, 1, 0, 0) := by decide +kernel
theorem mx_167 : (mj_m 167).2.2.1 = 2 := by decide +kernel
theorem rt_167 : (mj_m 167).2.2.2.1 = (some FieldType.int) := by decide +kernel
theorem dp_167 : mj_disp 167 12 = some 167 := by decide +kernel
theorem pq_167 : mj_prog 167 = mj_p167 := rfl
theorem k167_0 : mj_look (mj_prog 167) 0 = some (.iload_n 1, 1, 0, 0) := by decide +kernel
theorem k167_1 : mj_look (mj_prog 167) 1 = some (.iconst 0, 1, 0, 0) := by decide +kernel
theorem k167_2 : mj_look (mj_prog 167) 2 = some (.iconst 5, 1, 0, 0) := by decide +kernel
theorem k167_3 : mj_look (mj_prog 167) 3 = some (.invokestatic 79, 3, 134, 3) := by decide +kernel
theorem k167_6 : mj_look (mj_prog 167) 6 = some (.ifCond .ne 6, 3, 12, 0) := by decide +kernel
theorem k167_9 : mj_look (mj_prog 167) 9 = some (.ldc 83, 2, 3294967295, 0) := by decide +kernel
theorem k167_11 : mj_look (mj_prog 167) 11 = some (.ireturn, 1, 0, 0) := by decide +kernel
theorem k167_12 : mj_look (mj_prog 167) 12 = some (.iload_n 1, 1, 0, 0) := by decide +kernel
theorem k167_13 : mj_look (mj_prog 167) 13 = some (.iconst 5, 1, 0, 0) := by decide +kernel
theorem k167_14 : mj_look (mj_prog 167) 14 = some (.if_icmp .ne 10, 3, 24, 0) := by decide +kernel
theorem k167_17 : mj_look (mj_prog 167) 17 = some (.aload_n 0, 1, 0, 0) := by decide +kernel
theorem k167_18 : mj_look (mj_prog 167) 18 = some (.invokevirtual 156, 3, 168, 0) := by decide +kernel
theorem k167_21 : mj_look (mj_prog 167) 21 = some (.goto 19, 3, 40, 0) := by decide +kernel
theorem k167_24 : mj_look (mj_prog 167) 24 = some (.aload_n 0, 1, 0, 0) := by decide +kernel
theorem k167_25 : mj_look (mj_prog 167) 25 = some (.iload_n 1, 1, 0, 0) := by decide +kernel
theorem k167_26 : mj_look (mj_prog 167) 26 = some (.iconst 4, 1, 0, 0) := by decide +kernel
theorem k167_27 : mj_look (mj_prog 167) 27 = some (.if_icmp .ne 7, 3, 34, 0) := by decide +kernel
theorem k167_30 : mj_look (mj_prog 167) 30 = some (.iconst 1, 1, 0, 0) := by decide +kernel
theorem k167_31 : mj_look (mj_prog 167) 31 = some (.goto 6, 3, 37, 0) := by decide +kernel
theorem k167_34 : mj_look (mj_prog 167) 34 = some (.iconst 3, 1, 0, 0) := by decide +kernel
theorem k167_35 : mj_look (mj_prog 167) 35 = some (.iload_n 1, 1, 0, 0) := by decide +kernel
theorem k167_36 : mj_look (mj_prog 167) 36 = some (.iadd, 1, 0, 0) := by decide +kernel
theorem k167_37 : mj_look (mj_prog 167) 37 = some (.invokevirtual 150, 3, 161, 1) := by decide +kernel
theorem k167_40 : mj_look (mj_prog 167) 40 = some (.ireturn, 1, 0, 0) := by decide +kernel
theorem mx_168 : (mj_m 168).2.2.1 = 3 := by decide +kernel
theorem rt_168 : (mj_m 168).2.2.2.1 = (some FieldType.int) := by decide +kernel
theorem dp_168 : mj_disp 168 12 = some 168 := by decide +kernel
theorem pq_168 : mj_prog 168 = mj_p168 := rfl
theorem k168_0 : mj_look (mj_prog 168) 0 = some (.iconst 0, 1, 0, 0) := by decide +kernel
theorem k168_1 : mj_look (mj_prog 168) 1 = some (.istore_n 1, 1, 0, 0) := by decide +kernel
theorem k168_2 : mj_look (mj_prog 168) 2 = some (.iconst 0, 1, 0, 0) := by decide +kernel
theorem k168_3 : mj_look (mj_prog 168) 3 = some (.istore_n 2, 1, 0, 0) := by decide +kernel
theorem k168_4 : mj_look (mj_prog 168) 4 = some (.iload_n 2, 1, 0, 0) := by decide +kernel
theorem k168_5 : mj_look (mj_prog 168) 5 = some (.aload_n 0, 1, 0, 0) := by decide +kernel
theorem k168_6 : mj_look (mj_prog 168) 6 = some (.getfield 9, 3, 12, 0) := by decide +kernel
theorem k168_9 : mj_look (mj_prog 168) 9 = some (.iconst 1, 1, 0, 0) := by decide +kernel
theorem k168_10 : mj_look (mj_prog 168) 10 = some (.iaload, 1, 0, 0) := by decide +kernel
theorem k168_11 : mj_look (mj_prog 168) 11 = some (.if_icmp .ge 25, 3, 36, 0) := by decide +kernel
theorem k168_14 : mj_look (mj_prog 168) 14 = some (.iload_n 1, 1, 0, 0) := by decide +kernel
theorem k168_15 : mj_look (mj_prog 168) 15 = some (.aload_n 0, 1, 0, 0) := by decide +kernel
theorem k168_16 : mj_look (mj_prog 168) 16 = some (.iload_n 2, 1, 0, 0) := by decide +kernel
theorem k168_17 : mj_look (mj_prog 168) 17 = some (.invokevirtual 113, 3, 146, 1) := by decide +kernel
theorem k168_20 : mj_look (mj_prog 168) 20 = some (.ifCond .ge 7, 3, 27, 0) := by decide +kernel
theorem k168_23 : mj_look (mj_prog 168) 23 = some (.iconst 1, 1, 0, 0) := by decide +kernel
theorem k168_24 : mj_look (mj_prog 168) 24 = some (.goto 4, 3, 28, 0) := by decide +kernel
theorem k168_27 : mj_look (mj_prog 168) 27 = some (.iconst 0, 1, 0, 0) := by decide +kernel
theorem k168_28 : mj_look (mj_prog 168) 28 = some (.iadd, 1, 0, 0) := by decide +kernel
theorem k168_29 : mj_look (mj_prog 168) 29 = some (.istore_n 1, 1, 0, 0) := by decide +kernel
theorem k168_30 : mj_look (mj_prog 168) 30 = some (.iinc 2 1, 3, 0, 0) := by decide +kernel
theorem k168_33 : mj_look (mj_prog 168) 33 = some (.goto (-29), 3, 4, 0) := by decide +kernel
theorem k168_36 : mj_look (mj_prog 168) 36 = some (.iload_n 1, 1, 0, 0) := by decide +kernel
theorem k168_37 : mj_look (mj_prog 168) 37 = some (.ireturn, 1, 0, 0) := by decide +kernel
theorem mx_169 : (mj_m 169).2.2.1 = 3 := by decide +kernel
theorem rt_169 : (mj_m 169).2.2.2.1 = (some FieldType.int) := by decide +kernel
theorem dp_169 : mj_disp 169 12 = some 169 := by decide +kernel
theorem pq_169 : mj_prog 169 = mj_p169 := rfl
theorem k169_0 : mj_look (mj_prog 169) 0 = some (.iconst 0, 1, 0, 0) := by decide +kernel
theorem k169_1 : mj_look (mj_prog 169) 1 = some (.istore_n 1, 1, 0, 0) := by decide +kernel
theorem k169_2 : mj_look (mj_prog 169) 2 = some (.iconst 0, 1, 0, 0) := by decide +kernel
theorem k169_3 : mj_look (mj_prog 169) 3 = some (.istore_n 2, 1, 0, 0) := by decide +kernel
theorem k169_4 : mj_look (mj_prog 169) 4 = some (.iload_n 2, 1, 0, 0) := by decide +kernel
theorem k169_5 : mj_look (mj_prog 169) 5 = some (.aload_n 0, 1, 0, 0) := by decide +kernel
theorem k169_6 : mj_look (mj_prog 169) 6 = some (.getfield 9, 3, 12, 0) := by decide +kernel
theorem k169_9 : mj_look (mj_prog 169) 9 = some (.iconst 1, 1, 0, 0) := by decide +kernel
theorem k169_10 : mj_look (mj_prog 169) 10 = some (.iaload, 1, 0, 0) := by decide +kernel
theorem k169_11 : mj_look (mj_prog 169) 11 = some (.if_icmp .ge 23, 3, 34, 0) := by decide +kernel
theorem k169_14 : mj_look (mj_prog 169) 14 = some (.iload_n 1, 1, 0, 0) := by decide +kernel
theorem k169_15 : mj_look (mj_prog 169) 15 = some (.iconst 1, 1, 0, 0) := by decide +kernel
theorem k169_16 : mj_look (mj_prog 169) 16 = some (.aload_n 0, 1, 0, 0) := by decide +kernel
theorem k169_17 : mj_look (mj_prog 169) 17 = some (.iload_n 2, 1, 0, 0) := by decide +kernel
theorem k169_18 : mj_look (mj_prog 169) 18 = some (.iconst 1, 1, 0, 0) := by decide +kernel
theorem k169_19 : mj_look (mj_prog 169) 19 = some (.invokevirtual 93, 3, 141, 2) := by decide +kernel
theorem k169_22 : mj_look (mj_prog 169) 22 = some (.bipush 20, 2, 0, 0) := by decide +kernel
theorem k169_24 : mj_look (mj_prog 169) 24 = some (.idiv, 1, 0, 0) := by decide +kernel
theorem k169_25 : mj_look (mj_prog 169) 25 = some (.ishl, 1, 0, 0) := by decide +kernel
theorem k169_26 : mj_look (mj_prog 169) 26 = some (.ior, 1, 0, 0) := by decide +kernel
theorem k169_27 : mj_look (mj_prog 169) 27 = some (.istore_n 1, 1, 0, 0) := by decide +kernel
theorem k169_28 : mj_look (mj_prog 169) 28 = some (.iinc 2 1, 3, 0, 0) := by decide +kernel
theorem k169_31 : mj_look (mj_prog 169) 31 = some (.goto (-27), 3, 4, 0) := by decide +kernel
theorem k169_34 : mj_look (mj_prog 169) 34 = some (.iload_n 1, 1, 0, 0) := by decide +kernel
theorem k169_35 : mj_look (mj_prog 169) 35 = some (.ireturn, 1, 0, 0) := by decide +kernel
theorem mx_170 : (mj_m 170).2.2.1 = 4 := by decide +kernel
theorem rt_170 : (mj_m 170).2.2.2.1 = (some FieldType.int) := by decide +kernel
theorem dp_170 : mj_disp 170 12 = some 170 := by decide +kernel
theorem pq_170 : mj_prog 170 = mj_p170 := rfl
theorem k170_0 : mj_look (mj_prog 170) 0 = some (.iload_n 1, 1, 0, 0) := by decide +kernel
theorem k170_1 : mj_look (mj_prog 170) 1 = some (.iconst 0, 1, 0, 0) := by decide +kernel
theorem k170_2 : mj_look (mj_prog 170) 2 = some (.sipush 300, 3, 0, 0) := by decide +kernel
theorem k170_5 : mj_look (mj_prog 170) 5 = some (.invokestatic 79, 3, 134, 3) := by decide +kernel
theorem k170_8 : mj_look (mj_prog 170) 8 = some (.ifCond .eq 22, 3, 30, 0) := by decide +kernel
theorem k170_11 : mj_look (mj_prog 170) 11 = some (.iload_n 2, 1, 0, 0) := by decide +kernel
theorem k170_12 : mj_look (mj_prog 170) 12 = some (.ifCond .lt 18, 3, 30, 0) := by decide +kernel
theorem k170_15 : mj_look (mj_prog 170) 15 = some (.iload_n 2, 1, 0, 0) := by decide +kernel
theorem k170_16 : mj_look (mj_prog 170) 16 = some (.iconst 3, 1, 0, 0) := by decide +kernel
theorem k170_17 : mj_look (mj_prog 170) 17 = some (.if_icmp .le 16, 3, 33, 0) := by decide +kernel
theorem k170_20 : mj_look (mj_prog 170) 20 = some (.aload_n 0, 1, 0, 0) := by decide +kernel
theorem k170_21 : mj_look (mj_prog 170) 21 = some (.iload_n 2, 1, 0, 0) := by decide +kernel
theorem k170_22 : mj_look (mj_prog 170) 22 = some (.iconst 4, 1, 0, 0) := by decide +kernel
theorem k170_23 : mj_look (mj_prog 170) 23 = some (.isub, 1, 0, 0) := by decide +kernel
theorem k170_24 : mj_look (mj_prog 170) 24 = some (.invokevirtual 103, 3, 137, 1) := by decide +kernel
theorem k170_27 : mj_look (mj_prog 170) 27 = some (.ifCond .ne 6, 3, 33, 0) := by decide +kernel
theorem k170_30 : mj_look (mj_prog 170) 30 = some (.ldc 83, 2, 3294967295, 0) := by decide +kernel
theorem k170_32 : mj_look (mj_prog 170) 32 = some (.ireturn, 1, 0, 0) := by decide +kernel
theorem k170_33 : mj_look (mj_prog 170) 33 = some (.aload_n 0, 1, 0, 0) := by decide +kernel
theorem k170_34 : mj_look (mj_prog 170) 34 = some (.invokevirtual 159, 3, 171, 0) := by decide +kernel
theorem k170_37 : mj_look (mj_prog 170) 37 = some (.aload_n 0, 1, 0, 0) := by decide +kernel
theorem k170_38 : mj_look (mj_prog 170) 38 = some (.iload_n 1, 1, 0, 0) := by decide +kernel
theorem k170_39 : mj_look (mj_prog 170) 39 = some (.invokevirtual 153, 3, 162, 1) := by decide +kernel
theorem k170_42 : mj_look (mj_prog 170) 42 = some (.iload_n 2, 1, 0, 0) := by decide +kernel
theorem k170_43 : mj_look (mj_prog 170) 43 = some (.iconst 3, 1, 0, 0) := by decide +kernel
theorem k170_44 : mj_look (mj_prog 170) 44 = some (.if_icmp .le 14, 3, 58, 0) := by decide +kernel
theorem k170_47 : mj_look (mj_prog 170) 47 = some (.aload_n 0, 1, 0, 0) := by decide +kernel
theorem k170_48 : mj_look (mj_prog 170) 48 = some (.iload_n 2, 1, 0, 0) := by decide +kernel
theorem k170_49 : mj_look (mj_prog 170) 49 = some (.iconst 4, 1, 0, 0) := by decide +kernel
theorem k170_50 : mj_look (mj_prog 170) 50 = some (.isub, 1, 0, 0) := by decide +kernel
theorem k170_51 : mj_look (mj_prog 170) 51 = some (.iconst 1, 1, 0, 0) := by decide +kernel
theorem k170_52 : mj_look (mj_prog 170) 52 = some (.invokevirtual 93, 3, 141, 2) := by decide +kernel
theorem k170_55 : mj_look (mj_prog 170) 55 = some (.goto 10, 3, 65, 0) := by decide +kernel
theorem k170_58 : mj_look (mj_prog 170) 58 = some (.aload_n 0, 1, 0, 0) := by decide +kernel
theorem k170_59 : mj_look (mj_prog 170) 59 = some (.iconst 3, 1, 0, 0) := by decide +kernel
theorem k170_60 : mj_look (mj_prog 170) 60 = some (.iload_n 2, 1, 0, 0) := by decide +kernel
theorem k170_61 : mj_look (mj_prog 170) 61 = some (.iadd, 1, 0, 0) := by decide +kernel
theorem k170_62 : mj_look (mj_prog 170) 62 = some (.invokevirtual 150, 3, 161, 1) := by decide +kernel
theorem k170_65 : mj_look (mj_prog 170) 65 = some (.istore_n 3, 1, 0, 0) := by decide +kernel
theorem k170_66 : mj_look (mj_prog 170) 66 = some (.aload_n 0, 1, 0, 0) := by decide +kernel
theorem k170_67 : mj_look (mj_prog 170) 67 = some (.invokevirtual 162, 3, 172, 0) := by decide +kernel
theorem k170_70 : mj_look (mj_prog 170) 70 = some (.iload_n 3, 1, 0, 0) := by decide +kernel
theorem k170_71 : mj_look (mj_prog 170) 71 = some (.ireturn, 1, 0, 0) := by decide +kernel
theorem mx_171 : (mj_m 171).2.2.1 = 2 := by decide +kernel
theorem rt_171 : (mj_m 171).2.2.2.1 = none := by decide +kernel
theorem dp_171 : mj_disp 171 12 = some 171 := by decide +kernel
theorem pq_171 : mj_prog 171 = mj_p171 := rfl
theorem k171_0 : mj_look (mj_prog 171) 0 = some (.iconst 0, 1, 0, 0) := by decide +kernel
theorem k171_1 : mj_look (mj_prog 171) 1 = some (.istore_n 1, 1, 0, 0) := by decide +kernel
theorem k171_2 : mj_look (mj_prog 171) 2 = some (.iload_n 1, 1, 0, 0) := by decide +kernel
theorem k171_3 : mj_look (mj_prog 171) 3 = some (.bipush 109, 2, 0, 0) := by decide +kernel
theorem k171_5 : mj_look (mj_prog 171) 5 = some (.if_icmp .ge 21, 3, 26, 0) := by decide +kernel
theorem k171_8 : mj_look (mj_prog 171) 8 = some (.aload_n 0, 1, 0, 0) := by decide +kernel
theorem k171_9 : mj_look (mj_prog 171) 9 = some (.getfield 23, 3, 12, 5) := by decide +kernel
theorem k171_12 : mj_look (mj_prog 171) 12 = some (.iload_n 1, 1, 0, 0) := by decide +kernel
theorem k171_13 : mj_look (mj_prog 171) 13 = some (.aload_n 0, 1, 0, 0) := by decide +kernel
theorem k171_14 : mj_look (mj_prog 171) 14 = some (.getfield 9, 3, 12, 0) := by decide +kernel
theorem k171_17 : mj_look (mj_prog 171) 17 = some (.iload_n 1, 1, 0, 0) := by decide +kernel
theorem k171_18 : mj_look (mj_prog 171) 18 = some (.iaload, 1, 0, 0) := by decide +kernel
theorem k171_19 : mj_look (mj_prog 171) 19 = some (.iastore, 1, 0, 0) := by decide +kernel
theorem k171_20 : mj_look (mj_prog 171) 20 = some (.iinc 1 1, 3, 0, 0) := by decide +kernel
theorem k171_23 : mj_look (mj_prog 171) 23 = some (.goto (-21), 3, 2, 0) := by decide +kernel
theorem k171_26 : mj_look (mj_prog 171) 26 = some (.return_, 1, 0, 0) := by decide +kernel
theorem mx_172 : (mj_m 172).2.2.1 = 2 := by decide +kernel
theorem rt_172 : (mj_m 172).2.2.2.1 = none := by decide +kernel
theorem dp_172 : mj_disp 172 12 = some 172 := by decide +kernel
theorem pq_172 : mj_prog 172 = mj_p172 := rfl
theorem k172_0 : mj_look (mj_prog 172) 0 = some (.iconst 0, 1, 0, 0) := by decide +kernel
theorem k172_1 : mj_look (mj_prog 172) 1 = some (.istore_n 1, 1, 0, 0) := by decide +kernel
theorem k172_2 : mj_look (mj_prog 172) 2 = some (.iload_n 1, 1, 0, 0) := by decide +kernel
theorem k172_3 : mj_look (mj_prog 172) 3 = some (.bipush 109, 2, 0, 0) := by decide +kernel
theorem k172_5 : mj_look (mj_prog 172) 5 = some (.if_icmp .ge 21, 3, 26, 0) := by decide +kernel
theorem k172_8 : mj_look (mj_prog 172) 8 = some (.aload_n 0, 1, 0, 0) := by decide +kernel
theorem k172_9 : mj_look (mj_prog 172) 9 = some (.getfield 9, 3, 12, 0) := by decide +kernel
theorem k172_12 : mj_look (mj_prog 172) 12 = some (.iload_n 1, 1, 0, 0) := by decide +kernel
theorem k172_13 : mj_look (mj_prog 172) 13 = some (.aload_n 0, 1, 0, 0) := by decide +kernel
theorem k172_14 : mj_look (mj_prog 172) 14 = some (.getfield 23, 3, 12, 5) := by decide +kernel
theorem k172_17 : mj_look (mj_prog 172) 17 = some (.iload_n 1, 1, 0, 0) := by decide +kernel
theorem k172_18 : mj_look (mj_prog 172) 18 = some (.iaload, 1, 0, 0) := by decide +kernel
theorem k172_19 : mj_look (mj_prog 172) 19 = some (.iastore, 1, 0, 0) := by decide +kernel
theorem k172_20 : mj_look (mj_prog 172) 20 = some (.iinc 1 1, 3, 0, 0) := by decide +kernel
theorem k172_23 : mj_look (mj_prog 172) 23 = some (.goto (-21), 3, 2, 0) := by decide +kernel
theorem k172_26 : mj_look (mj_prog 172) 26 = some (.aload_n 0, 1, 0, 0) := by decide +kernel
theorem k172_27 : mj_look (mj_prog 172) 27 = some (.iconst (-1), 1, 0, 0) := by decide +kernel
theorem k172_28 : mj_look (mj_prog 172) 28 = some (.putfield 19, 3, 12, 4) := by decide +kernel
theorem k172_31 : mj_look (mj_prog 172) 31 = some (.return_, 1, 0, 0) := by decide +kernel
theorem mx_173 : (mj_m 173).2.2.1 = 3 := by decide +kernel
theorem rt_173 : (mj_m 173).2.2.2.1 = (some FieldType.int) := by decide +kernel
theorem dp_173 : mj_disp 173 12 = some 173 := by decide +kernel
theorem pq_173 : mj_prog 173 = mj_p173 := rfl
theorem k173_0 : mj_look (mj_prog 173) 0 = some (.aload_n 0, 1, 0, 0) := by decide +kernel
theorem k173_1 : mj_look (mj_prog 173) 1 = some (.invokevirtual 159, 3, 171, 0) := by decide +kernel
theorem k173_4 : mj_look (mj_prog 173) 4 = some (.aload_n 0, 1, 0, 0) := by decide +kernel
theorem k173_5 : mj_look (mj_prog 173) 5 = some (.iconst 5, 1, 0, 0) := by decide +kernel
theorem k173_6 : mj_look (mj_prog 173) 6 = some (.invokevirtual 150, 3, 161, 1) := by decide +kernel
theorem k173_9 : mj_look (mj_prog 173) 9 = some (.istore_n 1, 1, 0, 0) := by decide +kernel
theorem k173_10 : mj_look (mj_prog 173) 10 = some (.iconst 1, 1, 0, 0) := by decide +kernel
theorem k173_11 : mj_look (mj_prog 173) 11 = some (.istore_n 2, 1, 0, 0) := by decide +kernel
theorem k173_12 : mj_look (mj_prog 173) 12 = some (.aload_n 0, 1, 0, 0) := by decide +kernel
theorem k173_13 : mj_look (mj_prog 173) 13 = some (.invokevirtual 147, 3, 163, 0) := by decide +kernel
theorem k173_16 : mj_look (mj_prog 173) 16 = some (.iload_n 2, 1, 0, 0) := by decide +kernel
theorem k173_17 : mj_look (mj_prog 173) 17 = some (.sipush 300, 3, 0, 0) := by decide +kernel
theorem k173_20 : mj_look (mj_prog 173) 20 = some (.if_icmp .gt 22, 3, 42, 0) := by decide +kernel
theorem k173_23 : mj_look (mj_prog 173) 23 = some (.aload_n 0, 1, 0, 0) := by decide +kernel
theorem k173_24 : mj_look (mj_prog 173) 24 = some (.iconst 5, 1, 0, 0) := by decide +kernel
theorem k173_25 : mj_look (mj_prog 173) 25 = some (.invokevirtual 150, 3, 161, 1) := by decide +kernel
theorem k173_28 : mj_look (mj_prog 173) 28 = some (.iload_n 1, 1, 0, 0) := by decide +kernel
theorem k173_29 : mj_look (mj_prog 173) 29 = some (.if_icmp .ne 13, 3, 42, 0) := by decide +kernel
theorem k173_32 : mj_look (mj_prog 173) 32 = some (.aload_n 0, 1, 0, 0) := by decide +kernel
theorem k173_33 : mj_look (mj_prog 173) 33 = some (.invokevirtual 147, 3, 163, 0) := by decide +kernel
theorem k173_36 : mj_look (mj_prog 173) 36 = some (.iinc 2 1, 3, 0, 0) := by decide +kernel
theorem k173_39 : mj_look (mj_prog 173) 39 = some (.goto (-23), 3, 16, 0) := by decide +kernel
theorem k173_42 : mj_look (mj_prog 173) 42 = some (.aload_n 0, 1, 0, 0) := by decide +kernel
theorem k173_43 : mj_look (mj_prog 173) 43 = some (.invokevirtual 162, 3, 172, 0) := by decide +kernel
theorem k173_46 : mj_look (mj_prog 173) 46 = some (.iload_n 2, 1, 0, 0) := by decide +kernel
theorem k173_47 : mj_look (mj_prog 173) 47 = some (.sipush 300, 3, 0, 0) := by decide +kernel
theorem k173_50 : mj_look (mj_prog 173) 50 = some (.if_icmp .le 8, 3, 58, 0) := by decide +kernel
theorem k173_53 : mj_look (mj_prog 173) 53 = some (.ldc 165, 2, 3294967291, 0) := by decide +kernel
theorem k173_55 : mj_look (mj_prog 173) 55 = some (.goto 4, 3, 59, 0) := by decide +kernel
theorem k173_58 : mj_look (mj_prog 173) 58 = some (.iload_n 2, 1, 0, 0) := by decide +kernel
theorem k173_59 : mj_look (mj_prog 173) 59 = some (.ireturn, 1, 0, 0) := by decide +kernel
theorem mx_174 : (mj_m 174).2.2.1 = 8 := by decide +kernel
theorem rt_174 : (mj_m 174).2.2.2.1 = (some FieldType.int) := by decide +kernel
theorem dp_174 : mj_disp 174 12 = some 174 := by decide +kernel
theorem pq_174 : mj_prog 174 = mj_p174 := rfl
theorem k174_0 : mj_look (mj_prog 174) 0 = some (.iload_n 1, 1, 0, 0) := by decide +kernel
theorem k174_1 : mj_look (mj_prog 174) 1 = some (.invokestatic 107, 3, 138, 1) := by decide +kernel
theorem k174_4 : mj_look (mj_prog 174) 4 = some (.ifCond .eq 22, 3, 26, 0) := by decide +kernel
theorem k174_7 : mj_look (mj_prog 174) 7 = some (.iload_n 2, 1, 0, 0) := by decide +kernel
theorem k174_8 : mj_look (mj_prog 174) 8 = some (.iconst 1, 1, 0, 0) := by decide +kernel
theorem k174_9 : mj_look (mj_prog 174) 9 = some (.bipush 100, 2, 0, 0) := by decide +kernel
theorem k174_11 : mj_look (mj_prog 174) 11 = some (.invokestatic 79, 3, 134, 3) := by decide +kernel
theorem k174_14 : mj_look (mj_prog 174) 14 = some (.ifCond .eq 12, 3, 26, 0) := by decide +kernel
theorem k174_17 : mj_look (mj_prog 174) 17 = some (.iload_n 3, 1, 0, 0) := by decide +kernel
theorem k174_18 : mj_look (mj_prog 174) 18 = some (.iconst 0, 1, 0, 0) := by decide +kernel
theorem k174_19 : mj_look (mj_prog 174) 19 = some (.iconst 1, 1, 0, 0) := by decide +kernel
theorem k174_20 : mj_look (mj_prog 174) 20 = some (.invokestatic 79, 3, 134, 3) := by decide +kernel
theorem k174_23 : mj_look (mj_prog 174) 23 = some (.ifCond .ne 6, 3, 29, 0) := by decide +kernel
theorem k174_26 : mj_look (mj_prog 174) 26 = some (.ldc 83, 2, 3294967295, 0) := by decide +kernel
theorem k174_28 : mj_look (mj_prog 174) 28 = some (.ireturn, 1, 0, 0) := by decide +kernel
theorem k174_29 : mj_look (mj_prog 174) 29 = some (.aload_n 0, 1, 0, 0) := by decide +kernel
theorem k174_30 : mj_look (mj_prog 174) 30 = some (.invokevirtual 159, 3, 171, 0) := by decide +kernel
theorem k174_33 : mj_look (mj_prog 174) 33 = some (.iconst (-1), 1, 0, 0) := by decide +kernel
theorem k174_34 : mj_look (mj_prog 174) 34 = some (.istore 4, 2, 0, 0) := by decide +kernel
theorem k174_36 : mj_look (mj_prog 174) 36 = some (.iconst 0, 1, 0, 0) := by decide +kernel
theorem k174_37 : mj_look (mj_prog 174) 37 = some (.istore 5, 2, 0, 0) := by decide +kernel
theorem k174_39 : mj_look (mj_prog 174) 39 = some (.iconst 0, 1, 0, 0) := by decide +kernel
theorem k174_40 : mj_look (mj_prog 174) 40 = some (.istore 6, 2, 0, 0) := by decide +kernel
theorem k174_42 : mj_look (mj_prog 174) 42 = some (.iload 6, 2, 0, 0) := by decide +kernel
theorem k174_44 : mj_look (mj_prog 174) 44 = some (.bipush 10, 2, 0, 0) := by decide +kernel
theorem k174_46 : mj_look (mj_prog 174) 46 = some (.if_icmp .ge 62, 3, 108, 0) := by decide +kernel
theorem k174_49 : mj_look (mj_prog 174) 49 = some (.aload_n 0, 1, 0, 0) := by decide +kernel
theorem k174_50 : mj_look (mj_prog 174) 50 = some (.getfield 9, 3, 12, 0) := by decide +kernel
theorem k174_53 : mj_look (mj_prog 174) 53 = some (.bipush 17, 2, 0, 0) := by decide +kernel
theorem k174_55 : mj_look (mj_prog 174) 55 = some (.iload_n 1, 1, 0, 0) := by decide +kernel
theorem k174_56 : mj_look (mj_prog 174) 56 = some (.iadd, 1, 0, 0) := by decide +kernel
theorem k174_57 : mj_look (mj_prog 174) 57 = some (.iload 6, 2, 0, 0) := by decide +kernel
theorem k174_59 : mj_look (mj_prog 174) 59 = some (.iastore, 1, 0, 0) := by decide +kernel
theorem k174_60 : mj_look (mj_prog 174) 60 = some (.aload_n 0, 1, 0, 0) := by decide +kernel
theorem k174_61 : mj_look (mj_prog 174) 61 = some (.iload_n 2, 1, 0, 0) := by decide +kernel
theorem k174_62 : mj_look (mj_prog 174) 62 = some (.invokevirtual 153, 3, 162, 1) := by decide +kernel
theorem k174_65 : mj_look (mj_prog 174) 65 = some (.aload_n 0, 1, 0, 0) := by decide +kernel
theorem k174_66 : mj_look (mj_prog 174) 66 = some (.iconst 3, 1, 0, 0) := by decide +kernel
theorem k174_67 : mj_look (mj_prog 174) 67 = some (.invokevirtual 150, 3, 161, 1) := by decide +kernel
theorem k174_70 : mj_look (mj_prog 174) 70 = some (.aload_n 0, 1, 0, 0) := by decide +kernel
theorem k174_71 : mj_look (mj_prog 174) 71 = some (.iconst 5, 1, 0, 0) := by decide +kernel
theorem k174_72 : mj_look (mj_prog 174) 72 = some (.invokevirtual 150, 3, 161, 1) := by decide +kernel
theorem k174_75 : mj_look (mj_prog 174) 75 = some (.isub, 1, 0, 0) := by decide +kernel
theorem k174_76 : mj_look (mj_prog 174) 76 = some (.istore 7, 2, 0, 0) := by decide +kernel
theorem k174_78 : mj_look (mj_prog 174) 78 = some (.aload_n 0, 1, 0, 0) := by decide +kernel
theorem k174_79 : mj_look (mj_prog 174) 79 = some (.invokevirtual 162, 3, 172, 0) := by decide +kernel
theorem k174_82 : mj_look (mj_prog 174) 82 = some (.iload 4, 2, 0, 0) := by decide +kernel
theorem k174_84 : mj_look (mj_prog 174) 84 = some (.ifCond .lt 10, 3, 94, 0) := by decide +kernel
theorem k174_87 : mj_look (mj_prog 174) 87 = some (.iload 7, 2, 0, 0) := by decide +kernel
theorem k174_89 : mj_look (mj_prog 174) 89 = some (.iload 5, 2, 0, 0) := by decide +kernel
theorem k174_91 : mj_look (mj_prog 174) 91 = some (.if_icmp .le 11, 3, 102, 0) := by decide +kernel
theorem k174_94 : mj_look (mj_prog 174) 94 = some (.iload 6, 2, 0, 0) := by decide +kernel
theorem k174_96 : mj_look (mj_prog 174) 96 = some (.istore 4, 2, 0, 0) := by decide +kernel
theorem k174_98 : mj_look (mj_prog 174) 98 = some (.iload 7, 2, 0, 0) := by decide +kernel
theorem k174_100 : mj_look (mj_prog 174) 100 = some (.istore 5, 2, 0, 0) := by decide +kernel
theorem k174_102 : mj_look (mj_prog 174) 102 = some (.iinc 6 1, 3, 0, 0) := by decide +kernel
theorem k174_105 : mj_look (mj_prog 174) 105 = some (.goto (-63), 3, 42, 0) := by decide +kernel
theorem k174_108 : mj_look (mj_prog 174) 108 = some (.iload_n 3, 1, 0, 0) := by decide +kernel
theorem k174_109 : mj_look (mj_prog 174) 109 = some (.ifCond .ne 8, 3, 117, 0) := by decide +kernel
theorem k174_112 : mj_look (mj_prog 174) 112 = some (.iload 4, 2, 0, 0) := by decide +kernel
theorem k174_114 : mj_look (mj_prog 174) 114 = some (.goto 5, 3, 119, 0) := by decide +kernel
theorem k174_117 : mj_look (mj_prog 174) 117 = some (.iload 5, 2, 0, 0) := by decide +kernel
theorem k174_119 : mj_look (mj_prog 174) 119 = some (.ireturn, 1, 0, 0) := by decide +kernel
theorem mx_175 : (mj_m 175).2.2.1 = 6 := by decide +kernel
theorem rt_175 : (mj_m 175).2.2.2.1 = (some FieldType.int) := by decide +kernel
theorem dp_175 : mj_disp 175 12 = some 175 := by decide +kernel
theorem pq_175 : mj_prog 175 = mj_p175 := rfl
theorem k175_0 : mj_look (mj_prog 175) 0 = some (.iload_n 1, 1, 0, 0) := by decide +kernel
theorem k175_1 : mj_look (mj_prog 175) 1 = some (.invokestatic 107, 3, 138, 1) := by decide +kernel
theorem k175_4 : mj_look (mj_prog 175) 4 = some (.ifCond .eq 25, 3, 29, 0) := by decide +kernel
theorem k175_7 : mj_look (mj_prog 175) 7 = some (.iload_n 2, 1, 0, 0) := by decide +kernel
theorem k175_8 : mj_look (mj_prog 175) 8 = some (.invokestatic 107, 3, 138, 1) := by decide +kernel
theorem k175_11 : mj_look (mj_prog 175) 11 = some (.ifCond .eq 18, 3, 29, 0) := by decide +kernel
theorem k175_14 : mj_look (mj_prog 175) 14 = some (.iload_n 1, 1, 0, 0) := by decide +kernel
theorem k175_15 : mj_look (mj_prog 175) 15 = some (.iload_n 2, 1, 0, 0) := by decide +kernel
theorem k175_16 : mj_look (mj_prog 175) 16 = some (.if_icmp .eq 13, 3, 29, 0) := by decide +kernel
theorem k175_19 : mj_look (mj_prog 175) 19 = some (.iload_n 3, 1, 0, 0) := by decide +kernel
theorem k175_20 : mj_look (mj_prog 175) 20 = some (.iconst 1, 1, 0, 0) := by decide +kernel
theorem k175_21 : mj_look (mj_prog 175) 21 = some (.bipush 100, 2, 0, 0) := by decide +kernel
theorem k175_23 : mj_look (mj_prog 175) 23 = some (.invokestatic 79, 3, 134, 3) := by decide +kernel
theorem k175_26 : mj_look (mj_prog 175) 26 = some (.ifCond .ne 6, 3, 32, 0) := by decide +kernel
theorem k175_29 : mj_look (mj_prog 175) 29 = some (.ldc 83, 2, 3294967295, 0) := by decide +kernel
theorem k175_31 : mj_look (mj_prog 175) 31 = some (.ireturn, 1, 0, 0) := by decide +kernel
theorem k175_32 : mj_look (mj_prog 175) 32 = some (.aload_n 0, 1, 0, 0) := by decide +kernel
theorem k175_33 : mj_look (mj_prog 175) 33 = some (.invokevirtual 159, 3, 171, 0) := by decide +kernel
theorem k175_36 : mj_look (mj_prog 175) 36 = some (.aload_n 0, 1, 0, 0) := by decide +kernel
theorem k175_37 : mj_look (mj_prog 175) 37 = some (.iload_n 3, 1, 0, 0) := by decide +kernel
theorem k175_38 : mj_look (mj_prog 175) 38 = some (.invokevirtual 166, 3, 176, 1) := by decide +kernel
theorem k175_41 : mj_look (mj_prog 175) 41 = some (.istore 4, 2, 0, 0) := by decide +kernel
theorem k175_43 : mj_look (mj_prog 175) 43 = some (.bipush 29, 2, 0, 0) := by decide +kernel
theorem k175_45 : mj_look (mj_prog 175) 45 = some (.istore 5, 2, 0, 0) := by decide +kernel
theorem k175_47 : mj_look (mj_prog 175) 47 = some (.iload 5, 2, 0, 0) := by decide +kernel
theorem k175_49 : mj_look (mj_prog 175) 49 = some (.bipush 41, 2, 0, 0) := by decide +kernel
theorem k175_51 : mj_look (mj_prog 175) 51 = some (.if_icmp .gt 45, 3, 96, 0) := by decide +kernel
theorem k175_54 : mj_look (mj_prog 175) 54 = some (.aload_n 0, 1, 0, 0) := by decide +kernel
theorem k175_55 : mj_look (mj_prog 175) 55 = some (.getfield 9, 3, 12, 0) := by decide +kernel
theorem k175_58 : mj_look (mj_prog 175) 58 = some (.iload 5, 2, 0, 0) := by decide +kernel
theorem k175_60 : mj_look (mj_prog 175) 60 = some (.iload_n 1, 1, 0, 0) := by decide +kernel
theorem k175_61 : mj_look (mj_prog 175) 61 = some (.iadd, 1, 0, 0) := by decide +kernel
theorem k175_62 : mj_look (mj_prog 175) 62 = some (.aload_n 0, 1, 0, 0) := by decide +kernel
theorem k175_63 : mj_look (mj_prog 175) 63 = some (.getfield 23, 3, 12, 5) := by decide +kernel
theorem k175_66 : mj_look (mj_prog 175) 66 = some (.iload 5, 2, 0, 0) := by decide +kernel
theorem k175_68 : mj_look (mj_prog 175) 68 = some (.iload_n 2, 1, 0, 0) := by decide +kernel
theorem k175_69 : mj_look (mj_prog 175) 69 = some (.iadd, 1, 0, 0) := by decide +kernel
theorem k175_70 : mj_look (mj_prog 175) 70 = some (.iaload, 1, 0, 0) := by decide +kernel
theorem k175_71 : mj_look (mj_prog 175) 71 = some (.iastore, 1, 0, 0) := by decide +kernel
theorem k175_72 : mj_look (mj_prog 175) 72 = some (.aload_n 0, 1, 0, 0) := by decide +kernel
theorem k175_73 : mj_look (mj_prog 175) 73 = some (.getfield 9, 3, 12, 0) := by decide +kernel
theorem k175_76 : mj_look (mj_prog 175) 76 = some (.iload 5, 2, 0, 0) := by decide +kernel
theorem k175_78 : mj_look (mj_prog 175) 78 = some (.iload_n 2, 1, 0, 0) := by decide +kernel
theorem k175_79 : mj_look (mj_prog 175) 79 = some (.iadd, 1, 0, 0) := by decide +kernel
theorem k175_80 : mj_look (mj_prog 175) 80 = some (.aload_n 0, 1, 0, 0) := by decide +kernel
theorem k175_81 : mj_look (mj_prog 175) 81 = some (.getfield 23, 3, 12, 5) := by decide +kernel
theorem k175_84 : mj_look (mj_prog 175) 84 = some (.iload 5, 2, 0, 0) := by decide +kernel
theorem k175_86 : mj_look (mj_prog 175) 86 = some (.iload_n 1, 1, 0, 0) := by decide +kernel
theorem k175_87 : mj_look (mj_prog 175) 87 = some (.iadd, 1, 0, 0) := by decide +kernel
theorem k175_88 : mj_look (mj_prog 175) 88 = some (.iaload, 1, 0, 0) := by decide +kernel
theorem k175_89 : mj_look (mj_prog 175) 89 = some (.iastore, 1, 0, 0) := by decide +kernel
theorem k175_90 : mj_look (mj_prog 175) 90 = some (.iinc 5 12, 3, 0, 0) := by decide +kernel
theorem k175_93 : mj_look (mj_prog 175) 93 = some (.goto (-46), 3, 47, 0) := by decide +kernel
theorem k175_96 : mj_look (mj_prog 175) 96 = some (.aload_n 0, 1, 0, 0) := by decide +kernel
theorem k175_97 : mj_look (mj_prog 175) 97 = some (.iload_n 3, 1, 0, 0) := by decide +kernel
theorem k175_98 : mj_look (mj_prog 175) 98 = some (.invokevirtual 166, 3, 176, 1) := by decide +kernel
theorem k175_101 : mj_look (mj_prog 175) 101 = some (.iload 4, 2, 0, 0) := by decide +kernel
theorem k175_103 : mj_look (mj_prog 175) 103 = some (.isub, 1, 0, 0) := by decide +kernel
theorem k175_104 : mj_look (mj_prog 175) 104 = some (.ireturn, 1, 0, 0) := by decide +kernel
theorem mx_176 : (mj_m 176).2.2.1 = 3 := by decide +kernel
theorem rt_176 : (mj_m 176).2.2.2.1 = (some FieldType.int) := by decide +kernel
theorem dp_176 : mj_disp 176 12 = some 176 := by decide +kernel
theorem pq_176 : mj_prog 176 = mj_p176 := rfl
theorem k176_0 : mj_look (mj_prog 176) 0 = some (.aload_n 0, 1, 0, 0) := by decide +kernel
theorem k176_1 : mj_look (mj_prog 176) 1 = some (.iload_n 1, 1, 0, 0) := by decide +kernel
theorem k176_2 : mj_look (mj_prog 176) 2 = some (.invokevirtual 153, 3, 162, 1) := by decide +kernel
theorem k176_5 : mj_look (mj_prog 176) 5 = some (.aload_n 0, 1, 0, 0) := by decide +kernel
theorem k176_6 : mj_look (mj_prog 176) 6 = some (.iconst 3, 1, 0, 0) := by decide +kernel
theorem k176_7 : mj_look (mj_prog 176) 7 = some (.invokevirtual 150, 3, 161, 1) := by decide +kernel
theorem k176_10 : mj_look (mj_prog 176) 10 = some (.istore_n 2, 1, 0, 0) := by decide +kernel
theorem k176_11 : mj_look (mj_prog 176) 11 = some (.aload_n 0, 1, 0, 0) := by decide +kernel
theorem k176_12 : mj_look (mj_prog 176) 12 = some (.invokevirtual 162, 3, 172, 0) := by decide +kernel
theorem k176_15 : mj_look (mj_prog 176) 15 = some (.iload_n 2, 1, 0, 0) := by decide +kernel
theorem k176_16 : mj_look (mj_prog 176) 16 = some (.ireturn, 1, 0, 0) := by decide +kernel
theorem mx_177 : (mj_m 177).2.2.1 = 7 := by decide +kernel
theorem rt_177 : (mj_m 177).2.2.2.1 = (some FieldType.int) := by decide +kernel
theorem dp_177 : mj_disp 177 12 = some 177 := by decide +kernel
theorem pq_177 : mj_prog 177 = mj_p177 := rfl
theorem k177_0 : mj_look (mj_prog 177) 0 = some (.iload_n 1, 1, 0, 0) := by decide +kernel
theorem k177_1 : mj_look (mj_prog 177) 1 = some (.iconst 1, 1, 0, 0) := by decide +kernel
theorem k177_2 : mj_look (mj_prog 177) 2 = some (.bipush 100, 2, 0, 0) := by decide +kernel
theorem k177_4 : mj_look (mj_prog 177) 4 = some (.invokestatic 79, 3, 134, 3) := by decide +kernel
theorem k177_7 : mj_look (mj_prog 177) 7 = some (.ifCond .eq 12, 3, 19, 0) := by decide +kernel
theorem k177_10 : mj_look (mj_prog 177) 10 = some (.iload_n 2, 1, 0, 0) := by decide +kernel
theorem k177_11 : mj_look (mj_prog 177) 11 = some (.iconst 0, 1, 0, 0) := by decide +kernel
theorem k177_12 : mj_look (mj_prog 177) 12 = some (.iconst 1, 1, 0, 0) := by decide +kernel
theorem k177_13 : mj_look (mj_prog 177) 13 = some (.invokestatic 79, 3, 134, 3) := by decide +kernel
theorem k177_16 : mj_look (mj_prog 177) 16 = some (.ifCond .ne 6, 3, 22, 0) := by decide +kernel
theorem k177_19 : mj_look (mj_prog 177) 19 = some (.ldc 83, 2, 3294967295, 0) := by decide +kernel
theorem k177_21 : mj_look (mj_prog 177) 21 = some (.ireturn, 1, 0, 0) := by decide +kernel
theorem k177_22 : mj_look (mj_prog 177) 22 = some (.aload_n 0, 1, 0, 0) := by decide +kernel
theorem k177_23 : mj_look (mj_prog 177) 23 = some (.invokevirtual 159, 3, 171, 0) := by decide +kernel
theorem k177_26 : mj_look (mj_prog 177) 26 = some (.iconst (-1), 1, 0, 0) := by decide +kernel
theorem k177_27 : mj_look (mj_prog 177) 27 = some (.istore_n 3, 1, 0, 0) := by decide +kernel
theorem k177_28 : mj_look (mj_prog 177) 28 = some (.iconst 0, 1, 0, 0) := by decide +kernel
theorem k177_29 : mj_look (mj_prog 177) 29 = some (.istore 4, 2, 0, 0) := by decide +kernel
theorem k177_31 : mj_look (mj_prog 177) 31 = some (.iconst 0, 1, 0, 0) := by decide +kernel
theorem k177_32 : mj_look (mj_prog 177) 32 = some (.istore 5, 2, 0, 0) := by decide +kernel
theorem k177_34 : mj_look (mj_prog 177) 34 = some (.iload 5, 2, 0, 0) := by decide +kernel
theorem k177_36 : mj_look (mj_prog 177) 36 = some (.aload_n 0, 1, 0, 0) := by decide +kernel
theorem k177_37 : mj_look (mj_prog 177) 37 = some (.getfield 9, 3, 12, 0) := by decide +kernel
theorem k177_40 : mj_look (mj_prog 177) 40 = some (.iconst 1, 1, 0, 0) := by decide +kernel
theorem k177_41 : mj_look (mj_prog 177) 41 = some (.iaload, 1, 0, 0) := by decide +kernel
theorem k177_42 : mj_look (mj_prog 177) 42 = some (.if_icmp .ge 40, 3, 82, 0) := by decide +kernel
theorem k177_45 : mj_look (mj_prog 177) 45 = some (.aload_n 0, 1, 0, 0) := by decide +kernel
theorem k177_46 : mj_look (mj_prog 177) 46 = some (.iload 5, 2, 0, 0) := by decide +kernel
theorem k177_48 : mj_look (mj_prog 177) 48 = some (.putfield 19, 3, 12, 4) := by decide +kernel
theorem k177_51 : mj_look (mj_prog 177) 51 = some (.aload_n 0, 1, 0, 0) := by decide +kernel
theorem k177_52 : mj_look (mj_prog 177) 52 = some (.iload_n 1, 1, 0, 0) := by decide +kernel
theorem k177_53 : mj_look (mj_prog 177) 53 = some (.invokevirtual 166, 3, 176, 1) := by decide +kernel
theorem k177_56 : mj_look (mj_prog 177) 56 = some (.istore 6, 2, 0, 0) := by decide +kernel
theorem k177_58 : mj_look (mj_prog 177) 58 = some (.iload_n 3, 1, 0, 0) := by decide +kernel
theorem k177_59 : mj_look (mj_prog 177) 59 = some (.ifCond .lt 10, 3, 69, 0) := by decide +kernel
theorem k177_62 : mj_look (mj_prog 177) 62 = some (.iload 6, 2, 0, 0) := by decide +kernel
theorem k177_64 : mj_look (mj_prog 177) 64 = some (.iload 4, 2, 0, 0) := by decide +kernel
theorem k177_66 : mj_look (mj_prog 177) 66 = some (.if_icmp .le 10, 3, 76, 0) := by decide +kernel
theorem k177_69 : mj_look (mj_prog 177) 69 = some (.iload 5, 2, 0, 0) := by decide +kernel
theorem k177_71 : mj_look (mj_prog 177) 71 = some (.istore_n 3, 1, 0, 0) := by decide +kernel
theorem k177_72 : mj_look (mj_prog 177) 72 = some (.iload 6, 2, 0, 0) := by decide +kernel
theorem k177_74 : mj_look (mj_prog 177) 74 = some (.istore 4, 2, 0, 0) := by decide +kernel
theorem k177_76 : mj_look (mj_prog 177) 76 = some (.iinc 5 1, 3, 0, 0) := by decide +kernel
theorem k177_79 : mj_look (mj_prog 177) 79 = some (.goto (-45), 3, 34, 0) := by decide +kernel
theorem k177_82 : mj_look (mj_prog 177) 82 = some (.iload_n 3, 1, 0, 0) := by decide +kernel
theorem k177_83 : mj_look (mj_prog 177) 83 = some (.ifCond .ge 8, 3, 91, 0) := by decide +kernel
theorem k177_86 : mj_look (mj_prog 177) 86 = some (.ldc 165, 2, 3294967291, 0) := by decide +kernel
theorem k177_88 : mj_look (mj_prog 177) 88 = some (.goto 13, 3, 101, 0) := by decide +kernel
theorem k177_91 : mj_look (mj_prog 177) 91 = some (.iload_n 2, 1, 0, 0) := by decide +kernel
theorem k177_92 : mj_look (mj_prog 177) 92 = some (.ifCond .ne 7, 3, 99, 0) := by decide +kernel
theorem k177_95 : mj_look (mj_prog 177) 95 = some (.iload_n 3, 1, 0, 0) := by decide +kernel
theorem k177_96 : mj_look (mj_prog 177) 96 = some (.goto 5, 3, 101, 0) := by decide +kernel
theorem k177_99 : mj_look (mj_prog 177) 99 = some (.iload 4, 2, 0, 0) := by decide +kernel
theorem k177_101 : mj_look (mj_prog 177) 101 = some (.ireturn, 1, 0, 0) := by decide +kernel
theorem mx_178 : (mj_m 178).2.2.1 = 8 := by decide +kernel
theorem rt_178 : (mj_m 178).2.2.2.1 = (some FieldType.int) := by decide +kernel
theorem dp_178 : mj_disp 178 12 = some 178 := by decide +kernel
theorem pq_178 : mj_prog 178 = mj_p178 := rfl
theorem k178_0 : mj_look (mj_prog 178) 0 = some (.aload_n 0, 1, 0, 0) := by decide +kernel
theorem k178_1 : mj_look (mj_prog 178) 1 = some (.iload_n 1, 1, 0, 0) := by decide +kernel
theorem k178_2 : mj_look (mj_prog 178) 2 = some (.invokevirtual 103, 3, 137, 1) := by decide +kernel
theorem k178_5 : mj_look (mj_prog 178) 5 = some (.ifCond .eq 22, 3, 27, 0) := by decide +kernel
theorem k178_8 : mj_look (mj_prog 178) 8 = some (.iload_n 2, 1, 0, 0) := by decide +kernel
theorem k178_9 : mj_look (mj_prog 178) 9 = some (.iconst 1, 1, 0, 0) := by decide +kernel
theorem k178_10 : mj_look (mj_prog 178) 10 = some (.bipush 100, 2, 0, 0) := by decide +kernel
theorem k178_12 : mj_look (mj_prog 178) 12 = some (.invokestatic 79, 3, 134, 3) := by decide +kernel
theorem k178_15 : mj_look (mj_prog 178) 15 = some (.ifCond .eq 12, 3, 27, 0) := by decide +kernel
theorem k178_18 : mj_look (mj_prog 178) 18 = some (.iload_n 3, 1, 0, 0) := by decide +kernel
theorem k178_19 : mj_look (mj_prog 178) 19 = some (.iconst 0, 1, 0, 0) := by decide +kernel
theorem k178_20 : mj_look (mj_prog 178) 20 = some (.iconst 1, 1, 0, 0) := by decide +kernel
theorem k178_21 : mj_look (mj_prog 178) 21 = some (.invokestatic 79, 3, 134, 3) := by decide +kernel
theorem k178_24 : mj_look (mj_prog 178) 24 = some (.ifCond .ne 6, 3, 30, 0) := by decide +kernel
theorem k178_27 : mj_look (mj_prog 178) 27 = some (.ldc 83, 2, 3294967295, 0) := by decide +kernel
theorem k178_29 : mj_look (mj_prog 178) 29 = some (.ireturn, 1, 0, 0) := by decide +kernel
theorem k178_30 : mj_look (mj_prog 178) 30 = some (.aload_n 0, 1, 0, 0) := by decide +kernel
theorem k178_31 : mj_look (mj_prog 178) 31 = some (.invokevirtual 159, 3, 171, 0) := by decide +kernel
theorem k178_34 : mj_look (mj_prog 178) 34 = some (.iconst (-1), 1, 0, 0) := by decide +kernel
theorem k178_35 : mj_look (mj_prog 178) 35 = some (.istore 4, 2, 0, 0) := by decide +kernel
theorem k178_37 : mj_look (mj_prog 178) 37 = some (.iconst (-1), 1, 0, 0) := by decide +kernel
theorem k178_38 : mj_look (mj_prog 178) 38 = some (.istore 5, 2, 0, 0) := by decide +kernel
theorem k178_40 : mj_look (mj_prog 178) 40 = some (.iconst 0, 1, 0, 0) := by decide +kernel
theorem k178_41 : mj_look (mj_prog 178) 41 = some (.istore 6, 2, 0, 0) := by decide +kernel
theorem k178_43 : mj_look (mj_prog 178) 43 = some (.iload 6, 2, 0, 0) := by decide +kernel
theorem k178_45 : mj_look (mj_prog 178) 45 = some (.bipush 6, 2, 0, 0) := by decide +kernel
theorem k178_47 : mj_look (mj_prog 178) 47 = some (.if_icmp .ge 62, 3, 109, 0) := by decide +kernel
theorem k178_50 : mj_look (mj_prog 178) 50 = some (.aload_n 0, 1, 0, 0) := by decide +kernel
theorem k178_51 : mj_look (mj_prog 178) 51 = some (.getfield 9, 3, 12, 0) := by decide +kernel
theorem k178_54 : mj_look (mj_prog 178) 54 = some (.bipush 53, 2, 0, 0) := by decide +kernel
theorem k178_56 : mj_look (mj_prog 178) 56 = some (.bipush 7, 2, 0, 0) := by decide +kernel
theorem k178_58 : mj_look (mj_prog 178) 58 = some (.iload_n 1, 1, 0, 0) := by decide +kernel
theorem k178_59 : mj_look (mj_prog 178) 59 = some (.imul, 1, 0, 0) := by decide +kernel
theorem k178_60 : mj_look (mj_prog 178) 60 = some (.iadd, 1, 0, 0) := by decide +kernel
theorem k178_61 : mj_look (mj_prog 178) 61 = some (.iload 6, 2, 0, 0) := by decide +kernel
theorem k178_63 : mj_look (mj_prog 178) 63 = some (.iastore, 1, 0, 0) := by decide +kernel
theorem k178_64 : mj_look (mj_prog 178) 64 = some (.aload_n 0, 1, 0, 0) := by decide +kernel
theorem k178_65 : mj_look (mj_prog 178) 65 = some (.iload_n 2, 1, 0, 0) := by decide +kernel
theorem k178_66 : mj_look (mj_prog 178) 66 = some (.invokevirtual 166, 3, 176, 1) := by decide +kernel
theorem k178_69 : mj_look (mj_prog 178) 69 = some (.istore 7, 2, 0, 0) := by decide +kernel
theorem k178_71 : mj_look (mj_prog 178) 71 = some (.iload 7, 2, 0, 0) := by decide +kernel
theorem k178_73 : mj_look (mj_prog 178) 73 = some (.iload 5, 2, 0, 0) := by decide +kernel
theorem k178_75 : mj_look (mj_prog 178) 75 = some (.if_icmp .le 8, 3, 83, 0) := by decide +kernel
theorem k178_78 : mj_look (mj_prog 178) 78 = some (.iload 6, 2, 0, 0) := by decide +kernel
theorem k178_80 : mj_look (mj_prog 178) 80 = some (.goto 5, 3, 85, 0) := by decide +kernel
theorem k178_83 : mj_look (mj_prog 178) 83 = some (.iload 4, 2, 0, 0) := by decide +kernel
theorem k178_85 : mj_look (mj_prog 178) 85 = some (.istore 4, 2, 0, 0) := by decide +kernel
theorem k178_87 : mj_look (mj_prog 178) 87 = some (.iload 7, 2, 0, 0) := by decide +kernel
theorem k178_89 : mj_look (mj_prog 178) 89 = some (.iload 5, 2, 0, 0) := by decide +kernel
theorem k178_91 : mj_look (mj_prog 178) 91 = some (.if_icmp .le 8, 3, 99, 0) := by decide +kernel
theorem k178_94 : mj_look (mj_prog 178) 94 = some (.iload 7, 2, 0, 0) := by decide +kernel
theorem k178_96 : mj_look (mj_prog 178) 96 = some (.goto 5, 3, 101, 0) := by decide +kernel
theorem k178_99 : mj_look (mj_prog 178) 99 = some (.iload 5, 2, 0, 0) := by decide +kernel
theorem k178_101 : mj_look (mj_prog 178) 101 = some (.istore 5, 2, 0, 0) := by decide +kernel
theorem k178_103 : mj_look (mj_prog 178) 103 = some (.iinc 6 1, 3, 0, 0) := by decide +kernel
theorem k178_106 : mj_look (mj_prog 178) 106 = some (.goto (-63), 3, 43, 0) := by decide +kernel
theorem k178_109 : mj_look (mj_prog 178) 109 = some (.iload_n 3, 1, 0, 0) := by decide +kernel
theorem k178_110 : mj_look (mj_prog 178) 110 = some (.ifCond .ne 8, 3, 118, 0) := by decide +kernel
theorem k178_113 : mj_look (mj_prog 178) 113 = some (.iload 4, 2, 0, 0) := by decide +kernel
theorem k178_115 : mj_look (mj_prog 178) 115 = some (.goto 5, 3, 120, 0) := by decide +kernel
theorem k178_118 : mj_look (mj_prog 178) 118 = some (.iload 5, 2, 0, 0) := by decide +kernel
theorem k178_120 : mj_look (mj_prog 178) 120 = some (.ireturn, 1, 0, 0) := by decide +kernel
theorem mx_179 : (mj_m 179).2.2.1 = 4 := by decide +kernel
theorem rt_179 : (mj_m 179).2.2.2.1 = (some FieldType.int) := by decide +kernel
theorem dp_179 : mj_disp 179 12 = some 179 := by decide +kernel
theorem pq_179 : mj_prog 179 = mj_p179 := rfl
theorem k179_0 : mj_look (mj_prog 179) 0 = some (.iload_n 1, 1, 0, 0) := by decide +kernel
theorem k179_1 : mj_look (mj_prog 179) 1 = some (.invokestatic 107, 3, 138, 1) := by decide +kernel
theorem k179_4 : mj_look (mj_prog 179) 4 = some (.ifCond .eq 13, 3, 17, 0) := by decide +kernel
theorem k179_7 : mj_look (mj_prog 179) 7 = some (.iload_n 2, 1, 0, 0) := by decide +kernel
theorem k179_8 : mj_look (mj_prog 179) 8 = some (.iconst 1, 1, 0, 0) := by decide +kernel
theorem k179_9 : mj_look (mj_prog 179) 9 = some (.bipush 100, 2, 0, 0) := by decide +kernel
theorem k179_11 : mj_look (mj_prog 179) 11 = some (.invokestatic 79, 3, 134, 3) := by decide +kernel
theorem k179_14 : mj_look (mj_prog 179) 14 = some (.ifCond .ne 6, 3, 20, 0) := by decide +kernel
theorem k179_17 : mj_look (mj_prog 179) 17 = some (.ldc 83, 2, 3294967295, 0) := by decide +kernel
theorem k179_19 : mj_look (mj_prog 179) 19 = some (.ireturn, 1, 0, 0) := by decide +kernel
theorem k179_20 : mj_look (mj_prog 179) 20 = some (.aload_n 0, 1, 0, 0) := by decide +kernel
theorem k179_21 : mj_look (mj_prog 179) 21 = some (.invokevirtual 159, 3, 171, 0) := by decide +kernel
theorem k179_24 : mj_look (mj_prog 179) 24 = some (.aload_n 0, 1, 0, 0) := by decide +kernel
theorem k179_25 : mj_look (mj_prog 179) 25 = some (.iload_n 2, 1, 0, 0) := by decide +kernel
theorem k179_26 : mj_look (mj_prog 179) 26 = some (.invokevirtual 166, 3, 176, 1) := by decide +kernel
theorem k179_29 : mj_look (mj_prog 179) 29 = some (.istore_n 3, 1, 0, 0) := by decide +kernel
theorem k179_30 : mj_look (mj_prog 179) 30 = some (.aload_n 0, 1, 0, 0) := by decide +kernel
theorem k179_31 : mj_look (mj_prog 179) 31 = some (.getfield 9, 3, 12, 0) := by decide +kernel
theorem k179_34 : mj_look (mj_prog 179) 34 = some (.bipush 17, 2, 0, 0) := by decide +kernel
theorem k179_36 : mj_look (mj_prog 179) 36 = some (.iload_n 1, 1, 0, 0) := by decide +kernel
theorem k179_37 : mj_look (mj_prog 179) 37 = some (.iadd, 1, 0, 0) := by decide +kernel
theorem k179_38 : mj_look (mj_prog 179) 38 = some (.bipush 9, 2, 0, 0) := by decide +kernel
theorem k179_40 : mj_look (mj_prog 179) 40 = some (.iastore, 1, 0, 0) := by decide +kernel
theorem k179_41 : mj_look (mj_prog 179) 41 = some (.iload_n 3, 1, 0, 0) := by decide +kernel
theorem k179_42 : mj_look (mj_prog 179) 42 = some (.aload_n 0, 1, 0, 0) := by decide +kernel
theorem k179_43 : mj_look (mj_prog 179) 43 = some (.iload_n 2, 1, 0, 0) := by decide +kernel
theorem k179_44 : mj_look (mj_prog 179) 44 = some (.invokevirtual 166, 3, 176, 1) := by decide +kernel
theorem k179_47 : mj_look (mj_prog 179) 47 = some (.isub, 1, 0, 0) := by decide +kernel
theorem k179_48 : mj_look (mj_prog 179) 48 = some (.ireturn, 1, 0, 0) := by decide +kernel
theorem mx_180 : (mj_m 180).2.2.1 = 5 := by decide +kernel
theorem rt_180 : (mj_m 180).2.2.2.1 = (some FieldType.int) := by decide +kernel
theorem dp_180 : mj_disp 180 12 = some 180 := by decide +kernel
theorem pq_180 : mj_prog 180 = mj_p180 := rfl
theorem k180_0 : mj_look (mj_prog 180) 0 = some (.iload_n 1, 1, 0, 0) := by decide +kernel
theorem k180_1 : mj_look (mj_prog 180) 1 = some (.iconst 1, 1, 0, 0) := by decide +kernel
theorem k180_2 : mj_look (mj_prog 180) 2 = some (.bipush 60, 2, 0, 0) := by decide +kernel
theorem k180_4 : mj_look (mj_prog 180) 4 = some (.invokestatic 79, 3, 134, 3) := by decide +kernel
theorem k180_7 : mj_look (mj_prog 180) 7 = some (.ifCond .ne 6, 3, 13, 0) := by decide +kernel
theorem k180_10 : mj_look (mj_prog 180) 10 = some (.ldc 83, 2, 3294967295, 0) := by decide +kernel
theorem k180_12 : mj_look (mj_prog 180) 12 = some (.ireturn, 1, 0, 0) := by decide +kernel
theorem k180_13 : mj_look (mj_prog 180) 13 = some (.aload_n 0, 1, 0, 0) := by decide +kernel
theorem k180_14 : mj_look (mj_prog 180) 14 = some (.invokevirtual 159, 3, 171, 0) := by decide +kernel
theorem k180_17 : mj_look (mj_prog 180) 17 = some (.aload_n 0, 1, 0, 0) := by decide +kernel
theorem k180_18 : mj_look (mj_prog 180) 18 = some (.iconst 5, 1, 0, 0) := by decide +kernel
theorem k180_19 : mj_look (mj_prog 180) 19 = some (.invokevirtual 150, 3, 161, 1) := by decide +kernel
theorem k180_22 : mj_look (mj_prog 180) 22 = some (.istore_n 2, 1, 0, 0) := by decide +kernel
theorem k180_23 : mj_look (mj_prog 180) 23 = some (.iconst 0, 1, 0, 0) := by decide +kernel
theorem k180_24 : mj_look (mj_prog 180) 24 = some (.istore_n 3, 1, 0, 0) := by decide +kernel
theorem k180_25 : mj_look (mj_prog 180) 25 = some (.bipush 60, 2, 0, 0) := by decide +kernel
theorem k180_27 : mj_look (mj_prog 180) 27 = some (.istore 4, 2, 0, 0) := by decide +kernel
theorem k180_29 : mj_look (mj_prog 180) 29 = some (.iload 4, 2, 0, 0) := by decide +kernel
theorem k180_31 : mj_look (mj_prog 180) 31 = some (.ifCond .le 46, 3, 77, 0) := by decide +kernel
theorem k180_34 : mj_look (mj_prog 180) 34 = some (.iload_n 3, 1, 0, 0) := by decide +kernel
theorem k180_35 : mj_look (mj_prog 180) 35 = some (.ifCond .ne 42, 3, 77, 0) := by decide +kernel
theorem k180_38 : mj_look (mj_prog 180) 38 = some (.aload_n 0, 1, 0, 0) := by decide +kernel
theorem k180_39 : mj_look (mj_prog 180) 39 = some (.getfield 9, 3, 12, 0) := by decide +kernel
theorem k180_42 : mj_look (mj_prog 180) 42 = some (.iconst 3, 1, 0, 0) := by decide +kernel
theorem k180_43 : mj_look (mj_prog 180) 43 = some (.iload 4, 2, 0, 0) := by decide +kernel
theorem k180_45 : mj_look (mj_prog 180) 45 = some (.iastore, 1, 0, 0) := by decide +kernel
theorem k180_46 : mj_look (mj_prog 180) 46 = some (.aload_n 0, 1, 0, 0) := by decide +kernel
theorem k180_47 : mj_look (mj_prog 180) 47 = some (.iload_n 1, 1, 0, 0) := by decide +kernel
theorem k180_48 : mj_look (mj_prog 180) 48 = some (.invokevirtual 153, 3, 162, 1) := by decide +kernel
theorem k180_51 : mj_look (mj_prog 180) 51 = some (.aload_n 0, 1, 0, 0) := by decide +kernel
theorem k180_52 : mj_look (mj_prog 180) 52 = some (.iconst 5, 1, 0, 0) := by decide +kernel
theorem k180_53 : mj_look (mj_prog 180) 53 = some (.invokevirtual 150, 3, 161, 1) := by decide +kernel
theorem k180_56 : mj_look (mj_prog 180) 56 = some (.iload_n 2, 1, 0, 0) := by decide +kernel
theorem k180_57 : mj_look (mj_prog 180) 57 = some (.if_icmp .ne 8, 3, 65, 0) := by decide +kernel
theorem k180_60 : mj_look (mj_prog 180) 60 = some (.iload 4, 2, 0, 0) := by decide +kernel
theorem k180_62 : mj_look (mj_prog 180) 62 = some (.goto 4, 3, 66, 0) := by decide +kernel
theorem k180_65 : mj_look (mj_prog 180) 65 = some (.iconst 0, 1, 0, 0) := by decide +kernel
theorem k180_66 : mj_look (mj_prog 180) 66 = some (.istore_n 3, 1, 0, 0) := by decide +kernel
theorem k180_67 : mj_look (mj_prog 180) 67 = some (.aload_n 0, 1, 0, 0) := by decide +kernel
theorem k180_68 : mj_look (mj_prog 180) 68 = some (.invokevirtual 162, 3, 172, 0) := by decide +kernel
theorem k180_71 : mj_look (mj_prog 180) 71 = some (.iinc 4 (-1), 3, 0, 0) := by decide +kernel
theorem k180_74 : mj_look (mj_prog 180) 74 = some (.goto (-45), 3, 29, 0) := by decide +kernel
theorem k180_77 : mj_look (mj_prog 180) 77 = some (.iload_n 3, 1, 0, 0) := by decide +kernel
theorem k180_78 : mj_look (mj_prog 180) 78 = some (.ifCond .ne 8, 3, 86, 0) := by decide +kernel
theorem k180_81 : mj_look (mj_prog 180) 81 = some (.ldc 165, 2, 3294967291, 0) := by decide +kernel
theorem k180_83 : mj_look (mj_prog 180) 83 = some (.goto 4, 3, 87, 0) := by decide +kernel
theorem k180_86 : mj_look (mj_prog 180) 86 = some (.iload_n 3, 1, 0, 0) := by decide +kernel
theorem k180_87 : mj_look (mj_prog 180) 87 = some (.ireturn, 1, 0, 0) := by decide +kernel
theorem mx_181 : (mj_m 181).2.2.1 = 10 := by decide +kernel
theorem rt_181 : (mj_m 181).2.2.2.1 = (some FieldType.int) := by decide +kernel
theorem dp_181 : mj_disp 181 12 = some 181 := by decide +kernel
theorem pq_181 : mj_prog 181 = mj_p181 := rfl
theorem k181_0 : mj_look (mj_prog 181) 0 = some (.iload_n 1, 1, 0, 0) := by decide +kernel
theorem k181_1 : mj_look (mj_prog 181) 1 = some (.invokestatic 169, 3, 182, 1) := by decide +kernel
theorem k181_4 : mj_look (mj_prog 181) 4 = some (.ifCond .eq 20, 3, 24, 0) := by decide +kernel
theorem k181_7 : mj_look (mj_prog 181) 7 = some (.aload_n 0, 1, 0, 0) := by decide +kernel
theorem k181_8 : mj_look (mj_prog 181) 8 = some (.iload_n 2, 1, 0, 0) := by decide +kernel
theorem k181_9 : mj_look (mj_prog 181) 9 = some (.invokevirtual 103, 3, 137, 1) := by decide +kernel
theorem k181_12 : mj_look (mj_prog 181) 12 = some (.ifCond .eq 12, 3, 24, 0) := by decide +kernel
theorem k181_15 : mj_look (mj_prog 181) 15 = some (.iload_n 3, 1, 0, 0) := by decide +kernel
theorem k181_16 : mj_look (mj_prog 181) 16 = some (.iconst 0, 1, 0, 0) := by decide +kernel
theorem k181_17 : mj_look (mj_prog 181) 17 = some (.iconst 1, 1, 0, 0) := by decide +kernel
theorem k181_18 : mj_look (mj_prog 181) 18 = some (.invokestatic 79, 3, 134, 3) := by decide +kernel
theorem k181_21 : mj_look (mj_prog 181) 21 = some (.ifCond .ne 6, 3, 27, 0) := by decide +kernel
theorem k181_24 : mj_look (mj_prog 181) 24 = some (.ldc 83, 2, 3294967295, 0) := by decide +kernel
theorem k181_26 : mj_look (mj_prog 181) 26 = some (.ireturn, 1, 0, 0) := by decide +kernel
theorem k181_27 : mj_look (mj_prog 181) 27 = some (.aload_n 0, 1, 0, 0) := by decide +kernel
theorem k181_28 : mj_look (mj_prog 181) 28 = some (.getfield 52, 3, 12, 24) := by decide +kernel
theorem k181_31 : mj_look (mj_prog 181) 31 = some (.iload_n 1, 1, 0, 0) := by decide +kernel
theorem k181_32 : mj_look (mj_prog 181) 32 = some (.iaload, 1, 0, 0) := by decide +kernel
theorem k181_33 : mj_look (mj_prog 181) 33 = some (.ifCond .ge 6, 3, 39, 0) := by decide +kernel
theorem k181_36 : mj_look (mj_prog 181) 36 = some (.ldc 172, 2, 3294967285, 0) := by decide +kernel
theorem k181_38 : mj_look (mj_prog 181) 38 = some (.ireturn, 1, 0, 0) := by decide +kernel
theorem k181_39 : mj_look (mj_prog 181) 39 = some (.aload_n 0, 1, 0, 0) := by decide +kernel
theorem k181_40 : mj_look (mj_prog 181) 40 = some (.invokevirtual 159, 3, 171, 0) := by decide +kernel
theorem k181_43 : mj_look (mj_prog 181) 43 = some (.iconst 1, 1, 0, 0) := by decide +kernel
theorem k181_44 : mj_look (mj_prog 181) 44 = some (.istore 4, 2, 0, 0) := by decide +kernel
theorem k181_46 : mj_look (mj_prog 181) 46 = some (.aload_n 0, 1, 0, 0) := by decide +kernel
theorem k181_47 : mj_look (mj_prog 181) 47 = some (.iload_n 1, 1, 0, 0) := by decide +kernel
theorem k181_48 : mj_look (mj_prog 181) 48 = some (.iload_n 2, 1, 0, 0) := by decide +kernel
theorem k181_49 : mj_look (mj_prog 181) 49 = some (.iconst 1, 1, 0, 0) := by decide +kernel
theorem k181_50 : mj_look (mj_prog 181) 50 = some (.invokevirtual 173, 3, 183, 3) := by decide +kernel
theorem k181_53 : mj_look (mj_prog 181) 53 = some (.lstore 5, 2, 0, 0) := by decide +kernel
theorem k181_55 : mj_look (mj_prog 181) 55 = some (.bipush 6, 2, 0, 0) := by decide +kernel
theorem k181_57 : mj_look (mj_prog 181) 57 = some (.istore 7, 2, 0, 0) := by decide +kernel
theorem k181_59 : mj_look (mj_prog 181) 59 = some (.iload 7, 2, 0, 0) := by decide +kernel
theorem k181_61 : mj_look (mj_prog 181) 61 = some (.bipush 96, 2, 0, 0) := by decide +kernel
theorem k181_63 : mj_look (mj_prog 181) 63 = some (.if_icmp .gt 53, 3, 116, 0) := by decide +kernel
theorem k181_66 : mj_look (mj_prog 181) 66 = some (.aload_n 0, 1, 0, 0) := by decide +kernel
theorem k181_67 : mj_look (mj_prog 181) 67 = some (.iload_n 1, 1, 0, 0) := by decide +kernel
theorem k181_68 : mj_look (mj_prog 181) 68 = some (.iload_n 2, 1, 0, 0) := by decide +kernel
theorem k181_69 : mj_look (mj_prog 181) 69 = some (.iload 7, 2, 0, 0) := by decide +kernel
theorem k181_71 : mj_look (mj_prog 181) 71 = some (.invokevirtual 173, 3, 183, 3) := by decide +kernel
theorem k181_74 : mj_look (mj_prog 181) 74 = some (.lstore 8, 2, 0, 0) := by decide +kernel
theorem k181_76 : mj_look (mj_prog 181) 76 = some (.lload 8, 2, 0, 0) := by decide +kernel
theorem k181_78 : mj_look (mj_prog 181) 78 = some (.lload 5, 2, 0, 0) := by decide +kernel
theorem k181_80 : mj_look (mj_prog 181) 80 = some (.lcmp, 1, 0, 0) := by decide +kernel
theorem k181_81 : mj_look (mj_prog 181) 81 = some (.ifCond .ge 8, 3, 89, 0) := by decide +kernel
theorem k181_84 : mj_look (mj_prog 181) 84 = some (.iload 7, 2, 0, 0) := by decide +kernel
theorem k181_86 : mj_look (mj_prog 181) 86 = some (.goto 5, 3, 91, 0) := by decide +kernel
theorem k181_89 : mj_look (mj_prog 181) 89 = some (.iload 4, 2, 0, 0) := by decide +kernel
theorem k181_91 : mj_look (mj_prog 181) 91 = some (.istore 4, 2, 0, 0) := by decide +kernel
theorem k181_93 : mj_look (mj_prog 181) 93 = some (.lload 8, 2, 0, 0) := by decide +kernel
theorem k181_95 : mj_look (mj_prog 181) 95 = some (.lload 5, 2, 0, 0) := by decide +kernel
theorem k181_97 : mj_look (mj_prog 181) 97 = some (.lcmp, 1, 0, 0) := by decide +kernel
theorem k181_98 : mj_look (mj_prog 181) 98 = some (.ifCond .ge 8, 3, 106, 0) := by decide +kernel
theorem k181_101 : mj_look (mj_prog 181) 101 = some (.lload 8, 2, 0, 0) := by decide +kernel
theorem k181_103 : mj_look (mj_prog 181) 103 = some (.goto 5, 3, 108, 0) := by decide +kernel
theorem k181_106 : mj_look (mj_prog 181) 106 = some (.lload 5, 2, 0, 0) := by decide +kernel
theorem k181_108 : mj_look (mj_prog 181) 108 = some (.lstore 5, 2, 0, 0) := by decide +kernel
theorem k181_110 : mj_look (mj_prog 181) 110 = some (.iinc 7 5, 3, 0, 0) := by decide +kernel
theorem k181_113 : mj_look (mj_prog 181) 113 = some (.goto (-54), 3, 59, 0) := by decide +kernel
theorem k181_116 : mj_look (mj_prog 181) 116 = some (.iload_n 3, 1, 0, 0) := by decide +kernel
theorem k181_117 : mj_look (mj_prog 181) 117 = some (.ifCond .ne 8, 3, 125, 0) := by decide +kernel
theorem k181_120 : mj_look (mj_prog 181) 120 = some (.iload 4, 2, 0, 0) := by decide +kernel
theorem k181_122 : mj_look (mj_prog 181) 122 = some (.goto 6, 3, 128, 0) := by decide +kernel
theorem k181_125 : mj_look (mj_prog 181) 125 = some (.lload 5, 2, 0, 0) := by decide +kernel
theorem k181_127 : mj_look (mj_prog 181) 127 = some (.l2i, 1, 0, 0) := by decide +kernel
theorem k181_128 : mj_look (mj_prog 181) 128 = some (.ireturn, 1, 0, 0) := by decide +kernel
theorem mx_182 : (mj_m 182).2.2.1 = 1 := by decide +kernel
theorem rt_182 : (mj_m 182).2.2.2.1 = (some FieldType.boolean) := by decide +kernel
theorem dp_182 : mj_disp 182 12 = some 182 := by decide +kernel
theorem pq_182 : mj_prog 182 = mj_p182 := rfl
theorem k182_0 : mj_look (mj_prog 182) 0 = some (.iload_n 0, 1, 0, 0) := by decide +kernel
theorem k182_1 : mj_look (mj_prog 182) 1 = some (.iconst 0, 1, 0, 0) := by decide +kernel
theorem k182_2 : mj_look (mj_prog 182) 2 = some (.iconst 3, 1, 0, 0) := by decide +kernel
theorem k182_3 : mj_look (mj_prog 182) 3 = some (.invokestatic 79, 3, 134, 3) := by decide +kernel
theorem k182_6 : mj_look (mj_prog 182) 6 = some (.ireturn, 1, 0, 0) := by decide +kernel
theorem mx_183 : (mj_m 183).2.2.1 = 10 := by decide +kernel
theorem rt_183 : (mj_m 183).2.2.2.1 = (some FieldType.long) := by decide +kernel
theorem dp_183 : mj_disp 183 12 = some 183 := by decide +kernel
theorem pq_183 : mj_prog 183 = mj_p183 := rfl
theorem k183_0 : mj_look (mj_prog 183) 0 = some (.aload_n 0, 1, 0, 0) := by decide +kernel
theorem k183_1 : mj_look (mj_prog 183) 1 = some (.getfield 9, 3, 12, 0) := by decide +kernel
theorem k183_4 : mj_look (mj_prog 183) 4 = some (.bipush 53, 2, 0, 0) := by decide +kernel
theorem k183_6 : mj_look (mj_prog 183) 6 = some (.bipush 7, 2, 0, 0) := by decide +kernel
theorem k183_8 : mj_look (mj_prog 183) 8 = some (.iload_n 2, 1, 0, 0) := by decide +kernel
theorem k183_9 : mj_look (mj_prog 183) 9 = some (.imul, 1, 0, 0) := by decide +kernel
theorem k183_10 : mj_look (mj_prog 183) 10 = some (.iadd, 1, 0, 0) := by decide +kernel
theorem k183_11 : mj_look (mj_prog 183) 11 = some (.iconst 2, 1, 0, 0) := by decide +kernel
theorem k183_12 : mj_look (mj_prog 183) 12 = some (.iadd, 1, 0, 0) := by decide +kernel
theorem k183_13 : mj_look (mj_prog 183) 13 = some (.iload_n 3, 1, 0, 0) := by decide +kernel
theorem k183_14 : mj_look (mj_prog 183) 14 = some (.iastore, 1, 0, 0) := by decide +kernel
theorem k183_15 : mj_look (mj_prog 183) 15 = some (.lconst 0, 1, 0, 0) := by decide +kernel
theorem k183_16 : mj_look (mj_prog 183) 16 = some (.lstore 4, 2, 0, 0) := by decide +kernel
theorem k183_18 : mj_look (mj_prog 183) 18 = some (.iconst 0, 1, 0, 0) := by decide +kernel
theorem k183_19 : mj_look (mj_prog 183) 19 = some (.istore 6, 2, 0, 0) := by decide +kernel
theorem k183_21 : mj_look (mj_prog 183) 21 = some (.iload 6, 2, 0, 0) := by decide +kernel
theorem k183_23 : mj_look (mj_prog 183) 23 = some (.aload_n 0, 1, 0, 0) := by decide +kernel
theorem k183_24 : mj_look (mj_prog 183) 24 = some (.getfield 55, 3, 12, 25) := by decide +kernel
theorem k183_27 : mj_look (mj_prog 183) 27 = some (.iload_n 1, 1, 0, 0) := by decide +kernel
theorem k183_28 : mj_look (mj_prog 183) 28 = some (.iaload, 1, 0, 0) := by decide +kernel
theorem k183_29 : mj_look (mj_prog 183) 29 = some (.if_icmp .ge 71, 3, 100, 0) := by decide +kernel
theorem k183_32 : mj_look (mj_prog 183) 32 = some (.aload_n 0, 1, 0, 0) := by decide +kernel
theorem k183_33 : mj_look (mj_prog 183) 33 = some (.getfield 58, 3, 12, 26) := by decide +kernel
theorem k183_36 : mj_look (mj_prog 183) 36 = some (.bipush 24, 2, 0, 0) := by decide +kernel
theorem k183_38 : mj_look (mj_prog 183) 38 = some (.iload_n 1, 1, 0, 0) := by decide +kernel
theorem k183_39 : mj_look (mj_prog 183) 39 = some (.imul, 1, 0, 0) := by decide +kernel
theorem k183_40 : mj_look (mj_prog 183) 40 = some (.iload 6, 2, 0, 0) := by decide +kernel
theorem k183_42 : mj_look (mj_prog 183) 42 = some (.iadd, 1, 0, 0) := by decide +kernel
theorem k183_43 : mj_look (mj_prog 183) 43 = some (.iaload, 1, 0, 0) := by decide +kernel
theorem k183_44 : mj_look (mj_prog 183) 44 = some (.istore 7, 2, 0, 0) := by decide +kernel
theorem k183_46 : mj_look (mj_prog 183) 46 = some (.iload 7, 2, 0, 0) := by decide +kernel
theorem k183_48 : mj_look (mj_prog 183) 48 = some (.i2l, 1, 0, 0) := by decide +kernel
theorem k183_49 : mj_look (mj_prog 183) 49 = some (.aload_n 0, 1, 0, 0) := by decide +kernel
theorem k183_50 : mj_look (mj_prog 183) 50 = some (.iload_n 2, 1, 0, 0) := by decide +kernel
theorem k183_51 : mj_look (mj_prog 183) 51 = some (.iconst 1, 1, 0, 0) := by decide +kernel
theorem k183_52 : mj_look (mj_prog 183) 52 = some (.invokevirtual 93, 3, 141, 2) := by decide +kernel
theorem k183_55 : mj_look (mj_prog 183) 55 = some (.i2l, 1, 0, 0) := by decide +kernel
theorem k183_56 : mj_look (mj_prog 183) 56 = some (.lsub, 1, 0, 0) := by decide +kernel
theorem k183_57 : mj_look (mj_prog 183) 57 = some (.lstore 8, 2, 0, 0) := by decide +kernel
theorem k183_59 : mj_look (mj_prog 183) 59 = some (.lload 4, 2, 0, 0) := by decide +kernel
theorem k183_61 : mj_look (mj_prog 183) 61 = some (.iload 7, 2, 0, 0) := by decide +kernel
theorem k183_63 : mj_look (mj_prog 183) 63 = some (.ldc 165, 2, 3294967291, 0) := by decide +kernel
theorem k183_65 : mj_look (mj_prog 183) 65 = some (.if_icmp .ne 7, 3, 72, 0) := by decide +kernel
theorem k183_68 : mj_look (mj_prog 183) 68 = some (.lconst 0, 1, 0, 0) := by decide +kernel
theorem k183_69 : mj_look (mj_prog 183) 69 = some (.goto 18, 3, 87, 0) := by decide +kernel
theorem k183_72 : mj_look (mj_prog 183) 72 = some (.lload 8, 2, 0, 0) := by decide +kernel
theorem k183_74 : mj_look (mj_prog 183) 74 = some (.lconst 0, 1, 0, 0) := by decide +kernel
theorem k183_75 : mj_look (mj_prog 183) 75 = some (.lcmp, 1, 0, 0) := by decide +kernel
theorem k183_76 : mj_look (mj_prog 183) 76 = some (.ifCond .ge 9, 3, 85, 0) := by decide +kernel
theorem k183_79 : mj_look (mj_prog 183) 79 = some (.lload 8, 2, 0, 0) := by decide +kernel
theorem k183_81 : mj_look (mj_prog 183) 81 = some (.lneg, 1, 0, 0) := by decide +kernel
theorem k183_82 : mj_look (mj_prog 183) 82 = some (.goto 5, 3, 87, 0) := by decide +kernel
theorem k183_85 : mj_look (mj_prog 183) 85 = some (.lload 8, 2, 0, 0) := by decide +kernel
theorem k183_87 : mj_look (mj_prog 183) 87 = some (.ladd, 1, 0, 0) := by decide +kernel
theorem k183_88 : mj_look (mj_prog 183) 88 = some (.lstore 4, 2, 0, 0) := by decide +kernel
theorem k183_90 : mj_look (mj_prog 183) 90 = some (.aload_n 0, 1, 0, 0) := by decide +kernel
theorem k183_91 : mj_look (mj_prog 183) 91 = some (.invokevirtual 147, 3, 163, 0) := by decide +kernel
theorem k183_94 : mj_look (mj_prog 183) 94 = some (.iinc 6 1, 3, 0, 0) := by decide +kernel
theorem k183_97 : mj_look (mj_prog 183) 97 = some (.goto (-76), 3, 21, 0) := by decide +kernel
theorem k183_100 : mj_look (mj_prog 183) 100 = some (.aload_n 0, 1, 0, 0) := by decide +kernel
theorem k183_101 : mj_look (mj_prog 183) 101 = some (.invokevirtual 162, 3, 172, 0) := by decide +kernel
theorem k183_104 : mj_look (mj_prog 183) 104 = some (.lload 4, 2, 0, 0) := by decide +kernel
theorem k183_106 : mj_look (mj_prog 183) 106 = some (.lreturn, 1, 0, 0) := by decide +kernel
theorem mx_184 : (mj_m 184).2.2.1 = 2 := by decide +kernel
theorem rt_184 : (mj_m 184).2.2.2.1 = (some FieldType.int) := by decide +kernel
theorem dp_184 : mj_disp 184 12 = some 184 := by decide +kernel
theorem pq_184 : mj_prog 184 = mj_p184 := rfl
theorem k184_0 : mj_look (mj_prog 184) 0 = some (.aload_n 0, 1, 0, 0) := by decide +kernel
theorem k184_1 : mj_look (mj_prog 184) 1 = some (.iconst 1, 1, 0, 0) := by decide +kernel
theorem k184_2 : mj_look (mj_prog 184) 2 = some (.invokevirtual 89, 3, 140, 1) := by decide +kernel
theorem k184_5 : mj_look (mj_prog 184) 5 = some (.istore_n 1, 1, 0, 0) := by decide +kernel
theorem k184_6 : mj_look (mj_prog 184) 6 = some (.aload_n 0, 1, 0, 0) := by decide +kernel
theorem k184_7 : mj_look (mj_prog 184) 7 = some (.getfield 49, 3, 12, 23) := by decide +kernel
theorem k184_10 : mj_look (mj_prog 184) 10 = some (.iconst 0, 1, 0, 0) := by decide +kernel
theorem k184_11 : mj_look (mj_prog 184) 11 = some (.aload_n 0, 1, 0, 0) := by decide +kernel
theorem k184_12 : mj_look (mj_prog 184) 12 = some (.iconst 3, 1, 0, 0) := by decide +kernel
theorem k184_13 : mj_look (mj_prog 184) 13 = some (.invokevirtual 150, 3, 161, 1) := by decide +kernel
theorem k184_16 : mj_look (mj_prog 184) 16 = some (.iastore, 1, 0, 0) := by decide +kernel
theorem k184_17 : mj_look (mj_prog 184) 17 = some (.aload_n 0, 1, 0, 0) := by decide +kernel
theorem k184_18 : mj_look (mj_prog 184) 18 = some (.getfield 49, 3, 12, 23) := by decide +kernel
theorem k184_21 : mj_look (mj_prog 184) 21 = some (.iconst 1, 1, 0, 0) := by decide +kernel
theorem k184_22 : mj_look (mj_prog 184) 22 = some (.aload_n 0, 1, 0, 0) := by decide +kernel
theorem k184_23 : mj_look (mj_prog 184) 23 = some (.getfield 9, 3, 12, 0) := by decide +kernel
theorem k184_26 : mj_look (mj_prog 184) 26 = some (.iconst 2, 1, 0, 0) := by decide +kernel
theorem k184_27 : mj_look (mj_prog 184) 27 = some (.iaload, 1, 0, 0) := by decide +kernel
theorem k184_28 : mj_look (mj_prog 184) 28 = some (.iastore, 1, 0, 0) := by decide +kernel
theorem k184_29 : mj_look (mj_prog 184) 29 = some (.iload_n 1, 1, 0, 0) := by decide +kernel
theorem k184_30 : mj_look (mj_prog 184) 30 = some (.ifCond .ge 11, 3, 41, 0) := by decide +kernel
theorem k184_33 : mj_look (mj_prog 184) 33 = some (.aload_n 0, 1, 0, 0) := by decide +kernel
theorem k184_34 : mj_look (mj_prog 184) 34 = some (.iconst 3, 1, 0, 0) := by decide +kernel
theorem k184_35 : mj_look (mj_prog 184) 35 = some (.invokevirtual 150, 3, 161, 1) := by decide +kernel
theorem k184_38 : mj_look (mj_prog 184) 38 = some (.goto 8, 3, 46, 0) := by decide +kernel
theorem k184_41 : mj_look (mj_prog 184) 41 = some (.aload_n 0, 1, 0, 0) := by decide +kernel
theorem k184_42 : mj_look (mj_prog 184) 42 = some (.iload_n 1, 1, 0, 0) := by decide +kernel
theorem k184_43 : mj_look (mj_prog 184) 43 = some (.invokevirtual 97, 3, 142, 1) := by decide +kernel
theorem k184_46 : mj_look (mj_prog 184) 46 = some (.ireturn, 1, 0, 0) := by decide +kernel
theorem mx_185 : (mj_m 185).2.2.1 = 3 := by decide +kernel
theorem rt_185 : (mj_m 185).2.2.2.1 = (some FieldType.int) := by decide +kernel
theorem dp_185 : mj_disp 185 12 = some 185 := by decide +kernel
theorem pq_185 : mj_prog 185 = mj_p185 := rfl
theorem k185_0 : mj_look (mj_prog 185) 0 = some (.aload_n 0, 1, 0, 0) := by decide +kernel
theorem k185_1 : mj_look (mj_prog 185) 1 = some (.iload_n 1, 1, 0, 0) := by decide +kernel
theorem k185_2 : mj_look (mj_prog 185) 2 = some (.invokevirtual 103, 3, 137, 1) := by decide +kernel
theorem k185_5 : mj_look (mj_prog 185) 5 = some (.ifCond .ne 6, 3, 11, 0) := by decide +kernel
theorem k185_8 : mj_look (mj_prog 185) 8 = some (.ldc 83, 2, 3294967295, 0) := by decide +kernel
theorem k185_10 : mj_look (mj_prog 185) 10 = some (.ireturn, 1, 0, 0) := by decide +kernel
theorem k185_11 : mj_look (mj_prog 185) 11 = some (.aload_n 0, 1, 0, 0) := by decide +kernel
theorem k185_12 : mj_look (mj_prog 185) 12 = some (.iconst 2, 1, 0, 0) := by decide +kernel
theorem k185_13 : mj_look (mj_prog 185) 13 = some (.invokevirtual 89, 3, 140, 1) := by decide +kernel
theorem k185_16 : mj_look (mj_prog 185) 16 = some (.istore_n 2, 1, 0, 0) := by decide +kernel
theorem k185_17 : mj_look (mj_prog 185) 17 = some (.aload_n 0, 1, 0, 0) := by decide +kernel
theorem k185_18 : mj_look (mj_prog 185) 18 = some (.getfield 49, 3, 12, 23) := by decide +kernel
theorem k185_21 : mj_look (mj_prog 185) 21 = some (.iconst 0, 1, 0, 0) := by decide +kernel
theorem k185_22 : mj_look (mj_prog 185) 22 = some (.aload_n 0, 1, 0, 0) := by decide +kernel
theorem k185_23 : mj_look (mj_prog 185) 23 = some (.iload_n 1, 1, 0, 0) := by decide +kernel
theorem k185_24 : mj_look (mj_prog 185) 24 = some (.iconst 1, 1, 0, 0) := by decide +kernel
theorem k185_25 : mj_look (mj_prog 185) 25 = some (.invokevirtual 93, 3, 141, 2) := by decide +kernel
theorem k185_28 : mj_look (mj_prog 185) 28 = some (.iastore, 1, 0, 0) := by decide +kernel
theorem k185_29 : mj_look (mj_prog 185) 29 = some (.aload_n 0, 1, 0, 0) := by decide +kernel
theorem k185_30 : mj_look (mj_prog 185) 30 = some (.getfield 49, 3, 12, 23) := by decide +kernel
theorem k185_33 : mj_look (mj_prog 185) 33 = some (.iconst 1, 1, 0, 0) := by decide +kernel
theorem k185_34 : mj_look (mj_prog 185) 34 = some (.aload_n 0, 1, 0, 0) := by decide +kernel
theorem k185_35 : mj_look (mj_prog 185) 35 = some (.iload_n 1, 1, 0, 0) := by decide +kernel
theorem k185_36 : mj_look (mj_prog 185) 36 = some (.iconst 4, 1, 0, 0) := by decide +kernel
theorem k185_37 : mj_look (mj_prog 185) 37 = some (.invokevirtual 93, 3, 141, 2) := by decide +kernel
theorem k185_40 : mj_look (mj_prog 185) 40 = some (.iastore, 1, 0, 0) := by decide +kernel
theorem k185_41 : mj_look (mj_prog 185) 41 = some (.iload_n 2, 1, 0, 0) := by decide +kernel
theorem k185_42 : mj_look (mj_prog 185) 42 = some (.ifCond .ge 12, 3, 54, 0) := by decide +kernel
theorem k185_45 : mj_look (mj_prog 185) 45 = some (.aload_n 0, 1, 0, 0) := by decide +kernel
theorem k185_46 : mj_look (mj_prog 185) 46 = some (.iload_n 1, 1, 0, 0) := by decide +kernel
theorem k185_47 : mj_look (mj_prog 185) 47 = some (.iconst 4, 1, 0, 0) := by decide +kernel
theorem k185_48 : mj_look (mj_prog 185) 48 = some (.invokevirtual 93, 3, 141, 2) := by decide +kernel
theorem k185_51 : mj_look (mj_prog 185) 51 = some (.goto 8, 3, 59, 0) := by decide +kernel
theorem k185_54 : mj_look (mj_prog 185) 54 = some (.aload_n 0, 1, 0, 0) := by decide +kernel
theorem k185_55 : mj_look (mj_prog 185) 55 = some (.iload_n 2, 1, 0, 0) := by decide +kernel
theorem k185_56 : mj_look (mj_prog 185) 56 = some (.invokevirtual 97, 3, 142, 1) := by decide +kernel
theorem k185_59 : mj_look (mj_prog 185) 59 = some (.ireturn, 1, 0, 0) := by decide +kernel
theorem mx_186 : (mj_m 186).2.2.1 = 6 := by decide +kernel
theorem rt_186 : (mj_m 186).2.2.2.1 = (some FieldType.int) := by decide +kernel
theorem dp_186 : mj_disp 186 12 = some 186 := by decide +kernel
theorem pq_186 : mj_prog 186 = mj_p186 := rfl
theorem k186_0 : mj_look (mj_prog 186) 0 = some (.aload_n 0, 1, 0, 0) := by decide +kernel
theorem k186_1 : mj_look (mj_prog 186) 1 = some (.getfield 177, 3, 12, 7) := by decide +kernel
theorem k186_4 : mj_look (mj_prog 186) 4 = some (.bipush 12, 2, 0, 0) := by decide +kernel
theorem k186_6 : mj_look (mj_prog 186) 6 = some (.iadd, 1, 0, 0) := by decide +kernel
theorem k186_7 : mj_look (mj_prog 186) 7 = some (.bipush 96, 2, 0, 0) := by decide +kernel
theorem k186_9 : mj_look (mj_prog 186) 9 = some (.if_icmp .le 6, 3, 15, 0) := by decide +kernel
theorem k186_12 : mj_look (mj_prog 186) 12 = some (.ldc 84, 2, 3294967293, 0) := by decide +kernel
theorem k186_14 : mj_look (mj_prog 186) 14 = some (.ireturn, 1, 0, 0) := by decide +kernel
theorem k186_15 : mj_look (mj_prog 186) 15 = some (.iconst 0, 1, 0, 0) := by decide +kernel
theorem k186_16 : mj_look (mj_prog 186) 16 = some (.istore 4, 2, 0, 0) := by decide +kernel
theorem k186_18 : mj_look (mj_prog 186) 18 = some (.iload 4, 2, 0, 0) := by decide +kernel
theorem k186_20 : mj_look (mj_prog 186) 20 = some (.bipush 12, 2, 0, 0) := by decide +kernel
theorem k186_22 : mj_look (mj_prog 186) 22 = some (.if_icmp .ge 62, 3, 84, 0) := by decide +kernel
theorem k186_25 : mj_look (mj_prog 186) 25 = some (.iload 4, 2, 0, 0) := by decide +kernel
theorem k186_27 : mj_look (mj_prog 186) 27 = some (.iconst 4, 1, 0, 0) := by decide +kernel
theorem k186_28 : mj_look (mj_prog 186) 28 = some (.if_icmp .ge 7, 3, 35, 0) := by decide +kernel
theorem k186_31 : mj_look (mj_prog 186) 31 = some (.iload_n 1, 1, 0, 0) := by decide +kernel
theorem k186_32 : mj_look (mj_prog 186) 32 = some (.goto 15, 3, 47, 0) := by decide +kernel
theorem k186_35 : mj_look (mj_prog 186) 35 = some (.iload 4, 2, 0, 0) := by decide +kernel
theorem k186_37 : mj_look (mj_prog 186) 37 = some (.bipush 8, 2, 0, 0) := by decide +kernel
theorem k186_39 : mj_look (mj_prog 186) 39 = some (.if_icmp .ge 7, 3, 46, 0) := by decide +kernel
theorem k186_42 : mj_look (mj_prog 186) 42 = some (.iload_n 2, 1, 0, 0) := by decide +kernel
theorem k186_43 : mj_look (mj_prog 186) 43 = some (.goto 4, 3, 47, 0) := by decide +kernel
theorem k186_46 : mj_look (mj_prog 186) 46 = some (.iload_n 3, 1, 0, 0) := by decide +kernel
theorem k186_47 : mj_look (mj_prog 186) 47 = some (.istore 5, 2, 0, 0) := by decide +kernel
theorem k186_49 : mj_look (mj_prog 186) 49 = some (.aload_n 0, 1, 0, 0) := by decide +kernel
theorem k186_50 : mj_look (mj_prog 186) 50 = some (.getfield 26, 3, 12, 6) := by decide +kernel
theorem k186_53 : mj_look (mj_prog 186) 53 = some (.aload_n 0, 1, 0, 0) := by decide +kernel
theorem k186_54 : mj_look (mj_prog 186) 54 = some (.getfield 177, 3, 12, 7) := by decide +kernel
theorem k186_57 : mj_look (mj_prog 186) 57 = some (.iload 4, 2, 0, 0) := by decide +kernel
theorem k186_59 : mj_look (mj_prog 186) 59 = some (.iadd, 1, 0, 0) := by decide +kernel
theorem k186_60 : mj_look (mj_prog 186) 60 = some (.iload 5, 2, 0, 0) := by decide +kernel
theorem k186_62 : mj_look (mj_prog 186) 62 = some (.bipush 24, 2, 0, 0) := by decide +kernel
theorem k186_64 : mj_look (mj_prog 186) 64 = some (.bipush 8, 2, 0, 0) := by decide +kernel
theorem k186_66 : mj_look (mj_prog 186) 66 = some (.iload 4, 2, 0, 0) := by decide +kernel
theorem k186_68 : mj_look (mj_prog 186) 68 = some (.iconst 4, 1, 0, 0) := by decide +kernel
theorem k186_69 : mj_look (mj_prog 186) 69 = some (.irem, 1, 0, 0) := by decide +kernel
theorem k186_70 : mj_look (mj_prog 186) 70 = some (.imul, 1, 0, 0) := by decide +kernel
theorem k186_71 : mj_look (mj_prog 186) 71 = some (.isub, 1, 0, 0) := by decide +kernel
theorem k186_72 : mj_look (mj_prog 186) 72 = some (.ishr, 1, 0, 0) := by decide +kernel
theorem k186_73 : mj_look (mj_prog 186) 73 = some (.sipush 255, 3, 0, 0) := by decide +kernel
theorem k186_76 : mj_look (mj_prog 186) 76 = some (.iand, 1, 0, 0) := by decide +kernel
theorem k186_77 : mj_look (mj_prog 186) 77 = some (.iastore, 1, 0, 0) := by decide +kernel
theorem k186_78 : mj_look (mj_prog 186) 78 = some (.iinc 4 1, 3, 0, 0) := by decide +kernel
theorem k186_81 : mj_look (mj_prog 186) 81 = some (.goto (-63), 3, 18, 0) := by decide +kernel
theorem k186_84 : mj_look (mj_prog 186) 84 = some (.aload_n 0, 1, 0, 0) := by decide +kernel
theorem k186_85 : mj_look (mj_prog 186) 85 = some (.dup, 1, 0, 0) := by decide +kernel
theorem k186_86 : mj_look (mj_prog 186) 86 = some (.getfield 177, 3, 12, 7) := by decide +kernel
theorem k186_89 : mj_look (mj_prog 186) 89 = some (.bipush 12, 2, 0, 0) := by decide +kernel
theorem k186_91 : mj_look (mj_prog 186) 91 = some (.iadd, 1, 0, 0) := by decide +kernel
theorem k186_92 : mj_look (mj_prog 186) 92 = some (.putfield 177, 3, 12, 7) := by decide +kernel
theorem k186_95 : mj_look (mj_prog 186) 95 = some (.aload_n 0, 1, 0, 0) := by decide +kernel
theorem k186_96 : mj_look (mj_prog 186) 96 = some (.getfield 177, 3, 12, 7) := by decide +kernel
theorem k186_99 : mj_look (mj_prog 186) 99 = some (.ireturn, 1, 0, 0) := by decide +kernel
theorem mx_187 : (mj_m 187).2.2.1 = 2 := by decide +kernel
theorem rt_187 : (mj_m 187).2.2.2.1 = (some FieldType.int) := by decide +kernel
theorem dp_187 : mj_disp 187 12 = some 187 := by decide +kernel
theorem pq_187 : mj_prog 187 = mj_p187 := rfl
theorem k187_0 : mj_look (mj_prog 187) 0 = some (.iload_n 1, 1, 0, 0) := by decide +kernel
theorem k187_1 : mj_look (mj_prog 187) 1 = some (.iconst 0, 1, 0, 0) := by decide +kernel
theorem k187_2 : mj_look (mj_prog 187) 2 = some (.aload_n 0, 1, 0, 0) := by decide +kernel
theorem k187_3 : mj_look (mj_prog 187) 3 = some (.getfield 177, 3, 12, 7) := by decide +kernel
theorem k187_6 : mj_look (mj_prog 187) 6 = some (.invokestatic 79, 3, 134, 3) := by decide +kernel
theorem k187_9 : mj_look (mj_prog 187) 9 = some (.ifCond .ne 6, 3, 15, 0) := by decide +kernel
theorem k187_12 : mj_look (mj_prog 187) 12 = some (.ldc 83, 2, 3294967295, 0) := by decide +kernel
theorem k187_14 : mj_look (mj_prog 187) 14 = some (.ireturn, 1, 0, 0) := by decide +kernel
theorem k187_15 : mj_look (mj_prog 187) 15 = some (.aload_n 0, 1, 0, 0) := by decide +kernel
theorem k187_16 : mj_look (mj_prog 187) 16 = some (.iload_n 1, 1, 0, 0) := by decide +kernel
theorem k187_17 : mj_look (mj_prog 187) 17 = some (.putfield 177, 3, 12, 7) := by decide +kernel
theorem k187_20 : mj_look (mj_prog 187) 20 = some (.iload_n 1, 1, 0, 0) := by decide +kernel
theorem k187_21 : mj_look (mj_prog 187) 21 = some (.ireturn, 1, 0, 0) := by decide +kernel
theorem mx_188 : (mj_m 188).2.2.1 = 4 := by decide +kernel
theorem rt_188 : (mj_m 188).2.2.2.1 = (some FieldType.int) := by decide +kernel
theorem dp_188 : mj_disp 188 12 = some 188 := by decide +kernel
theorem pq_188 : mj_prog 188 = mj_p188 := rfl
theorem k188_0 : mj_look (mj_prog 188) 0 = some (.aload_n 0, 1, 0, 0) := by decide +kernel
theorem k188_1 : mj_look (mj_prog 188) 1 = some (.iconst 0, 1, 0, 0) := by decide +kernel
theorem k188_2 : mj_look (mj_prog 188) 2 = some (.putfield 180, 3, 12, 8) := by decide +kernel
theorem k188_5 : mj_look (mj_prog 188) 5 = some (.aload_n 0, 1, 0, 0) := by decide +kernel
theorem k188_6 : mj_look (mj_prog 188) 6 = some (.iconst (-1), 1, 0, 0) := by decide +kernel
theorem k188_7 : mj_look (mj_prog 188) 7 = some (.putfield 186, 3, 12, 12) := by decide +kernel
theorem k188_10 : mj_look (mj_prog 188) 10 = some (.aload_n 0, 1, 0, 0) := by decide +kernel
theorem k188_11 : mj_look (mj_prog 188) 11 = some (.invokevirtual 204, 3, 189, 0) := by decide +kernel
theorem k188_14 : mj_look (mj_prog 188) 14 = some (.aload_n 0, 1, 0, 0) := by decide +kernel
theorem k188_15 : mj_look (mj_prog 188) 15 = some (.invokevirtual 235, 3, 192, 0) := by decide +kernel
theorem k188_18 : mj_look (mj_prog 188) 18 = some (.ifCond .eq 14, 3, 32, 0) := by decide +kernel
theorem k188_21 : mj_look (mj_prog 188) 21 = some (.aload_n 0, 1, 0, 0) := by decide +kernel
theorem k188_22 : mj_look (mj_prog 188) 22 = some (.invokevirtual 238, 3, 193, 0) := by decide +kernel
theorem k188_25 : mj_look (mj_prog 188) 25 = some (.ifCond .eq 7, 3, 32, 0) := by decide +kernel
theorem k188_28 : mj_look (mj_prog 188) 28 = some (.iconst 1, 1, 0, 0) := by decide +kernel
theorem k188_29 : mj_look (mj_prog 188) 29 = some (.goto 4, 3, 33, 0) := by decide +kernel
theorem k188_32 : mj_look (mj_prog 188) 32 = some (.iconst 0, 1, 0, 0) := by decide +kernel
theorem k188_33 : mj_look (mj_prog 188) 33 = some (.istore_n 1, 1, 0, 0) := by decide +kernel
theorem k188_34 : mj_look (mj_prog 188) 34 = some (.aload_n 0, 1, 0, 0) := by decide +kernel
theorem k188_35 : mj_look (mj_prog 188) 35 = some (.iconst 0, 1, 0, 0) := by decide +kernel
theorem k188_36 : mj_look (mj_prog 188) 36 = some (.putfield 177, 3, 12, 7) := by decide +kernel
theorem k188_39 : mj_look (mj_prog 188) 39 = some (.iload_n 1, 1, 0, 0) := by decide +kernel
theorem k188_40 : mj_look (mj_prog 188) 40 = some (.ifCond .ne 11, 3, 51, 0) := by decide +kernel
theorem k188_43 : mj_look (mj_prog 188) 43 = some (.bipush (-100), 2, 0, 0) := by decide +kernel
theorem k188_45 : mj_look (mj_prog 188) 45 = some (.aload_n 0, 1, 0, 0) := by decide +kernel
theorem k188_46 : mj_look (mj_prog 188) 46 = some (.getfield 183, 3, 12, 9) := by decide +kernel
theorem k188_49 : mj_look (mj_prog 188) 49 = some (.isub, 1, 0, 0) := by decide +kernel
theorem k188_50 : mj_look (mj_prog 188) 50 = some (.ireturn, 1, 0, 0) := by decide +kernel
theorem k188_51 : mj_look (mj_prog 188) 51 = some (.aload_n 0, 1, 0, 0) := by decide +kernel
theorem k188_52 : mj_look (mj_prog 188) 52 = some (.getfield 9, 3, 12, 0) := by decide +kernel
theorem k188_55 : mj_look (mj_prog 188) 55 = some (.iconst 4, 1, 0, 0) := by decide +kernel
theorem k188_56 : mj_look (mj_prog 188) 56 = some (.iaload, 1, 0, 0) := by decide +kernel
theorem k188_57 : mj_look (mj_prog 188) 57 = some (.bipush 14, 2, 0, 0) := by decide +kernel
theorem k188_59 : mj_look (mj_prog 188) 59 = some (.if_icmp .ne 6, 3, 65, 0) := by decide +kernel
theorem k188_62 : mj_look (mj_prog 188) 62 = some (.ldc 84, 2, 3294967293, 0) := by decide +kernel
theorem k188_64 : mj_look (mj_prog 188) 64 = some (.ireturn, 1, 0, 0) := by decide +kernel
theorem k188_65 : mj_look (mj_prog 188) 65 = some (.aload_n 0, 1, 0, 0) := by decide +kernel
theorem k188_66 : mj_look (mj_prog 188) 66 = some (.getfield 9, 3, 12, 0) := by decide +kernel
theorem k188_69 : mj_look (mj_prog 188) 69 = some (.iconst 4, 1, 0, 0) := by decide +kernel
theorem k188_70 : mj_look (mj_prog 188) 70 = some (.iaload, 1, 0, 0) := by decide +kernel
theorem k188_71 : mj_look (mj_prog 188) 71 = some (.istore_n 2, 1, 0, 0) := by decide +kernel
theorem k188_72 : mj_look (mj_prog 188) 72 = some (.aload_n 0, 1, 0, 0) := by decide +kernel
theorem k188_73 : mj_look (mj_prog 188) 73 = some (.getfield 9, 3, 12, 0) := by decide +kernel
theorem k188_76 : mj_look (mj_prog 188) 76 = some (.bipush 109, 2, 0, 0) := by decide +kernel
theorem k188_78 : mj_look (mj_prog 188) 78 = some (.iconst 2, 1, 0, 0) := by decide +kernel
theorem k188_79 : mj_look (mj_prog 188) 79 = some (.iload_n 2, 1, 0, 0) := by decide +kernel
theorem k188_80 : mj_look (mj_prog 188) 80 = some (.imul, 1, 0, 0) := by decide +kernel
theorem k188_81 : mj_look (mj_prog 188) 81 = some (.iadd, 1, 0, 0) := by decide +kernel
theorem k188_82 : mj_look (mj_prog 188) 82 = some (.sipush 1000, 3, 0, 0) := by decide +kernel
theorem k188_85 : mj_look (mj_prog 188) 85 = some (.aload_n 0, 1, 0, 0) := by decide +kernel
theorem k188_86 : mj_look (mj_prog 188) 86 = some (.getfield 201, 3, 12, 13) := by decide +kernel
theorem k188_89 : mj_look (mj_prog 188) 89 = some (.imul, 1, 0, 0) := by decide +kernel
theorem k188_90 : mj_look (mj_prog 188) 90 = some (.aload_n 0, 1, 0, 0) := by decide +kernel
theorem k188_91 : mj_look (mj_prog 188) 91 = some (.getfield 213, 3, 12, 17) := by decide +kernel
theorem k188_94 : mj_look (mj_prog 188) 94 = some (.iadd, 1, 0, 0) := by decide +kernel
theorem k188_95 : mj_look (mj_prog 188) 95 = some (.iastore, 1, 0, 0) := by decide +kernel
theorem k188_96 : mj_look (mj_prog 188) 96 = some (.aload_n 0, 1, 0, 0) := by decide +kernel
theorem k188_97 : mj_look (mj_prog 188) 97 = some (.getfield 9, 3, 12, 0) := by decide +kernel
theorem k188_100 : mj_look (mj_prog 188) 100 = some (.bipush 109, 2, 0, 0) := by decide +kernel
theorem k188_102 : mj_look (mj_prog 188) 102 = some (.iconst 2, 1, 0, 0) := by decide +kernel
theorem k188_103 : mj_look (mj_prog 188) 103 = some (.iload_n 2, 1, 0, 0) := by decide +kernel
theorem k188_104 : mj_look (mj_prog 188) 104 = some (.imul, 1, 0, 0) := by decide +kernel
theorem k188_105 : mj_look (mj_prog 188) 105 = some (.iadd, 1, 0, 0) := by decide +kernel
theorem k188_106 : mj_look (mj_prog 188) 106 = some (.iconst 1, 1, 0, 0) := by decide +kernel
theorem k188_107 : mj_look (mj_prog 188) 107 = some (.iadd, 1, 0, 0) := by decide +kernel
theorem k188_108 : mj_look (mj_prog 188) 108 = some (.aload_n 0, 1, 0, 0) := by decide +kernel
theorem k188_109 : mj_look (mj_prog 188) 109 = some (.getfield 219, 3, 12, 18) := by decide +kernel
theorem k188_112 : mj_look (mj_prog 188) 112 = some (.iastore, 1, 0, 0) := by decide +kernel
theorem k188_113 : mj_look (mj_prog 188) 113 = some (.iconst 0, 1, 0, 0) := by decide +kernel
theorem k188_114 : mj_look (mj_prog 188) 114 = some (.istore_n 3, 1, 0, 0) := by decide +kernel
theorem k188_115 : mj_look (mj_prog 188) 115 = some (.iload_n 3, 1, 0, 0) := by decide +kernel
theorem k188_116 : mj_look (mj_prog 188) 116 = some (.aload_n 0, 1, 0, 0) := by decide +kernel
theorem k188_117 : mj_look (mj_prog 188) 117 = some (.getfield 213, 3, 12, 17) := by decide +kernel
theorem k188_120 : mj_look (mj_prog 188) 120 = some (.if_icmp .ge 30, 3, 150, 0) := by decide +kernel
theorem k188_123 : mj_look (mj_prog 188) 123 = some (.aload_n 0, 1, 0, 0) := by decide +kernel
theorem k188_124 : mj_look (mj_prog 188) 124 = some (.getfield 9, 3, 12, 0) := by decide +kernel
theorem k188_127 : mj_look (mj_prog 188) 127 = some (.sipush 137, 3, 0, 0) := by decide +kernel
theorem k188_130 : mj_look (mj_prog 188) 130 = some (.bipush 96, 2, 0, 0) := by decide +kernel
theorem k188_132 : mj_look (mj_prog 188) 132 = some (.iload_n 2, 1, 0, 0) := by decide +kernel
theorem k188_133 : mj_look (mj_prog 188) 133 = some (.imul, 1, 0, 0) := by decide +kernel
theorem k188_134 : mj_look (mj_prog 188) 134 = some (.iadd, 1, 0, 0) := by decide +kernel
theorem k188_135 : mj_look (mj_prog 188) 135 = some (.iload_n 3, 1, 0, 0) := by decide +kernel
theorem k188_136 : mj_look (mj_prog 188) 136 = some (.iadd, 1, 0, 0) := by decide +kernel
theorem k188_137 : mj_look (mj_prog 188) 137 = some (.aload_n 0, 1, 0, 0) := by decide +kernel
theorem k188_138 : mj_look (mj_prog 188) 138 = some (.getfield 36, 3, 12, 16) := by decide +kernel
theorem k188_141 : mj_look (mj_prog 188) 141 = some (.iload_n 3, 1, 0, 0) := by decide +kernel
theorem k188_142 : mj_look (mj_prog 188) 142 = some (.iaload, 1, 0, 0) := by decide +kernel
theorem k188_143 : mj_look (mj_prog 188) 143 = some (.iastore, 1, 0, 0) := by decide +kernel
theorem k188_144 : mj_look (mj_prog 188) 144 = some (.iinc 3 1, 3, 0, 0) := by decide +kernel
theorem k188_147 : mj_look (mj_prog 188) 147 = some (.goto (-32), 3, 115, 0) := by decide +kernel
theorem k188_150 : mj_look (mj_prog 188) 150 = some (.aload_n 0, 1, 0, 0) := by decide +kernel
theorem k188_151 : mj_look (mj_prog 188) 151 = some (.getfield 9, 3, 12, 0) := by decide +kernel
theorem k188_154 : mj_look (mj_prog 188) 154 = some (.iconst 4, 1, 0, 0) := by decide +kernel
theorem k188_155 : mj_look (mj_prog 188) 155 = some (.dup2, 1, 0, 0) := by decide +kernel
theorem k188_156 : mj_look (mj_prog 188) 156 = some (.iaload, 1, 0, 0) := by decide +kernel
theorem k188_157 : mj_look (mj_prog 188) 157 = some (.iconst 1, 1, 0, 0) := by decide +kernel
theorem k188_158 : mj_look (mj_prog 188) 158 = some (.iadd, 1, 0, 0) := by decide +kernel
theorem k188_159 : mj_look (mj_prog 188) 159 = some (.iastore, 1, 0, 0) := by decide +kernel
theorem k188_160 : mj_look (mj_prog 188) 160 = some (.iload_n 2, 1, 0, 0) := by decide +kernel
theorem k188_161 : mj_look (mj_prog 188) 161 = some (.ireturn, 1, 0, 0) := by decide +kernel
theorem mx_189 : (mj_m 189).2.2.1 = 2 := by decide +kernel
theorem rt_189 : (mj_m 189).2.2.2.1 = none := by decide +kernel
theorem dp_189 : mj_disp 189 12 = some 189 := by decide +kernel
theorem pq_189 : mj_prog 189 = mj_p189 := rfl
theorem k189_0 : mj_look (mj_prog 189) 0 = some (.aload_n 0, 1, 0, 0) := by decide +kernel
theorem k189_1 : mj_look (mj_prog 189) 1 = some (.getfield 180, 3, 12, 8) := by decide +kernel
theorem k189_4 : mj_look (mj_prog 189) 4 = some (.aload_n 0, 1, 0, 0) := by decide +kernel
theorem k189_5 : mj_look (mj_prog 189) 5 = some (.getfield 177, 3, 12, 7) := by decide +kernel
theorem k189_8 : mj_look (mj_prog 189) 8 = some (.if_icmp .ge 30, 3, 38, 0) := by decide +kernel
theorem k189_11 : mj_look (mj_prog 189) 11 = some (.aload_n 0, 1, 0, 0) := by decide +kernel
theorem k189_12 : mj_look (mj_prog 189) 12 = some (.getfield 26, 3, 12, 6) := by decide +kernel
theorem k189_15 : mj_look (mj_prog 189) 15 = some (.aload_n 0, 1, 0, 0) := by decide +kernel
theorem k189_16 : mj_look (mj_prog 189) 16 = some (.getfield 180, 3, 12, 8) := by decide +kernel
theorem k189_19 : mj_look (mj_prog 189) 19 = some (.iaload, 1, 0, 0) := by decide +kernel
theorem k189_20 : mj_look (mj_prog 189) 20 = some (.bipush 32, 2, 0, 0) := by decide +kernel
theorem k189_22 : mj_look (mj_prog 189) 22 = some (.if_icmp .ne 16, 3, 38, 0) := by decide +kernel
theorem k189_25 : mj_look (mj_prog 189) 25 = some (.aload_n 0, 1, 0, 0) := by decide +kernel
theorem k189_26 : mj_look (mj_prog 189) 26 = some (.dup, 1, 0, 0) := by decide +kernel
theorem k189_27 : mj_look (mj_prog 189) 27 = some (.getfield 180, 3, 12, 8) := by decide +kernel
theorem k189_30 : mj_look (mj_prog 189) 30 = some (.iconst 1, 1, 0, 0) := by decide +kernel
theorem k189_31 : mj_look (mj_prog 189) 31 = some (.iadd, 1, 0, 0) := by decide +kernel
theorem k189_32 : mj_look (mj_prog 189) 32 = some (.putfield 180, 3, 12, 8) := by decide +kernel
theorem k189_35 : mj_look (mj_prog 189) 35 = some (.goto (-35), 3, 0, 0) := by decide +kernel
theorem k189_38 : mj_look (mj_prog 189) 38 = some (.aload_n 0, 1, 0, 0) := by decide +kernel
theorem k189_39 : mj_look (mj_prog 189) 39 = some (.aload_n 0, 1, 0, 0) := by decide +kernel
theorem k189_40 : mj_look (mj_prog 189) 40 = some (.getfield 180, 3, 12, 8) := by decide +kernel
theorem k189_43 : mj_look (mj_prog 189) 43 = some (.putfield 183, 3, 12, 9) := by decide +kernel
theorem k189_46 : mj_look (mj_prog 189) 46 = some (.aload_n 0, 1, 0, 0) := by decide +kernel
theorem k189_47 : mj_look (mj_prog 189) 47 = some (.getfield 183, 3, 12, 9) := by decide +kernel
theorem k189_50 : mj_look (mj_prog 189) 50 = some (.aload_n 0, 1, 0, 0) := by decide +kernel
theorem k189_51 : mj_look (mj_prog 189) 51 = some (.getfield 186, 3, 12, 12) := by decide +kernel
theorem k189_54 : mj_look (mj_prog 189) 54 = some (.if_icmp .ne 7, 3, 61, 0) := by decide +kernel
theorem k189_57 : mj_look (mj_prog 189) 57 = some (.iconst 1, 1, 0, 0) := by decide +kernel
theorem k189_58 : mj_look (mj_prog 189) 58 = some (.goto 4, 3, 62, 0) := by decide +kernel
theorem k189_61 : mj_look (mj_prog 189) 61 = some (.iconst 0, 1, 0, 0) := by decide +kernel
theorem k189_62 : mj_look (mj_prog 189) 62 = some (.istore_n 1, 1, 0, 0) := by decide +kernel
theorem k189_63 : mj_look (mj_prog 189) 63 = some (.aload_n 0, 1, 0, 0) := by decide +kernel
theorem k189_64 : mj_look (mj_prog 189) 64 = some (.getfield 183, 3, 12, 9) := by decide +kernel
theorem k189_67 : mj_look (mj_prog 189) 67 = some (.aload_n 0, 1, 0, 0) := by decide +kernel
theorem k189_68 : mj_look (mj_prog 189) 68 = some (.getfield 177, 3, 12, 7) := by decide +kernel
theorem k189_71 : mj_look (mj_prog 189) 71 = some (.if_icmp .ne 11, 3, 82, 0) := by decide +kernel
theorem k189_74 : mj_look (mj_prog 189) 74 = some (.aload_n 0, 1, 0, 0) := by decide +kernel
theorem k189_75 : mj_look (mj_prog 189) 75 = some (.iconst 0, 1, 0, 0) := by decide +kernel
theorem k189_76 : mj_look (mj_prog 189) 76 = some (.putfield 189, 3, 12, 10) := by decide +kernel
theorem k189_79 : mj_look (mj_prog 189) 79 = some (.goto 224, 3, 303, 0) := by decide +kernel
theorem k189_82 : mj_look (mj_prog 189) 82 = some (.aload_n 0, 1, 0, 0) := by decide +kernel
theorem k189_83 : mj_look (mj_prog 189) 83 = some (.aload_n 0, 1, 0, 0) := by decide +kernel
theorem k189_84 : mj_look (mj_prog 189) 84 = some (.getfield 183, 3, 12, 9) := by decide +kernel
theorem k189_87 : mj_look (mj_prog 189) 87 = some (.invokevirtual 192, 3, 190, 1) := by decide +kernel
theorem k189_90 : mj_look (mj_prog 189) 90 = some (.ifCond .eq 64, 3, 154, 0) := by decide +kernel
theorem k189_93 : mj_look (mj_prog 189) 93 = some (.aload_n 0, 1, 0, 0) := by decide +kernel
theorem k189_94 : mj_look (mj_prog 189) 94 = some (.aload_n 0, 1, 0, 0) := by decide +kernel
theorem k189_95 : mj_look (mj_prog 189) 95 = some (.getfield 180, 3, 12, 8) := by decide +kernel
theorem k189_98 : mj_look (mj_prog 189) 98 = some (.invokevirtual 192, 3, 190, 1) := by decide +kernel
theorem k189_101 : mj_look (mj_prog 189) 101 = some (.ifCond .eq 16, 3, 117, 0) := by decide +kernel
theorem k189_104 : mj_look (mj_prog 189) 104 = some (.aload_n 0, 1, 0, 0) := by decide +kernel
theorem k189_105 : mj_look (mj_prog 189) 105 = some (.dup, 1, 0, 0) := by decide +kernel
theorem k189_106 : mj_look (mj_prog 189) 106 = some (.getfield 180, 3, 12, 8) := by decide +kernel
theorem k189_109 : mj_look (mj_prog 189) 109 = some (.iconst 1, 1, 0, 0) := by decide +kernel
theorem k189_110 : mj_look (mj_prog 189) 110 = some (.iadd, 1, 0, 0) := by decide +kernel
theorem k189_111 : mj_look (mj_prog 189) 111 = some (.putfield 180, 3, 12, 8) := by decide +kernel
theorem k189_114 : mj_look (mj_prog 189) 114 = some (.goto (-21), 3, 93, 0) := by decide +kernel
theorem k189_117 : mj_look (mj_prog 189) 117 = some (.aload_n 0, 1, 0, 0) := by decide +kernel
theorem k189_118 : mj_look (mj_prog 189) 118 = some (.iload_n 1, 1, 0, 0) := by decide +kernel
theorem k189_119 : mj_look (mj_prog 189) 119 = some (.ifCond .eq 7, 3, 126, 0) := by decide +kernel
theorem k189_122 : mj_look (mj_prog 189) 122 = some (.iconst 4, 1, 0, 0) := by decide +kernel
theorem k189_123 : mj_look (mj_prog 189) 123 = some (.goto 4, 3, 127, 0) := by decide +kernel
theorem k189_126 : mj_look (mj_prog 189) 126 = some (.iconst 1, 1, 0, 0) := by decide +kernel
theorem k189_127 : mj_look (mj_prog 189) 127 = some (.putfield 189, 3, 12, 10) := by decide +kernel
theorem k189_130 : mj_look (mj_prog 189) 130 = some (.aload_n 0, 1, 0, 0) := by decide +kernel
theorem k189_131 : mj_look (mj_prog 189) 131 = some (.aload_n 0, 1, 0, 0) := by decide +kernel
theorem k189_132 : mj_look (mj_prog 189) 132 = some (.getfield 26, 3, 12, 6) := by decide +kernel
theorem k189_135 : mj_look (mj_prog 189) 135 = some (.aload_n 0, 1, 0, 0) := by decide +kernel
theorem k189_136 : mj_look (mj_prog 189) 136 = some (.getfield 183, 3, 12, 9) := by decide +kernel
theorem k189_139 : mj_look (mj_prog 189) 139 = some (.iaload, 1, 0, 0) := by decide +kernel
theorem k189_140 : mj_look (mj_prog 189) 140 = some (.putfield 195, 3, 12, 11) := by decide +kernel
theorem k189_143 : mj_look (mj_prog 189) 143 = some (.aload_n 0, 1, 0, 0) := by decide +kernel
theorem k189_144 : mj_look (mj_prog 189) 144 = some (.aload_n 0, 1, 0, 0) := by decide +kernel
theorem k189_145 : mj_look (mj_prog 189) 145 = some (.getfield 180, 3, 12, 8) := by decide +kernel
theorem k189_148 : mj_look (mj_prog 189) 148 = some (.putfield 186, 3, 12, 12) := by decide +kernel
theorem k189_151 : mj_look (mj_prog 189) 151 = some (.goto 152, 3, 303, 0) := by decide +kernel
theorem k189_154 : mj_look (mj_prog 189) 154 = some (.aload_n 0, 1, 0, 0) := by decide +kernel
theorem k189_155 : mj_look (mj_prog 189) 155 = some (.aload_n 0, 1, 0, 0) := by decide +kernel
theorem k189_156 : mj_look (mj_prog 189) 156 = some (.getfield 183, 3, 12, 9) := by decide +kernel
theorem k189_159 : mj_look (mj_prog 189) 159 = some (.invokevirtual 198, 3, 191, 1) := by decide +kernel
theorem k189_162 : mj_look (mj_prog 189) 162 = some (.ifCond .eq 113, 3, 275, 0) := by decide +kernel
theorem k189_165 : mj_look (mj_prog 189) 165 = some (.aload_n 0, 1, 0, 0) := by decide +kernel
theorem k189_166 : mj_look (mj_prog 189) 166 = some (.iconst 0, 1, 0, 0) := by decide +kernel
theorem k189_167 : mj_look (mj_prog 189) 167 = some (.putfield 195, 3, 12, 11) := by decide +kernel
theorem k189_170 : mj_look (mj_prog 189) 170 = some (.aload_n 0, 1, 0, 0) := by decide +kernel
theorem k189_171 : mj_look (mj_prog 189) 171 = some (.aload_n 0, 1, 0, 0) := by decide +kernel
theorem k189_172 : mj_look (mj_prog 189) 172 = some (.getfield 180, 3, 12, 8) := by decide +kernel
theorem k189_175 : mj_look (mj_prog 189) 175 = some (.invokevirtual 198, 3, 191, 1) := by decide +kernel
theorem k189_178 : mj_look (mj_prog 189) 178 = some (.ifCond .eq 60, 3, 238, 0) := by decide +kernel
theorem k189_181 : mj_look (mj_prog 189) 181 = some (.aload_n 0, 1, 0, 0) := by decide +kernel
theorem k189_182 : mj_look (mj_prog 189) 182 = some (.aload_n 0, 1, 0, 0) := by decide +kernel
theorem k189_183 : mj_look (mj_prog 189) 183 = some (.getfield 180, 3, 12, 8) := by decide +kernel
theorem k189_186 : mj_look (mj_prog 189) 186 = some (.aload_n 0, 1, 0, 0) := by decide +kernel
theorem k189_187 : mj_look (mj_prog 189) 187 = some (.getfield 183, 3, 12, 9) := by decide +kernel
theorem k189_190 : mj_look (mj_prog 189) 190 = some (.isub, 1, 0, 0) := by decide +kernel
theorem k189_191 : mj_look (mj_prog 189) 191 = some (.iconst 4, 1, 0, 0) := by decide +kernel
theorem k189_192 : mj_look (mj_prog 189) 192 = some (.if_icmp .ge 26, 3, 218, 0) := by decide +kernel
theorem k189_195 : mj_look (mj_prog 189) 195 = some (.bipush 10, 2, 0, 0) := by decide +kernel
theorem k189_197 : mj_look (mj_prog 189) 197 = some (.aload_n 0, 1, 0, 0) := by decide +kernel
theorem k189_198 : mj_look (mj_prog 189) 198 = some (.getfield 195, 3, 12, 11) := by decide +kernel
theorem k189_201 : mj_look (mj_prog 189) 201 = some (.imul, 1, 0, 0) := by decide +kernel
theorem k189_202 : mj_look (mj_prog 189) 202 = some (.aload_n 0, 1, 0, 0) := by decide +kernel
theorem k189_203 : mj_look (mj_prog 189) 203 = some (.getfield 26, 3, 12, 6) := by decide +kernel
theorem k189_206 : mj_look (mj_prog 189) 206 = some (.aload_n 0, 1, 0, 0) := by decide +kernel
theorem k189_207 : mj_look (mj_prog 189) 207 = some (.getfield 180, 3, 12, 8) := by decide +kernel
theorem k189_210 : mj_look (mj_prog 189) 210 = some (.iaload, 1, 0, 0) := by decide +kernel
theorem k189_211 : mj_look (mj_prog 189) 211 = some (.iadd, 1, 0, 0) := by decide +kernel
theorem k189_212 : mj_look (mj_prog 189) 212 = some (.bipush 48, 2, 0, 0) := by decide +kernel
theorem k189_214 : mj_look (mj_prog 189) 214 = some (.isub, 1, 0, 0) := by decide +kernel
theorem k189_215 : mj_look (mj_prog 189) 215 = some (.goto 7, 3, 222, 0) := by decide +kernel
theorem k189_218 : mj_look (mj_prog 189) 218 = some (.aload_n 0, 1, 0, 0) := by decide +kernel
theorem k189_219 : mj_look (mj_prog 189) 219 = some (.getfield 195, 3, 12, 11) := by decide +kernel
theorem k189_222 : mj_look (mj_prog 189) 222 = some (.putfield 195, 3, 12, 11) := by decide +kernel
theorem k189_225 : mj_look (mj_prog 189) 225 = some (.aload_n 0, 1, 0, 0) := by decide +kernel
theorem k189_226 : mj_look (mj_prog 189) 226 = some (.dup, 1, 0, 0) := by decide +kernel
theorem k189_227 : mj_look (mj_prog 189) 227 = some (.getfield 180, 3, 12, 8) := by decide +kernel
theorem k189_230 : mj_look (mj_prog 189) 230 = some (.iconst 1, 1, 0, 0) := by decide +kernel
theorem k189_231 : mj_look (mj_prog 189) 231 = some (.iadd, 1, 0, 0) := by decide +kernel
theorem k189_232 : mj_look (mj_prog 189) 232 = some (.putfield 180, 3, 12, 8) := by decide +kernel
theorem k189_235 : mj_look (mj_prog 189) 235 = some (.goto (-65), 3, 170, 0) := by decide +kernel
theorem k189_238 : mj_look (mj_prog 189) 238 = some (.aload_n 0, 1, 0, 0) := by decide +kernel
theorem k189_239 : mj_look (mj_prog 189) 239 = some (.iload_n 1, 1, 0, 0) := by decide +kernel
theorem k189_240 : mj_look (mj_prog 189) 240 = some (.ifCond .ne 16, 3, 256, 0) := by decide +kernel
theorem k189_243 : mj_look (mj_prog 189) 243 = some (.aload_n 0, 1, 0, 0) := by decide +kernel
theorem k189_244 : mj_look (mj_prog 189) 244 = some (.getfield 180, 3, 12, 8) := by decide +kernel
theorem k189_247 : mj_look (mj_prog 189) 247 = some (.aload_n 0, 1, 0, 0) := by decide +kernel
theorem k189_248 : mj_look (mj_prog 189) 248 = some (.getfield 183, 3, 12, 9) := by decide +kernel
theorem k189_251 : mj_look (mj_prog 189) 251 = some (.isub, 1, 0, 0) := by decide +kernel
theorem k189_252 : mj_look (mj_prog 189) 252 = some (.iconst 4, 1, 0, 0) := by decide +kernel
theorem k189_253 : mj_look (mj_prog 189) 253 = some (.if_icmp .le 7, 3, 260, 0) := by decide +kernel
theorem k189_256 : mj_look (mj_prog 189) 256 = some (.iconst 4, 1, 0, 0) := by decide +kernel
theorem k189_257 : mj_look (mj_prog 189) 257 = some (.goto 4, 3, 261, 0) := by decide +kernel
theorem k189_260 : mj_look (mj_prog 189) 260 = some (.iconst 2, 1, 0, 0) := by decide +kernel
theorem k189_261 : mj_look (mj_prog 189) 261 = some (.putfield 189, 3, 12, 10) := by decide +kernel
theorem k189_264 : mj_look (mj_prog 189) 264 = some (.aload_n 0, 1, 0, 0) := by decide +kernel
theorem k189_265 : mj_look (mj_prog 189) 265 = some (.aload_n 0, 1, 0, 0) := by decide +kernel
theorem k189_266 : mj_look (mj_prog 189) 266 = some (.getfield 180, 3, 12, 8) := by decide +kernel
theorem k189_269 : mj_look (mj_prog 189) 269 = some (.putfield 186, 3, 12, 12) := by decide +kernel
theorem k189_272 : mj_look (mj_prog 189) 272 = some (.goto 31, 3, 303, 0) := by decide +kernel
theorem k189_275 : mj_look (mj_prog 189) 275 = some (.aload_n 0, 1, 0, 0) := by decide +kernel
theorem k189_276 : mj_look (mj_prog 189) 276 = some (.iconst 3, 1, 0, 0) := by decide +kernel
theorem k189_277 : mj_look (mj_prog 189) 277 = some (.putfield 189, 3, 12, 10) := by decide +kernel
theorem k189_280 : mj_look (mj_prog 189) 280 = some (.aload_n 0, 1, 0, 0) := by decide +kernel
theorem k189_281 : mj_look (mj_prog 189) 281 = some (.aload_n 0, 1, 0, 0) := by decide +kernel
theorem k189_282 : mj_look (mj_prog 189) 282 = some (.getfield 26, 3, 12, 6) := by decide +kernel
theorem k189_285 : mj_look (mj_prog 189) 285 = some (.aload_n 0, 1, 0, 0) := by decide +kernel
theorem k189_286 : mj_look (mj_prog 189) 286 = some (.getfield 183, 3, 12, 9) := by decide +kernel
theorem k189_289 : mj_look (mj_prog 189) 289 = some (.iaload, 1, 0, 0) := by decide +kernel
theorem k189_290 : mj_look (mj_prog 189) 290 = some (.putfield 195, 3, 12, 11) := by decide +kernel
theorem k189_293 : mj_look (mj_prog 189) 293 = some (.aload_n 0, 1, 0, 0) := by decide +kernel
theorem k189_294 : mj_look (mj_prog 189) 294 = some (.dup, 1, 0, 0) := by decide +kernel
theorem k189_295 : mj_look (mj_prog 189) 295 = some (.getfield 180, 3, 12, 8) := by decide +kernel
theorem k189_298 : mj_look (mj_prog 189) 298 = some (.iconst 1, 1, 0, 0) := by decide +kernel
theorem k189_299 : mj_look (mj_prog 189) 299 = some (.iadd, 1, 0, 0) := by decide +kernel
theorem k189_300 : mj_look (mj_prog 189) 300 = some (.putfield 180, 3, 12, 8) := by decide +kernel
theorem k189_303 : mj_look (mj_prog 189) 303 = some (.return_, 1, 0, 0) := by decide +kernel
theorem mx_190 : (mj_m 190).2.2.1 = 2 := by decide +kernel
theorem rt_190 : (mj_m 190).2.2.2.1 = (some FieldType.boolean) := by decide +kernel
theorem dp_190 : mj_disp 190 12 = some 190 := by decide +kernel
theorem pq_190 : mj_prog 190 = mj_p190 := rfl
theorem k190_0 : mj_look (mj_prog 190) 0 = some (.iload_n 1, 1, 0, 0) := by decide +kernel
theorem k190_1 : mj_look (mj_prog 190) 1 = some (.aload_n 0, 1, 0, 0) := by decide +kernel
theorem k190_2 : mj_look (mj_prog 190) 2 = some (.getfield 177, 3, 12, 7) := by decide +kernel
theorem k190_5 : mj_look (mj_prog 190) 5 = some (.if_icmp .ge 29, 3, 34, 0) := by decide +kernel
theorem k190_8 : mj_look (mj_prog 190) 8 = some (.aload_n 0, 1, 0, 0) := by decide +kernel
theorem k190_9 : mj_look (mj_prog 190) 9 = some (.getfield 26, 3, 12, 6) := by decide +kernel
theorem k190_12 : mj_look (mj_prog 190) 12 = some (.iload_n 1, 1, 0, 0) := by decide +kernel
theorem k190_13 : mj_look (mj_prog 190) 13 = some (.iaload, 1, 0, 0) := by decide +kernel
theorem k190_14 : mj_look (mj_prog 190) 14 = some (.bipush 97, 2, 0, 0) := by decide +kernel
theorem k190_16 : mj_look (mj_prog 190) 16 = some (.if_icmp .lt 18, 3, 34, 0) := by decide +kernel
theorem k190_19 : mj_look (mj_prog 190) 19 = some (.aload_n 0, 1, 0, 0) := by decide +kernel
theorem k190_20 : mj_look (mj_prog 190) 20 = some (.getfield 26, 3, 12, 6) := by decide +kernel
theorem k190_23 : mj_look (mj_prog 190) 23 = some (.iload_n 1, 1, 0, 0) := by decide +kernel
theorem k190_24 : mj_look (mj_prog 190) 24 = some (.iaload, 1, 0, 0) := by decide +kernel
theorem k190_25 : mj_look (mj_prog 190) 25 = some (.bipush 122, 2, 0, 0) := by decide +kernel
theorem k190_27 : mj_look (mj_prog 190) 27 = some (.if_icmp .gt 7, 3, 34, 0) := by decide +kernel
theorem k190_30 : mj_look (mj_prog 190) 30 = some (.iconst 1, 1, 0, 0) := by decide +kernel
theorem k190_31 : mj_look (mj_prog 190) 31 = some (.goto 4, 3, 35, 0) := by decide +kernel
theorem k190_34 : mj_look (mj_prog 190) 34 = some (.iconst 0, 1, 0, 0) := by decide +kernel
theorem k190_35 : mj_look (mj_prog 190) 35 = some (.ireturn, 1, 0, 0) := by decide +kernel
theorem mx_191 : (mj_m 191).2.2.1 = 2 := by decide +kernel
theorem rt_191 : (mj_m 191).2.2.2.1 = (some FieldType.boolean) := by decide +kernel
theorem dp_191 : mj_disp 191 12 = some 191 := by decide +kernel
theorem pq_191 : mj_prog 191 = mj_p191 := rfl
theorem k191_0 : mj_look (mj_prog 191) 0 = some (.iload_n 1, 1, 0, 0) := by decide +kernel
theorem k191_1 : mj_look (mj_prog 191) 1 = some (.aload_n 0, 1, 0, 0) := by decide +kernel
theorem k191_2 : mj_look (mj_prog 191) 2 = some (.getfield 177, 3, 12, 7) := by decide +kernel
theorem k191_5 : mj_look (mj_prog 191) 5 = some (.if_icmp .ge 29, 3, 34, 0) := by decide +kernel
theorem k191_8 : mj_look (mj_prog 191) 8 = some (.aload_n 0, 1, 0, 0) := by decide +kernel
theorem k191_9 : mj_look (mj_prog 191) 9 = some (.getfield 26, 3, 12, 6) := by decide +kernel
theorem k191_12 : mj_look (mj_prog 191) 12 = some (.iload_n 1, 1, 0, 0) := by decide +kernel
theorem k191_13 : mj_look (mj_prog 191) 13 = some (.iaload, 1, 0, 0) := by decide +kernel
theorem k191_14 : mj_look (mj_prog 191) 14 = some (.bipush 48, 2, 0, 0) := by decide +kernel
theorem k191_16 : mj_look (mj_prog 191) 16 = some (.if_icmp .lt 18, 3, 34, 0) := by decide +kernel
theorem k191_19 : mj_look (mj_prog 191) 19 = some (.aload_n 0, 1, 0, 0) := by decide +kernel
theorem k191_20 : mj_look (mj_prog 191) 20 = some (.getfield 26, 3, 12, 6) := by decide +kernel
theorem k191_23 : mj_look (mj_prog 191) 23 = some (.iload_n 1, 1, 0, 0) := by decide +kernel
theorem k191_24 : mj_look (mj_prog 191) 24 = some (.iaload, 1, 0, 0) := by decide +kernel
theorem k191_25 : mj_look (mj_prog 191) 25 = some (.bipush 57, 2, 0, 0) := by decide +kernel
theorem k191_27 : mj_look (mj_prog 191) 27 = some (.if_icmp .gt 7, 3, 34, 0) := by decide +kernel
theorem k191_30 : mj_look (mj_prog 191) 30 = some (.iconst 1, 1, 0, 0) := by decide +kernel
theorem k191_31 : mj_look (mj_prog 191) 31 = some (.goto 4, 3, 35, 0) := by decide +kernel
theorem k191_34 : mj_look (mj_prog 191) 34 = some (.iconst 0, 1, 0, 0) := by decide +kernel
theorem k191_35 : mj_look (mj_prog 191) 35 = some (.ireturn, 1, 0, 0) := by decide +kernel
theorem mx_192 : (mj_m 192).2.2.1 = 5 := by decide +kernel
theorem rt_192 : (mj_m 192).2.2.2.1 = (some FieldType.boolean) := by decide +kernel
theorem dp_192 : mj_disp 192 12 = some 192 := by decide +kernel
theorem pq_192 : mj_prog 192 = mj_p192 := rfl
theorem k192_0 : mj_look (mj_prog 192) 0 = some (.aload_n 0, 1, 0, 0) := by decide +kernel
theorem k192_1 : mj_look (mj_prog 192) 1 = some (.getfield 189, 3, 12, 10) := by decide +kernel
theorem k192_4 : mj_look (mj_prog 192) 4 = some (.iconst 1, 1, 0, 0) := by decide +kernel
theorem k192_5 : mj_look (mj_prog 192) 5 = some (.if_icmp .eq 5, 3, 10, 0) := by decide +kernel
theorem k192_8 : mj_look (mj_prog 192) 8 = some (.iconst 0, 1, 0, 0) := by decide +kernel
theorem k192_9 : mj_look (mj_prog 192) 9 = some (.ireturn, 1, 0, 0) := by decide +kernel
theorem k192_10 : mj_look (mj_prog 192) 10 = some (.iconst 0, 1, 0, 0) := by decide +kernel
theorem k192_11 : mj_look (mj_prog 192) 11 = some (.istore_n 1, 1, 0, 0) := by decide +kernel
theorem k192_12 : mj_look (mj_prog 192) 12 = some (.iload_n 1, 1, 0, 0) := by decide +kernel
theorem k192_13 : mj_look (mj_prog 192) 13 = some (.iconst 3, 1, 0, 0) := by decide +kernel
theorem k192_14 : mj_look (mj_prog 192) 14 = some (.if_icmp .ge 113, 3, 127, 0) := by decide +kernel
theorem k192_17 : mj_look (mj_prog 192) 17 = some (.aload_n 0, 1, 0, 0) := by decide +kernel
theorem k192_18 : mj_look (mj_prog 192) 18 = some (.getfield 33, 3, 12, 15) := by decide +kernel
theorem k192_21 : mj_look (mj_prog 192) 21 = some (.iload_n 1, 1, 0, 0) := by decide +kernel
theorem k192_22 : mj_look (mj_prog 192) 22 = some (.iconst 1, 1, 0, 0) := by decide +kernel
theorem k192_23 : mj_look (mj_prog 192) 23 = some (.iadd, 1, 0, 0) := by decide +kernel
theorem k192_24 : mj_look (mj_prog 192) 24 = some (.iaload, 1, 0, 0) := by decide +kernel
theorem k192_25 : mj_look (mj_prog 192) 25 = some (.aload_n 0, 1, 0, 0) := by decide +kernel
theorem k192_26 : mj_look (mj_prog 192) 26 = some (.getfield 33, 3, 12, 15) := by decide +kernel
theorem k192_29 : mj_look (mj_prog 192) 29 = some (.iload_n 1, 1, 0, 0) := by decide +kernel
theorem k192_30 : mj_look (mj_prog 192) 30 = some (.iaload, 1, 0, 0) := by decide +kernel
theorem k192_31 : mj_look (mj_prog 192) 31 = some (.isub, 1, 0, 0) := by decide +kernel
theorem k192_32 : mj_look (mj_prog 192) 32 = some (.istore_n 2, 1, 0, 0) := by decide +kernel
theorem k192_33 : mj_look (mj_prog 192) 33 = some (.iload_n 2, 1, 0, 0) := by decide +kernel
theorem k192_34 : mj_look (mj_prog 192) 34 = some (.aload_n 0, 1, 0, 0) := by decide +kernel
theorem k192_35 : mj_look (mj_prog 192) 35 = some (.getfield 180, 3, 12, 8) := by decide +kernel
theorem k192_38 : mj_look (mj_prog 192) 38 = some (.aload_n 0, 1, 0, 0) := by decide +kernel
theorem k192_39 : mj_look (mj_prog 192) 39 = some (.getfield 183, 3, 12, 9) := by decide +kernel
theorem k192_42 : mj_look (mj_prog 192) 42 = some (.isub, 1, 0, 0) := by decide +kernel
theorem k192_43 : mj_look (mj_prog 192) 43 = some (.if_icmp .ne 7, 3, 50, 0) := by decide +kernel
theorem k192_46 : mj_look (mj_prog 192) 46 = some (.iconst 1, 1, 0, 0) := by decide +kernel
theorem k192_47 : mj_look (mj_prog 192) 47 = some (.goto 4, 3, 51, 0) := by decide +kernel
theorem k192_50 : mj_look (mj_prog 192) 50 = some (.iconst 0, 1, 0, 0) := by decide +kernel
theorem k192_51 : mj_look (mj_prog 192) 51 = some (.istore_n 3, 1, 0, 0) := by decide +kernel
theorem k192_52 : mj_look (mj_prog 192) 52 = some (.iconst 0, 1, 0, 0) := by decide +kernel
theorem k192_53 : mj_look (mj_prog 192) 53 = some (.istore 4, 2, 0, 0) := by decide +kernel
theorem k192_55 : mj_look (mj_prog 192) 55 = some (.iload 4, 2, 0, 0) := by decide +kernel
theorem k192_57 : mj_look (mj_prog 192) 57 = some (.iload_n 2, 1, 0, 0) := by decide +kernel
theorem k192_58 : mj_look (mj_prog 192) 58 = some (.if_icmp .ge 48, 3, 106, 0) := by decide +kernel
theorem k192_61 : mj_look (mj_prog 192) 61 = some (.iload_n 3, 1, 0, 0) := by decide +kernel
theorem k192_62 : mj_look (mj_prog 192) 62 = some (.ifCond .eq 44, 3, 106, 0) := by decide +kernel
theorem k192_65 : mj_look (mj_prog 192) 65 = some (.aload_n 0, 1, 0, 0) := by decide +kernel
theorem k192_66 : mj_look (mj_prog 192) 66 = some (.getfield 26, 3, 12, 6) := by decide +kernel
theorem k192_69 : mj_look (mj_prog 192) 69 = some (.aload_n 0, 1, 0, 0) := by decide +kernel
theorem k192_70 : mj_look (mj_prog 192) 70 = some (.getfield 183, 3, 12, 9) := by decide +kernel
theorem k192_73 : mj_look (mj_prog 192) 73 = some (.iload 4, 2, 0, 0) := by decide +kernel
theorem k192_75 : mj_look (mj_prog 192) 75 = some (.iadd, 1, 0, 0) := by decide +kernel
theorem k192_76 : mj_look (mj_prog 192) 76 = some (.iaload, 1, 0, 0) := by decide +kernel
theorem k192_77 : mj_look (mj_prog 192) 77 = some (.aload_n 0, 1, 0, 0) := by decide +kernel
theorem k192_78 : mj_look (mj_prog 192) 78 = some (.getfield 29, 3, 12, 14) := by decide +kernel
theorem k192_81 : mj_look (mj_prog 192) 81 = some (.aload_n 0, 1, 0, 0) := by decide +kernel
theorem k192_82 : mj_look (mj_prog 192) 82 = some (.getfield 33, 3, 12, 15) := by decide +kernel
theorem k192_85 : mj_look (mj_prog 192) 85 = some (.iload_n 1, 1, 0, 0) := by decide +kernel
theorem k192_86 : mj_look (mj_prog 192) 86 = some (.iaload, 1, 0, 0) := by decide +kernel
theorem k192_87 : mj_look (mj_prog 192) 87 = some (.iload 4, 2, 0, 0) := by decide +kernel
theorem k192_89 : mj_look (mj_prog 192) 89 = some (.iadd, 1, 0, 0) := by decide +kernel
theorem k192_90 : mj_look (mj_prog 192) 90 = some (.caload, 1, 0, 0) := by decide +kernel
theorem k192_91 : mj_look (mj_prog 192) 91 = some (.if_icmp .ne 7, 3, 98, 0) := by decide +kernel
theorem k192_94 : mj_look (mj_prog 192) 94 = some (.iconst 1, 1, 0, 0) := by decide +kernel
theorem k192_95 : mj_look (mj_prog 192) 95 = some (.goto 4, 3, 99, 0) := by decide +kernel
theorem k192_98 : mj_look (mj_prog 192) 98 = some (.iconst 0, 1, 0, 0) := by decide +kernel
theorem k192_99 : mj_look (mj_prog 192) 99 = some (.istore_n 3, 1, 0, 0) := by decide +kernel
theorem k192_100 : mj_look (mj_prog 192) 100 = some (.iinc 4 1, 3, 0, 0) := by decide +kernel
theorem k192_103 : mj_look (mj_prog 192) 103 = some (.goto (-48), 3, 55, 0) := by decide +kernel
theorem k192_106 : mj_look (mj_prog 192) 106 = some (.iload_n 3, 1, 0, 0) := by decide +kernel
theorem k192_107 : mj_look (mj_prog 192) 107 = some (.ifCond .eq 14, 3, 121, 0) := by decide +kernel
theorem k192_110 : mj_look (mj_prog 192) 110 = some (.aload_n 0, 1, 0, 0) := by decide +kernel
theorem k192_111 : mj_look (mj_prog 192) 111 = some (.iload_n 1, 1, 0, 0) := by decide +kernel
theorem k192_112 : mj_look (mj_prog 192) 112 = some (.putfield 201, 3, 12, 13) := by decide +kernel
theorem k192_115 : mj_look (mj_prog 192) 115 = some (.aload_n 0, 1, 0, 0) := by decide +kernel
theorem k192_116 : mj_look (mj_prog 192) 116 = some (.invokevirtual 204, 3, 189, 0) := by decide +kernel
theorem k192_119 : mj_look (mj_prog 192) 119 = some (.iconst 1, 1, 0, 0) := by decide +kernel
theorem k192_120 : mj_look (mj_prog 192) 120 = some (.ireturn, 1, 0, 0) := by decide +kernel
theorem k192_121 : mj_look (mj_prog 192) 121 = some (.iinc 1 1, 3, 0, 0) := by decide +kernel
theorem k192_124 : mj_look (mj_prog 192) 124 = some (.goto (-112), 3, 12, 0) := by decide +kernel
theorem k192_127 : mj_look (mj_prog 192) 127 = some (.iconst 0, 1, 0, 0) := by decide +kernel
theorem k192_128 : mj_look (mj_prog 192) 128 = some (.ireturn, 1, 0, 0) := by decide +kernel
theorem mx_193 : (mj_m 193).2.2.1 = 5 := by decide +kernel
theorem rt_193 : (mj_m 193).2.2.2.1 = (some FieldType.boolean) := by decide +kernel
theorem dp_193 : mj_disp 193 12 = some 193 := by decide +kernel
theorem pq_193 : mj_prog 193 = mj_p193 := rfl
theorem k193_0 : mj_look (mj_prog 193) 0 = some (.iconst 0, 1, 0, 0) := by decide +kernel
theorem k193_1 : mj_look (mj_prog 193) 1 = some (.istore_n 1, 1, 0, 0) := by decide +kernel
theorem k193_2 : mj_look (mj_prog 193) 2 = some (.iconst 0, 1, 0, 0) := by decide +kernel
theorem k193_3 : mj_look (mj_prog 193) 3 = some (.istore_n 2, 1, 0, 0) := by decide +kernel
theorem k193_4 : mj_look (mj_prog 193) 4 = some (.iconst 1, 1, 0, 0) := by decide +kernel
theorem k193_5 : mj_look (mj_prog 193) 5 = some (.istore_n 3, 1, 0, 0) := by decide +kernel
theorem k193_6 : mj_look (mj_prog 193) 6 = some (.aload_n 0, 1, 0, 0) := by decide +kernel
theorem k193_7 : mj_look (mj_prog 193) 7 = some (.iconst 0, 1, 0, 0) := by decide +kernel
theorem k193_8 : mj_look (mj_prog 193) 8 = some (.putfield 213, 3, 12, 17) := by decide +kernel
theorem k193_11 : mj_look (mj_prog 193) 11 = some (.aload_n 0, 1, 0, 0) := by decide +kernel
theorem k193_12 : mj_look (mj_prog 193) 12 = some (.iconst 0, 1, 0, 0) := by decide +kernel
theorem k193_13 : mj_look (mj_prog 193) 13 = some (.putfield 219, 3, 12, 18) := by decide +kernel
theorem k193_16 : mj_look (mj_prog 193) 16 = some (.aload_n 0, 1, 0, 0) := by decide +kernel
theorem k193_17 : mj_look (mj_prog 193) 17 = some (.iconst 0, 1, 0, 0) := by decide +kernel
theorem k193_18 : mj_look (mj_prog 193) 18 = some (.putfield 207, 3, 12, 20) := by decide +kernel
theorem k193_21 : mj_look (mj_prog 193) 21 = some (.aload_n 0, 1, 0, 0) := by decide +kernel
theorem k193_22 : mj_look (mj_prog 193) 22 = some (.getfield 42, 3, 12, 21) := by decide +kernel
theorem k193_25 : mj_look (mj_prog 193) 25 = some (.iconst 0, 1, 0, 0) := by decide +kernel
theorem k193_26 : mj_look (mj_prog 193) 26 = some (.iconst 0, 1, 0, 0) := by decide +kernel
theorem k193_27 : mj_look (mj_prog 193) 27 = some (.bastore, 1, 0, 0) := by decide +kernel
theorem k193_28 : mj_look (mj_prog 193) 28 = some (.iload_n 3, 1, 0, 0) := by decide +kernel
theorem k193_29 : mj_look (mj_prog 193) 29 = some (.ifCond .ne 10, 3, 39, 0) := by decide +kernel
theorem k193_32 : mj_look (mj_prog 193) 32 = some (.aload_n 0, 1, 0, 0) := by decide +kernel
theorem k193_33 : mj_look (mj_prog 193) 33 = some (.getfield 189, 3, 12, 10) := by decide +kernel
theorem k193_36 : mj_look (mj_prog 193) 36 = some (.ifCond .eq 309, 3, 345, 0) := by decide +kernel
theorem k193_39 : mj_look (mj_prog 193) 39 = some (.iload_n 3, 1, 0, 0) := by decide +kernel
theorem k193_40 : mj_look (mj_prog 193) 40 = some (.ifCond .eq 140, 3, 180, 0) := by decide +kernel
theorem k193_43 : mj_look (mj_prog 193) 43 = some (.aload_n 0, 1, 0, 0) := by decide +kernel
theorem k193_44 : mj_look (mj_prog 193) 44 = some (.getfield 189, 3, 12, 10) := by decide +kernel
theorem k193_47 : mj_look (mj_prog 193) 47 = some (.iconst 3, 1, 0, 0) := by decide +kernel
theorem k193_48 : mj_look (mj_prog 193) 48 = some (.if_icmp .ne 49, 3, 97, 0) := by decide +kernel
theorem k193_51 : mj_look (mj_prog 193) 51 = some (.aload_n 0, 1, 0, 0) := by decide +kernel
theorem k193_52 : mj_look (mj_prog 193) 52 = some (.getfield 195, 3, 12, 11) := by decide +kernel
theorem k193_55 : mj_look (mj_prog 193) 55 = some (.bipush 33, 2, 0, 0) := by decide +kernel
theorem k193_57 : mj_look (mj_prog 193) 57 = some (.if_icmp .ne 40, 3, 97, 0) := by decide +kernel
theorem k193_60 : mj_look (mj_prog 193) 60 = some (.iload_n 2, 1, 0, 0) := by decide +kernel
theorem k193_61 : mj_look (mj_prog 193) 61 = some (.bipush 8, 2, 0, 0) := by decide +kernel
theorem k193_63 : mj_look (mj_prog 193) 63 = some (.if_icmp .ge 34, 3, 97, 0) := by decide +kernel
theorem k193_66 : mj_look (mj_prog 193) 66 = some (.aload_n 0, 1, 0, 0) := by decide +kernel
theorem k193_67 : mj_look (mj_prog 193) 67 = some (.getfield 39, 3, 12, 19) := by decide +kernel
theorem k193_70 : mj_look (mj_prog 193) 70 = some (.aload_n 0, 1, 0, 0) := by decide +kernel
theorem k193_71 : mj_look (mj_prog 193) 71 = some (.getfield 207, 3, 12, 20) := by decide +kernel
theorem k193_74 : mj_look (mj_prog 193) 74 = some (.bipush (-10), 2, 0, 0) := by decide +kernel
theorem k193_76 : mj_look (mj_prog 193) 76 = some (.iastore, 1, 0, 0) := by decide +kernel
theorem k193_77 : mj_look (mj_prog 193) 77 = some (.aload_n 0, 1, 0, 0) := by decide +kernel
theorem k193_78 : mj_look (mj_prog 193) 78 = some (.dup, 1, 0, 0) := by decide +kernel
theorem k193_79 : mj_look (mj_prog 193) 79 = some (.getfield 207, 3, 12, 20) := by decide +kernel
theorem k193_82 : mj_look (mj_prog 193) 82 = some (.iconst 1, 1, 0, 0) := by decide +kernel
theorem k193_83 : mj_look (mj_prog 193) 83 = some (.iadd, 1, 0, 0) := by decide +kernel
theorem k193_84 : mj_look (mj_prog 193) 84 = some (.putfield 207, 3, 12, 20) := by decide +kernel
theorem k193_87 : mj_look (mj_prog 193) 87 = some (.iinc 2 1, 3, 0, 0) := by decide +kernel
theorem k193_90 : mj_look (mj_prog 193) 90 = some (.aload_n 0, 1, 0, 0) := by decide +kernel
theorem k193_91 : mj_look (mj_prog 193) 91 = some (.invokevirtual 204, 3, 189, 0) := by decide +kernel
theorem k193_94 : mj_look (mj_prog 193) 94 = some (.goto 78, 3, 172, 0) := by decide +kernel
theorem k193_97 : mj_look (mj_prog 193) 97 = some (.aload_n 0, 1, 0, 0) := by decide +kernel
theorem k193_98 : mj_look (mj_prog 193) 98 = some (.getfield 189, 3, 12, 10) := by decide +kernel
theorem k193_101 : mj_look (mj_prog 193) 101 = some (.iconst 3, 1, 0, 0) := by decide +kernel
theorem k193_102 : mj_look (mj_prog 193) 102 = some (.if_icmp .ne 56, 3, 158, 0) := by decide +kernel
theorem k193_105 : mj_look (mj_prog 193) 105 = some (.aload_n 0, 1, 0, 0) := by decide +kernel
theorem k193_106 : mj_look (mj_prog 193) 106 = some (.getfield 195, 3, 12, 11) := by decide +kernel
theorem k193_109 : mj_look (mj_prog 193) 109 = some (.bipush 40, 2, 0, 0) := by decide +kernel
theorem k193_111 : mj_look (mj_prog 193) 111 = some (.if_icmp .ne 47, 3, 158, 0) := by decide +kernel
theorem k193_114 : mj_look (mj_prog 193) 114 = some (.iload_n 1, 1, 0, 0) := by decide +kernel
theorem k193_115 : mj_look (mj_prog 193) 115 = some (.bipush 8, 2, 0, 0) := by decide +kernel
theorem k193_117 : mj_look (mj_prog 193) 117 = some (.if_icmp .ge 41, 3, 158, 0) := by decide +kernel
theorem k193_120 : mj_look (mj_prog 193) 120 = some (.aload_n 0, 1, 0, 0) := by decide +kernel
theorem k193_121 : mj_look (mj_prog 193) 121 = some (.getfield 39, 3, 12, 19) := by decide +kernel
theorem k193_124 : mj_look (mj_prog 193) 124 = some (.aload_n 0, 1, 0, 0) := by decide +kernel
theorem k193_125 : mj_look (mj_prog 193) 125 = some (.getfield 207, 3, 12, 20) := by decide +kernel
theorem k193_128 : mj_look (mj_prog 193) 128 = some (.bipush (-11), 2, 0, 0) := by decide +kernel
theorem k193_130 : mj_look (mj_prog 193) 130 = some (.iastore, 1, 0, 0) := by decide +kernel
theorem k193_131 : mj_look (mj_prog 193) 131 = some (.aload_n 0, 1, 0, 0) := by decide +kernel
theorem k193_132 : mj_look (mj_prog 193) 132 = some (.dup, 1, 0, 0) := by decide +kernel
theorem k193_133 : mj_look (mj_prog 193) 133 = some (.getfield 207, 3, 12, 20) := by decide +kernel
theorem k193_136 : mj_look (mj_prog 193) 136 = some (.iconst 1, 1, 0, 0) := by decide +kernel
theorem k193_137 : mj_look (mj_prog 193) 137 = some (.iadd, 1, 0, 0) := by decide +kernel
theorem k193_138 : mj_look (mj_prog 193) 138 = some (.putfield 207, 3, 12, 20) := by decide +kernel
theorem k193_141 : mj_look (mj_prog 193) 141 = some (.iinc 1 1, 3, 0, 0) := by decide +kernel
theorem k193_144 : mj_look (mj_prog 193) 144 = some (.aload_n 0, 1, 0, 0) := by decide +kernel
theorem k193_145 : mj_look (mj_prog 193) 145 = some (.getfield 42, 3, 12, 21) := by decide +kernel
theorem k193_148 : mj_look (mj_prog 193) 148 = some (.iload_n 1, 1, 0, 0) := by decide +kernel
theorem k193_149 : mj_look (mj_prog 193) 149 = some (.iconst 0, 1, 0, 0) := by decide +kernel
theorem k193_150 : mj_look (mj_prog 193) 150 = some (.bastore, 1, 0, 0) := by decide +kernel
theorem k193_151 : mj_look (mj_prog 193) 151 = some (.aload_n 0, 1, 0, 0) := by decide +kernel
theorem k193_152 : mj_look (mj_prog 193) 152 = some (.invokevirtual 204, 3, 189, 0) := by decide +kernel
theorem k193_155 : mj_look (mj_prog 193) 155 = some (.goto 17, 3, 172, 0) := by decide +kernel
theorem k193_158 : mj_look (mj_prog 193) 158 = some (.aload_n 0, 1, 0, 0) := by decide +kernel
theorem k193_159 : mj_look (mj_prog 193) 159 = some (.invokevirtual 225, 3, 194, 0) := by decide +kernel
theorem k193_162 : mj_look (mj_prog 193) 162 = some (.ifCond .eq 8, 3, 170, 0) := by decide +kernel
theorem k193_165 : mj_look (mj_prog 193) 165 = some (.iconst 0, 1, 0, 0) := by decide +kernel
theorem k193_166 : mj_look (mj_prog 193) 166 = some (.istore_n 3, 1, 0, 0) := by decide +kernel
theorem k193_167 : mj_look (mj_prog 193) 167 = some (.goto 5, 3, 172, 0) := by decide +kernel
theorem k193_170 : mj_look (mj_prog 193) 170 = some (.iconst 0, 1, 0, 0) := by decide +kernel
theorem k193_171 : mj_look (mj_prog 193) 171 = some (.ireturn, 1, 0, 0) := by decide +kernel
theorem k193_172 : mj_look (mj_prog 193) 172 = some (.aload_n 0, 1, 0, 0) := by decide +kernel
theorem k193_173 : mj_look (mj_prog 193) 173 = some (.invokevirtual 229, 3, 198, 0) := by decide +kernel
theorem k193_176 : mj_look (mj_prog 193) 176 = some (.istore_n 2, 1, 0, 0) := by decide +kernel
theorem k193_177 : mj_look (mj_prog 193) 177 = some (.goto (-149), 3, 28, 0) := by decide +kernel
theorem k193_180 : mj_look (mj_prog 193) 180 = some (.aload_n 0, 1, 0, 0) := by decide +kernel
theorem k193_181 : mj_look (mj_prog 193) 181 = some (.getfield 189, 3, 12, 10) := by decide +kernel
theorem k193_184 : mj_look (mj_prog 193) 184 = some (.iconst 3, 1, 0, 0) := by decide +kernel
theorem k193_185 : mj_look (mj_prog 193) 185 = some (.if_icmp .ne 52, 3, 237, 0) := by decide +kernel
theorem k193_188 : mj_look (mj_prog 193) 188 = some (.aload_n 0, 1, 0, 0) := by decide +kernel
theorem k193_189 : mj_look (mj_prog 193) 189 = some (.getfield 195, 3, 12, 11) := by decide +kernel
theorem k193_192 : mj_look (mj_prog 193) 192 = some (.bipush 41, 2, 0, 0) := by decide +kernel
theorem k193_194 : mj_look (mj_prog 193) 194 = some (.if_icmp .ne 43, 3, 237, 0) := by decide +kernel
theorem k193_197 : mj_look (mj_prog 193) 197 = some (.iload_n 1, 1, 0, 0) := by decide +kernel
theorem k193_198 : mj_look (mj_prog 193) 198 = some (.ifCond .le 39, 3, 237, 0) := by decide +kernel
theorem k193_201 : mj_look (mj_prog 193) 201 = some (.aload_n 0, 1, 0, 0) := by decide +kernel
theorem k193_202 : mj_look (mj_prog 193) 202 = some (.iconst 0, 1, 0, 0) := by decide +kernel
theorem k193_203 : mj_look (mj_prog 193) 203 = some (.invokevirtual 222, 3, 196, 1) := by decide +kernel
theorem k193_206 : mj_look (mj_prog 193) 206 = some (.aload_n 0, 1, 0, 0) := by decide +kernel
theorem k193_207 : mj_look (mj_prog 193) 207 = some (.dup, 1, 0, 0) := by decide +kernel
theorem k193_208 : mj_look (mj_prog 193) 208 = some (.getfield 207, 3, 12, 20) := by decide +kernel
theorem k193_211 : mj_look (mj_prog 193) 211 = some (.iconst 1, 1, 0, 0) := by decide +kernel
theorem k193_212 : mj_look (mj_prog 193) 212 = some (.isub, 1, 0, 0) := by decide +kernel
theorem k193_213 : mj_look (mj_prog 193) 213 = some (.putfield 207, 3, 12, 20) := by decide +kernel
theorem k193_216 : mj_look (mj_prog 193) 216 = some (.iinc 1 (-1), 3, 0, 0) := by decide +kernel
theorem k193_219 : mj_look (mj_prog 193) 219 = some (.aload_n 0, 1, 0, 0) := by decide +kernel
theorem k193_220 : mj_look (mj_prog 193) 220 = some (.bipush 6, 2, 0, 0) := by decide +kernel
theorem k193_222 : mj_look (mj_prog 193) 222 = some (.invokevirtual 222, 3, 196, 1) := by decide +kernel
theorem k193_225 : mj_look (mj_prog 193) 225 = some (.aload_n 0, 1, 0, 0) := by decide +kernel
theorem k193_226 : mj_look (mj_prog 193) 226 = some (.invokevirtual 229, 3, 198, 0) := by decide +kernel
theorem k193_229 : mj_look (mj_prog 193) 229 = some (.istore_n 2, 1, 0, 0) := by decide +kernel
theorem k193_230 : mj_look (mj_prog 193) 230 = some (.aload_n 0, 1, 0, 0) := by decide +kernel
theorem k193_231 : mj_look (mj_prog 193) 231 = some (.invokevirtual 204, 3, 189, 0) := by decide +kernel
theorem k193_234 : mj_look (mj_prog 193) 234 = some (.goto (-206), 3, 28, 0) := by decide +kernel
theorem k193_237 : mj_look (mj_prog 193) 237 = some (.aload_n 0, 1, 0, 0) := by decide +kernel
theorem k193_238 : mj_look (mj_prog 193) 238 = some (.invokevirtual 232, 3, 199, 0) := by decide +kernel
theorem k193_241 : mj_look (mj_prog 193) 241 = some (.istore 4, 2, 0, 0) := by decide +kernel
theorem k193_243 : mj_look (mj_prog 193) 243 = some (.iload 4, 2, 0, 0) := by decide +kernel
theorem k193_245 : mj_look (mj_prog 193) 245 = some (.ifCond .eq 21, 3, 266, 0) := by decide +kernel
theorem k193_248 : mj_look (mj_prog 193) 248 = some (.iload 4, 2, 0, 0) := by decide +kernel
theorem k193_250 : mj_look (mj_prog 193) 250 = some (.invokestatic 210, 3, 197, 1) := by decide +kernel
theorem k193_253 : mj_look (mj_prog 193) 253 = some (.iconst 3, 1, 0, 0) := by decide +kernel
theorem k193_254 : mj_look (mj_prog 193) 254 = some (.if_icmp .ne 14, 3, 268, 0) := by decide +kernel
theorem k193_257 : mj_look (mj_prog 193) 257 = some (.aload_n 0, 1, 0, 0) := by decide +kernel
theorem k193_258 : mj_look (mj_prog 193) 258 = some (.getfield 42, 3, 12, 21) := by decide +kernel
theorem k193_261 : mj_look (mj_prog 193) 261 = some (.iload_n 1, 1, 0, 0) := by decide +kernel
theorem k193_262 : mj_look (mj_prog 193) 262 = some (.baload, 1, 0, 0) := by decide +kernel
theorem k193_263 : mj_look (mj_prog 193) 263 = some (.ifCond .eq 5, 3, 268, 0) := by decide +kernel
theorem k193_266 : mj_look (mj_prog 193) 266 = some (.iconst 0, 1, 0, 0) := by decide +kernel
theorem k193_267 : mj_look (mj_prog 193) 267 = some (.ireturn, 1, 0, 0) := by decide +kernel
theorem k193_268 : mj_look (mj_prog 193) 268 = some (.aload_n 0, 1, 0, 0) := by decide +kernel
theorem k193_269 : mj_look (mj_prog 193) 269 = some (.getfield 42, 3, 12, 21) := by decide +kernel
theorem k193_272 : mj_look (mj_prog 193) 272 = some (.iload_n 1, 1, 0, 0) := by decide +kernel
theorem k193_273 : mj_look (mj_prog 193) 273 = some (.iload 4, 2, 0, 0) := by decide +kernel
theorem k193_275 : mj_look (mj_prog 193) 275 = some (.invokestatic 210, 3, 197, 1) := by decide +kernel
theorem k193_278 : mj_look (mj_prog 193) 278 = some (.iconst 3, 1, 0, 0) := by decide +kernel
theorem k193_279 : mj_look (mj_prog 193) 279 = some (.if_icmp .eq 21, 3, 300, 0) := by decide +kernel
theorem k193_282 : mj_look (mj_prog 193) 282 = some (.iload 4, 2, 0, 0) := by decide +kernel
theorem k193_284 : mj_look (mj_prog 193) 284 = some (.invokestatic 210, 3, 197, 1) := by decide +kernel
theorem k193_287 : mj_look (mj_prog 193) 287 = some (.iconst 3, 1, 0, 0) := by decide +kernel
theorem k193_288 : mj_look (mj_prog 193) 288 = some (.if_icmp .le 16, 3, 304, 0) := by decide +kernel
theorem k193_291 : mj_look (mj_prog 193) 291 = some (.aload_n 0, 1, 0, 0) := by decide +kernel
theorem k193_292 : mj_look (mj_prog 193) 292 = some (.getfield 42, 3, 12, 21) := by decide +kernel
theorem k193_295 : mj_look (mj_prog 193) 295 = some (.iload_n 1, 1, 0, 0) := by decide +kernel
theorem k193_296 : mj_look (mj_prog 193) 296 = some (.baload, 1, 0, 0) := by decide +kernel
theorem k193_297 : mj_look (mj_prog 193) 297 = some (.ifCond .eq 7, 3, 304, 0) := by decide +kernel
theorem k193_300 : mj_look (mj_prog 193) 300 = some (.iconst 1, 1, 0, 0) := by decide +kernel
theorem k193_301 : mj_look (mj_prog 193) 301 = some (.goto 4, 3, 305, 0) := by decide +kernel
theorem k193_304 : mj_look (mj_prog 193) 304 = some (.iconst 0, 1, 0, 0) := by decide +kernel
theorem k193_305 : mj_look (mj_prog 193) 305 = some (.bastore, 1, 0, 0) := by decide +kernel
theorem k193_306 : mj_look (mj_prog 193) 306 = some (.aload_n 0, 1, 0, 0) := by decide +kernel
theorem k193_307 : mj_look (mj_prog 193) 307 = some (.iload 4, 2, 0, 0) := by decide +kernel
theorem k193_309 : mj_look (mj_prog 193) 309 = some (.invokestatic 210, 3, 197, 1) := by decide +kernel
theorem k193_312 : mj_look (mj_prog 193) 312 = some (.invokevirtual 222, 3, 196, 1) := by decide +kernel
theorem k193_315 : mj_look (mj_prog 193) 315 = some (.aload_n 0, 1, 0, 0) := by decide +kernel
theorem k193_316 : mj_look (mj_prog 193) 316 = some (.getfield 39, 3, 12, 19) := by decide +kernel
theorem k193_319 : mj_look (mj_prog 193) 319 = some (.aload_n 0, 1, 0, 0) := by decide +kernel
theorem k193_320 : mj_look (mj_prog 193) 320 = some (.getfield 207, 3, 12, 20) := by decide +kernel
theorem k193_323 : mj_look (mj_prog 193) 323 = some (.iload 4, 2, 0, 0) := by decide +kernel
theorem k193_325 : mj_look (mj_prog 193) 325 = some (.iastore, 1, 0, 0) := by decide +kernel
theorem k193_326 : mj_look (mj_prog 193) 326 = some (.aload_n 0, 1, 0, 0) := by decide +kernel
theorem k193_327 : mj_look (mj_prog 193) 327 = some (.dup, 1, 0, 0) := by decide +kernel
theorem k193_328 : mj_look (mj_prog 193) 328 = some (.getfield 207, 3, 12, 20) := by decide +kernel
theorem k193_331 : mj_look (mj_prog 193) 331 = some (.iconst 1, 1, 0, 0) := by decide +kernel
theorem k193_332 : mj_look (mj_prog 193) 332 = some (.iadd, 1, 0, 0) := by decide +kernel
theorem k193_333 : mj_look (mj_prog 193) 333 = some (.putfield 207, 3, 12, 20) := by decide +kernel
theorem k193_336 : mj_look (mj_prog 193) 336 = some (.iconst 1, 1, 0, 0) := by decide +kernel
theorem k193_337 : mj_look (mj_prog 193) 337 = some (.istore_n 3, 1, 0, 0) := by decide +kernel
theorem k193_338 : mj_look (mj_prog 193) 338 = some (.aload_n 0, 1, 0, 0) := by decide +kernel
theorem k193_339 : mj_look (mj_prog 193) 339 = some (.invokevirtual 204, 3, 189, 0) := by decide +kernel
theorem k193_342 : mj_look (mj_prog 193) 342 = some (.goto (-314), 3, 28, 0) := by decide +kernel
theorem k193_345 : mj_look (mj_prog 193) 345 = some (.aload_n 0, 1, 0, 0) := by decide +kernel
theorem k193_346 : mj_look (mj_prog 193) 346 = some (.iconst 0, 1, 0, 0) := by decide +kernel
theorem k193_347 : mj_look (mj_prog 193) 347 = some (.invokevirtual 222, 3, 196, 1) := by decide +kernel
theorem k193_350 : mj_look (mj_prog 193) 350 = some (.iload_n 1, 1, 0, 0) := by decide +kernel
theorem k193_351 : mj_look (mj_prog 193) 351 = some (.ifCond .ne 7, 3, 358, 0) := by decide +kernel
theorem k193_354 : mj_look (mj_prog 193) 354 = some (.iconst 1, 1, 0, 0) := by decide +kernel
theorem k193_355 : mj_look (mj_prog 193) 355 = some (.goto 4, 3, 359, 0) := by decide +kernel
theorem k193_358 : mj_look (mj_prog 193) 358 = some (.iconst 0, 1, 0, 0) := by decide +kernel
theorem k193_359 : mj_look (mj_prog 193) 359 = some (.ireturn, 1, 0, 0) := by decide +kernel
theorem mx_194 : (mj_m 194).2.2.1 = 2 := by decide +kernel
theorem rt_194 : (mj_m 194).2.2.2.1 = (some FieldType.boolean) := by decide +kernel
theorem dp_194 : mj_disp 194 12 = some 194 := by decide +kernel
theorem pq_194 : mj_prog 194 = mj_p194 := rfl
theorem k194_0 : mj_look (mj_prog 194) 0 = some (.aload_n 0, 1, 0, 0) := by decide +kernel
theorem k194_1 : mj_look (mj_prog 194) 1 = some (.getfield 189, 3, 12, 10) := by decide +kernel
theorem k194_4 : mj_look (mj_prog 194) 4 = some (.iconst 1, 1, 0, 0) := by decide +kernel
theorem k194_5 : mj_look (mj_prog 194) 5 = some (.if_icmp .ne 31, 3, 36, 0) := by decide +kernel
theorem k194_8 : mj_look (mj_prog 194) 8 = some (.aload_n 0, 1, 0, 0) := by decide +kernel
theorem k194_9 : mj_look (mj_prog 194) 9 = some (.getfield 180, 3, 12, 8) := by decide +kernel
theorem k194_12 : mj_look (mj_prog 194) 12 = some (.aload_n 0, 1, 0, 0) := by decide +kernel
theorem k194_13 : mj_look (mj_prog 194) 13 = some (.getfield 183, 3, 12, 9) := by decide +kernel
theorem k194_16 : mj_look (mj_prog 194) 16 = some (.isub, 1, 0, 0) := by decide +kernel
theorem k194_17 : mj_look (mj_prog 194) 17 = some (.iconst 1, 1, 0, 0) := by decide +kernel
theorem k194_18 : mj_look (mj_prog 194) 18 = some (.if_icmp .ne 18, 3, 36, 0) := by decide +kernel
theorem k194_21 : mj_look (mj_prog 194) 21 = some (.aload_n 0, 1, 0, 0) := by decide +kernel
theorem k194_22 : mj_look (mj_prog 194) 22 = some (.aload_n 0, 1, 0, 0) := by decide +kernel
theorem k194_23 : mj_look (mj_prog 194) 23 = some (.getfield 195, 3, 12, 11) := by decide +kernel
theorem k194_26 : mj_look (mj_prog 194) 26 = some (.invokevirtual 216, 3, 195, 1) := by decide +kernel
theorem k194_29 : mj_look (mj_prog 194) 29 = some (.ifCond .lt 7, 3, 36, 0) := by decide +kernel
theorem k194_32 : mj_look (mj_prog 194) 32 = some (.iconst 1, 1, 0, 0) := by decide +kernel
theorem k194_33 : mj_look (mj_prog 194) 33 = some (.goto 4, 3, 37, 0) := by decide +kernel
theorem k194_36 : mj_look (mj_prog 194) 36 = some (.iconst 0, 1, 0, 0) := by decide +kernel
theorem k194_37 : mj_look (mj_prog 194) 37 = some (.istore_n 1, 1, 0, 0) := by decide +kernel
theorem k194_38 : mj_look (mj_prog 194) 38 = some (.aload_n 0, 1, 0, 0) := by decide +kernel
theorem k194_39 : mj_look (mj_prog 194) 39 = some (.getfield 189, 3, 12, 10) := by decide +kernel
theorem k194_42 : mj_look (mj_prog 194) 42 = some (.iconst 2, 1, 0, 0) := by decide +kernel
theorem k194_43 : mj_look (mj_prog 194) 43 = some (.if_icmp .eq 9, 3, 52, 0) := by decide +kernel
theorem k194_46 : mj_look (mj_prog 194) 46 = some (.iload_n 1, 1, 0, 0) := by decide +kernel
theorem k194_47 : mj_look (mj_prog 194) 47 = some (.ifCond .ne 5, 3, 52, 0) := by decide +kernel
theorem k194_50 : mj_look (mj_prog 194) 50 = some (.iconst 0, 1, 0, 0) := by decide +kernel
theorem k194_51 : mj_look (mj_prog 194) 51 = some (.ireturn, 1, 0, 0) := by decide +kernel
theorem k194_52 : mj_look (mj_prog 194) 52 = some (.aload_n 0, 1, 0, 0) := by decide +kernel
theorem k194_53 : mj_look (mj_prog 194) 53 = some (.getfield 36, 3, 12, 16) := by decide +kernel
theorem k194_56 : mj_look (mj_prog 194) 56 = some (.aload_n 0, 1, 0, 0) := by decide +kernel
theorem k194_57 : mj_look (mj_prog 194) 57 = some (.getfield 213, 3, 12, 17) := by decide +kernel
theorem k194_60 : mj_look (mj_prog 194) 60 = some (.aload_n 0, 1, 0, 0) := by decide +kernel
theorem k194_61 : mj_look (mj_prog 194) 61 = some (.getfield 189, 3, 12, 10) := by decide +kernel
theorem k194_64 : mj_look (mj_prog 194) 64 = some (.iconst 2, 1, 0, 0) := by decide +kernel
theorem k194_65 : mj_look (mj_prog 194) 65 = some (.if_icmp .ne 10, 3, 75, 0) := by decide +kernel
theorem k194_68 : mj_look (mj_prog 194) 68 = some (.aload_n 0, 1, 0, 0) := by decide +kernel
theorem k194_69 : mj_look (mj_prog 194) 69 = some (.getfield 195, 3, 12, 11) := by decide +kernel
theorem k194_72 : mj_look (mj_prog 194) 72 = some (.goto 15, 3, 87, 0) := by decide +kernel
theorem k194_75 : mj_look (mj_prog 194) 75 = some (.sipush 10000, 3, 0, 0) := by decide +kernel
theorem k194_78 : mj_look (mj_prog 194) 78 = some (.aload_n 0, 1, 0, 0) := by decide +kernel
theorem k194_79 : mj_look (mj_prog 194) 79 = some (.aload_n 0, 1, 0, 0) := by decide +kernel
theorem k194_80 : mj_look (mj_prog 194) 80 = some (.getfield 195, 3, 12, 11) := by decide +kernel
theorem k194_83 : mj_look (mj_prog 194) 83 = some (.invokevirtual 216, 3, 195, 1) := by decide +kernel
theorem k194_86 : mj_look (mj_prog 194) 86 = some (.iadd, 1, 0, 0) := by decide +kernel
theorem k194_87 : mj_look (mj_prog 194) 87 = some (.iastore, 1, 0, 0) := by decide +kernel
theorem k194_88 : mj_look (mj_prog 194) 88 = some (.aload_n 0, 1, 0, 0) := by decide +kernel
theorem k194_89 : mj_look (mj_prog 194) 89 = some (.dup, 1, 0, 0) := by decide +kernel
theorem k194_90 : mj_look (mj_prog 194) 90 = some (.getfield 213, 3, 12, 17) := by decide +kernel
theorem k194_93 : mj_look (mj_prog 194) 93 = some (.iconst 1, 1, 0, 0) := by decide +kernel
theorem k194_94 : mj_look (mj_prog 194) 94 = some (.iadd, 1, 0, 0) := by decide +kernel
theorem k194_95 : mj_look (mj_prog 194) 95 = some (.putfield 213, 3, 12, 17) := by decide +kernel
theorem k194_98 : mj_look (mj_prog 194) 98 = some (.aload_n 0, 1, 0, 0) := by decide +kernel
theorem k194_99 : mj_look (mj_prog 194) 99 = some (.dup, 1, 0, 0) := by decide +kernel
theorem k194_100 : mj_look (mj_prog 194) 100 = some (.getfield 219, 3, 12, 18) := by decide +kernel
theorem k194_103 : mj_look (mj_prog 194) 103 = some (.iconst 1, 1, 0, 0) := by decide +kernel
theorem k194_104 : mj_look (mj_prog 194) 104 = some (.iadd, 1, 0, 0) := by decide +kernel
theorem k194_105 : mj_look (mj_prog 194) 105 = some (.putfield 219, 3, 12, 18) := by decide +kernel
theorem k194_108 : mj_look (mj_prog 194) 108 = some (.aload_n 0, 1, 0, 0) := by decide +kernel
theorem k194_109 : mj_look (mj_prog 194) 109 = some (.bipush 6, 2, 0, 0) := by decide +kernel
theorem k194_111 : mj_look (mj_prog 194) 111 = some (.invokevirtual 222, 3, 196, 1) := by decide +kernel
theorem k194_114 : mj_look (mj_prog 194) 114 = some (.aload_n 0, 1, 0, 0) := by decide +kernel
theorem k194_115 : mj_look (mj_prog 194) 115 = some (.invokevirtual 204, 3, 189, 0) := by decide +kernel
theorem k194_118 : mj_look (mj_prog 194) 118 = some (.iconst 1, 1, 0, 0) := by decide +kernel
theorem k194_119 : mj_look (mj_prog 194) 119 = some (.ireturn, 1, 0, 0) := by decide +kernel
theorem mx_195 : (mj_m 195).2.2.1 = 2 := by decide +kernel
theorem rt_195 : (mj_m 195).2.2.2.1 = (some FieldType.int) := by decide +kernel
theorem dp_195 : mj_disp 195 12 = some 195 := by decide +kernel
theorem pq_195 : mj_prog 195 = mj_p195 := rfl
theorem k195_0 : mj_look (mj_prog 195) 0 = some (.aload_n 0, 1, 0, 0) := by decide +kernel
theorem k195_1 : mj_look (mj_prog 195) 1 = some (.getfield 201, 3, 12, 13) := by decide +kernel
theorem k195_4 : mj_look (mj_prog 195) 4 = some (.lookupswitch 82 #[(0, 28), (1, 60)], 28, 0, 0) := by decide +kernel
theorem k195_32 : mj_look (mj_prog 195) 32 = some (.iload_n 1, 1, 0, 0) := by decide +kernel
theorem k195_33 : mj_look (mj_prog 195) 33 = some (.bipush 119, 2, 0, 0) := by decide +kernel
theorem k195_35 : mj_look (mj_prog 195) 35 = some (.if_icmp .ne 7, 3, 42, 0) := by decide +kernel
theorem k195_38 : mj_look (mj_prog 195) 38 = some (.iconst 0, 1, 0, 0) := by decide +kernel
theorem k195_39 : mj_look (mj_prog 195) 39 = some (.goto 24, 3, 63, 0) := by decide +kernel
theorem k195_42 : mj_look (mj_prog 195) 42 = some (.iload_n 1, 1, 0, 0) := by decide +kernel
theorem k195_43 : mj_look (mj_prog 195) 43 = some (.bipush 114, 2, 0, 0) := by decide +kernel
theorem k195_45 : mj_look (mj_prog 195) 45 = some (.if_icmp .ne 7, 3, 52, 0) := by decide +kernel
theorem k195_48 : mj_look (mj_prog 195) 48 = some (.iconst 1, 1, 0, 0) := by decide +kernel
theorem k195_49 : mj_look (mj_prog 195) 49 = some (.goto 14, 3, 63, 0) := by decide +kernel
theorem k195_52 : mj_look (mj_prog 195) 52 = some (.iload_n 1, 1, 0, 0) := by decide +kernel
theorem k195_53 : mj_look (mj_prog 195) 53 = some (.bipush 98, 2, 0, 0) := by decide +kernel
theorem k195_55 : mj_look (mj_prog 195) 55 = some (.if_icmp .ne 7, 3, 62, 0) := by decide +kernel
theorem k195_58 : mj_look (mj_prog 195) 58 = some (.iconst 2, 1, 0, 0) := by decide +kernel
theorem k195_59 : mj_look (mj_prog 195) 59 = some (.goto 4, 3, 63, 0) := by decide +kernel
theorem k195_62 : mj_look (mj_prog 195) 62 = some (.iconst (-1), 1, 0, 0) := by decide +kernel
theorem k195_63 : mj_look (mj_prog 195) 63 = some (.ireturn, 1, 0, 0) := by decide +kernel
theorem k195_64 : mj_look (mj_prog 195) 64 = some (.iload_n 1, 1, 0, 0) := by decide +kernel
theorem k195_65 : mj_look (mj_prog 195) 65 = some (.bipush 115, 2, 0, 0) := by decide +kernel
theorem k195_67 : mj_look (mj_prog 195) 67 = some (.if_icmp .ne 7, 3, 74, 0) := by decide +kernel
theorem k195_70 : mj_look (mj_prog 195) 70 = some (.iconst 0, 1, 0, 0) := by decide +kernel
theorem k195_71 : mj_look (mj_prog 195) 71 = some (.goto 14, 3, 85, 0) := by decide +kernel
theorem k195_74 : mj_look (mj_prog 195) 74 = some (.iload_n 1, 1, 0, 0) := by decide +kernel
theorem k195_75 : mj_look (mj_prog 195) 75 = some (.bipush 116, 2, 0, 0) := by decide +kernel
theorem k195_77 : mj_look (mj_prog 195) 77 = some (.if_icmp .ne 7, 3, 84, 0) := by decide +kernel
theorem k195_80 : mj_look (mj_prog 195) 80 = some (.iconst 1, 1, 0, 0) := by decide +kernel
theorem k195_81 : mj_look (mj_prog 195) 81 = some (.goto 4, 3, 85, 0) := by decide +kernel
theorem k195_84 : mj_look (mj_prog 195) 84 = some (.iconst (-1), 1, 0, 0) := by decide +kernel
theorem k195_85 : mj_look (mj_prog 195) 85 = some (.ireturn, 1, 0, 0) := by decide +kernel
theorem k195_86 : mj_look (mj_prog 195) 86 = some (.iload_n 1, 1, 0, 0) := by decide +kernel
theorem k195_87 : mj_look (mj_prog 195) 87 = some (.bipush 102, 2, 0, 0) := by decide +kernel
theorem k195_89 : mj_look (mj_prog 195) 89 = some (.if_icmp .ne 7, 3, 96, 0) := by decide +kernel
theorem k195_92 : mj_look (mj_prog 195) 92 = some (.iconst 0, 1, 0, 0) := by decide +kernel
theorem k195_93 : mj_look (mj_prog 195) 93 = some (.goto 14, 3, 107, 0) := by decide +kernel
theorem k195_96 : mj_look (mj_prog 195) 96 = some (.iload_n 1, 1, 0, 0) := by decide +kernel
theorem k195_97 : mj_look (mj_prog 195) 97 = some (.bipush 109, 2, 0, 0) := by decide +kernel
theorem k195_99 : mj_look (mj_prog 195) 99 = some (.if_icmp .ne 7, 3, 106, 0) := by decide +kernel
theorem k195_102 : mj_look (mj_prog 195) 102 = some (.iconst 1, 1, 0, 0) := by decide +kernel
theorem k195_103 : mj_look (mj_prog 195) 103 = some (.goto 4, 3, 107, 0) := by decide +kernel
theorem k195_106 : mj_look (mj_prog 195) 106 = some (.iconst (-1), 1, 0, 0) := by decide +kernel
theorem k195_107 : mj_look (mj_prog 195) 107 = some (.ireturn, 1, 0, 0) := by decide +kernel
theorem mx_196 : (mj_m 196).2.2.1 = 2 := by decide +kernel
theorem rt_196 : (mj_m 196).2.2.2.1 = none := by decide +kernel
theorem dp_196 : mj_disp 196 12 = some 196 := by decide +kernel
theorem pq_196 : mj_prog 196 = mj_p196 := rfl
theorem k196_0 : mj_look (mj_prog 196) 0 = some (.aload_n 0, 1, 0, 0) := by decide +kernel
theorem k196_1 : mj_look (mj_prog 196) 1 = some (.getfield 207, 3, 12, 20) := by decide +kernel
theorem k196_4 : mj_look (mj_prog 196) 4 = some (.ifCond .le 78, 3, 82, 0) := by decide +kernel
theorem k196_7 : mj_look (mj_prog 196) 7 = some (.aload_n 0, 1, 0, 0) := by decide +kernel
theorem k196_8 : mj_look (mj_prog 196) 8 = some (.getfield 39, 3, 12, 19) := by decide +kernel
theorem k196_11 : mj_look (mj_prog 196) 11 = some (.aload_n 0, 1, 0, 0) := by decide +kernel
theorem k196_12 : mj_look (mj_prog 196) 12 = some (.getfield 207, 3, 12, 20) := by decide +kernel
theorem k196_15 : mj_look (mj_prog 196) 15 = some (.iconst 1, 1, 0, 0) := by decide +kernel
theorem k196_16 : mj_look (mj_prog 196) 16 = some (.isub, 1, 0, 0) := by decide +kernel
theorem k196_17 : mj_look (mj_prog 196) 17 = some (.iaload, 1, 0, 0) := by decide +kernel
theorem k196_18 : mj_look (mj_prog 196) 18 = some (.bipush (-11), 2, 0, 0) := by decide +kernel
theorem k196_20 : mj_look (mj_prog 196) 20 = some (.if_icmp .eq 62, 3, 82, 0) := by decide +kernel
theorem k196_23 : mj_look (mj_prog 196) 23 = some (.aload_n 0, 1, 0, 0) := by decide +kernel
theorem k196_24 : mj_look (mj_prog 196) 24 = some (.getfield 39, 3, 12, 19) := by decide +kernel
theorem k196_27 : mj_look (mj_prog 196) 27 = some (.aload_n 0, 1, 0, 0) := by decide +kernel
theorem k196_28 : mj_look (mj_prog 196) 28 = some (.getfield 207, 3, 12, 20) := by decide +kernel
theorem k196_31 : mj_look (mj_prog 196) 31 = some (.iconst 1, 1, 0, 0) := by decide +kernel
theorem k196_32 : mj_look (mj_prog 196) 32 = some (.isub, 1, 0, 0) := by decide +kernel
theorem k196_33 : mj_look (mj_prog 196) 33 = some (.iaload, 1, 0, 0) := by decide +kernel
theorem k196_34 : mj_look (mj_prog 196) 34 = some (.invokestatic 210, 3, 197, 1) := by decide +kernel
theorem k196_37 : mj_look (mj_prog 196) 37 = some (.iload_n 1, 1, 0, 0) := by decide +kernel
theorem k196_38 : mj_look (mj_prog 196) 38 = some (.if_icmp .lt 44, 3, 82, 0) := by decide +kernel
theorem k196_41 : mj_look (mj_prog 196) 41 = some (.aload_n 0, 1, 0, 0) := by decide +kernel
theorem k196_42 : mj_look (mj_prog 196) 42 = some (.dup, 1, 0, 0) := by decide +kernel
theorem k196_43 : mj_look (mj_prog 196) 43 = some (.getfield 207, 3, 12, 20) := by decide +kernel
theorem k196_46 : mj_look (mj_prog 196) 46 = some (.iconst 1, 1, 0, 0) := by decide +kernel
theorem k196_47 : mj_look (mj_prog 196) 47 = some (.isub, 1, 0, 0) := by decide +kernel
theorem k196_48 : mj_look (mj_prog 196) 48 = some (.putfield 207, 3, 12, 20) := by decide +kernel
theorem k196_51 : mj_look (mj_prog 196) 51 = some (.aload_n 0, 1, 0, 0) := by decide +kernel
theorem k196_52 : mj_look (mj_prog 196) 52 = some (.getfield 36, 3, 12, 16) := by decide +kernel
theorem k196_55 : mj_look (mj_prog 196) 55 = some (.aload_n 0, 1, 0, 0) := by decide +kernel
theorem k196_56 : mj_look (mj_prog 196) 56 = some (.getfield 213, 3, 12, 17) := by decide +kernel
theorem k196_59 : mj_look (mj_prog 196) 59 = some (.aload_n 0, 1, 0, 0) := by decide +kernel
theorem k196_60 : mj_look (mj_prog 196) 60 = some (.getfield 39, 3, 12, 19) := by decide +kernel
theorem k196_63 : mj_look (mj_prog 196) 63 = some (.aload_n 0, 1, 0, 0) := by decide +kernel
theorem k196_64 : mj_look (mj_prog 196) 64 = some (.getfield 207, 3, 12, 20) := by decide +kernel
theorem k196_67 : mj_look (mj_prog 196) 67 = some (.iaload, 1, 0, 0) := by decide +kernel
theorem k196_68 : mj_look (mj_prog 196) 68 = some (.iastore, 1, 0, 0) := by decide +kernel
theorem k196_69 : mj_look (mj_prog 196) 69 = some (.aload_n 0, 1, 0, 0) := by decide +kernel
theorem k196_70 : mj_look (mj_prog 196) 70 = some (.dup, 1, 0, 0) := by decide +kernel
theorem k196_71 : mj_look (mj_prog 196) 71 = some (.getfield 213, 3, 12, 17) := by decide +kernel
theorem k196_74 : mj_look (mj_prog 196) 74 = some (.iconst 1, 1, 0, 0) := by decide +kernel
theorem k196_75 : mj_look (mj_prog 196) 75 = some (.iadd, 1, 0, 0) := by decide +kernel
theorem k196_76 : mj_look (mj_prog 196) 76 = some (.putfield 213, 3, 12, 17) := by decide +kernel
theorem k196_79 : mj_look (mj_prog 196) 79 = some (.goto (-79), 3, 0, 0) := by decide +kernel
theorem k196_82 : mj_look (mj_prog 196) 82 = some (.return_, 1, 0, 0) := by decide +kernel
theorem mx_197 : (mj_m 197).2.2.1 = 1 := by decide +kernel
theorem rt_197 : (mj_m 197).2.2.2.1 = (some FieldType.int) := by decide +kernel
theorem dp_197 : mj_disp 197 12 = some 197 := by decide +kernel
theorem pq_197 : mj_prog 197 = mj_p197 := rfl
theorem k197_0 : mj_look (mj_prog 197) 0 = some (.iload_n 0, 1, 0, 0) := by decide +kernel
theorem k197_1 : mj_look (mj_prog 197) 1 = some (.iconst (-1), 1, 0, 0) := by decide +kernel
theorem k197_2 : mj_look (mj_prog 197) 2 = some (.if_icmp .ne 7, 3, 9, 0) := by decide +kernel
theorem k197_5 : mj_look (mj_prog 197) 5 = some (.iconst 1, 1, 0, 0) := by decide +kernel
theorem k197_6 : mj_look (mj_prog 197) 6 = some (.goto 45, 3, 51, 0) := by decide +kernel
theorem k197_9 : mj_look (mj_prog 197) 9 = some (.iload_n 0, 1, 0, 0) := by decide +kernel
theorem k197_10 : mj_look (mj_prog 197) 10 = some (.bipush (-2), 2, 0, 0) := by decide +kernel
theorem k197_12 : mj_look (mj_prog 197) 12 = some (.if_icmp .ne 7, 3, 19, 0) := by decide +kernel
theorem k197_15 : mj_look (mj_prog 197) 15 = some (.iconst 2, 1, 0, 0) := by decide +kernel
theorem k197_16 : mj_look (mj_prog 197) 16 = some (.goto 35, 3, 51, 0) := by decide +kernel
theorem k197_19 : mj_look (mj_prog 197) 19 = some (.iload_n 0, 1, 0, 0) := by decide +kernel
theorem k197_20 : mj_look (mj_prog 197) 20 = some (.bipush (-5), 2, 0, 0) := by decide +kernel
theorem k197_22 : mj_look (mj_prog 197) 22 = some (.if_icmp .lt 7, 3, 29, 0) := by decide +kernel
theorem k197_25 : mj_look (mj_prog 197) 25 = some (.iconst 3, 1, 0, 0) := by decide +kernel
theorem k197_26 : mj_look (mj_prog 197) 26 = some (.goto 25, 3, 51, 0) := by decide +kernel
theorem k197_29 : mj_look (mj_prog 197) 29 = some (.iload_n 0, 1, 0, 0) := by decide +kernel
theorem k197_30 : mj_look (mj_prog 197) 30 = some (.bipush (-7), 2, 0, 0) := by decide +kernel
theorem k197_32 : mj_look (mj_prog 197) 32 = some (.if_icmp .lt 7, 3, 39, 0) := by decide +kernel
theorem k197_35 : mj_look (mj_prog 197) 35 = some (.iconst 4, 1, 0, 0) := by decide +kernel
theorem k197_36 : mj_look (mj_prog 197) 36 = some (.goto 15, 3, 51, 0) := by decide +kernel
theorem k197_39 : mj_look (mj_prog 197) 39 = some (.iload_n 0, 1, 0, 0) := by decide +kernel
theorem k197_40 : mj_look (mj_prog 197) 40 = some (.bipush (-9), 2, 0, 0) := by decide +kernel
theorem k197_42 : mj_look (mj_prog 197) 42 = some (.if_icmp .lt 7, 3, 49, 0) := by decide +kernel
theorem k197_45 : mj_look (mj_prog 197) 45 = some (.iconst 5, 1, 0, 0) := by decide +kernel
theorem k197_46 : mj_look (mj_prog 197) 46 = some (.goto 5, 3, 51, 0) := by decide +kernel
theorem k197_49 : mj_look (mj_prog 197) 49 = some (.bipush 6, 2, 0, 0) := by decide +kernel
theorem k197_51 : mj_look (mj_prog 197) 51 = some (.ireturn, 1, 0, 0) := by decide +kernel
theorem mx_198 : (mj_m 198).2.2.1 = 3 := by decide +kernel
theorem rt_198 : (mj_m 198).2.2.2.1 = (some FieldType.int) := by decide +kernel
theorem dp_198 : mj_disp 198 12 = some 198 := by decide +kernel
theorem pq_198 : mj_prog 198 = mj_p198 := rfl
theorem k198_0 : mj_look (mj_prog 198) 0 = some (.iconst 0, 1, 0, 0) := by decide +kernel
theorem k198_1 : mj_look (mj_prog 198) 1 = some (.istore_n 1, 1, 0, 0) := by decide +kernel
theorem k198_2 : mj_look (mj_prog 198) 2 = some (.iconst 0, 1, 0, 0) := by decide +kernel
theorem k198_3 : mj_look (mj_prog 198) 3 = some (.istore_n 2, 1, 0, 0) := by decide +kernel
theorem k198_4 : mj_look (mj_prog 198) 4 = some (.iload_n 2, 1, 0, 0) := by decide +kernel
theorem k198_5 : mj_look (mj_prog 198) 5 = some (.aload_n 0, 1, 0, 0) := by decide +kernel
theorem k198_6 : mj_look (mj_prog 198) 6 = some (.getfield 207, 3, 12, 20) := by decide +kernel
theorem k198_9 : mj_look (mj_prog 198) 9 = some (.if_icmp .ge 28, 3, 37, 0) := by decide +kernel
theorem k198_12 : mj_look (mj_prog 198) 12 = some (.iload_n 1, 1, 0, 0) := by decide +kernel
theorem k198_13 : mj_look (mj_prog 198) 13 = some (.aload_n 0, 1, 0, 0) := by decide +kernel
theorem k198_14 : mj_look (mj_prog 198) 14 = some (.getfield 39, 3, 12, 19) := by decide +kernel
theorem k198_17 : mj_look (mj_prog 198) 17 = some (.iload_n 2, 1, 0, 0) := by decide +kernel
theorem k198_18 : mj_look (mj_prog 198) 18 = some (.iaload, 1, 0, 0) := by decide +kernel
theorem k198_19 : mj_look (mj_prog 198) 19 = some (.bipush (-10), 2, 0, 0) := by decide +kernel
theorem k198_21 : mj_look (mj_prog 198) 21 = some (.if_icmp .ne 7, 3, 28, 0) := by decide +kernel
theorem k198_24 : mj_look (mj_prog 198) 24 = some (.iconst 1, 1, 0, 0) := by decide +kernel
theorem k198_25 : mj_look (mj_prog 198) 25 = some (.goto 4, 3, 29, 0) := by decide +kernel
theorem k198_28 : mj_look (mj_prog 198) 28 = some (.iconst 0, 1, 0, 0) := by decide +kernel
theorem k198_29 : mj_look (mj_prog 198) 29 = some (.iadd, 1, 0, 0) := by decide +kernel
theorem k198_30 : mj_look (mj_prog 198) 30 = some (.istore_n 1, 1, 0, 0) := by decide +kernel
theorem k198_31 : mj_look (mj_prog 198) 31 = some (.iinc 2 1, 3, 0, 0) := by decide +kernel
theorem k198_34 : mj_look (mj_prog 198) 34 = some (.goto (-30), 3, 4, 0) := by decide +kernel
theorem k198_37 : mj_look (mj_prog 198) 37 = some (.iload_n 1, 1, 0, 0) := by decide +kernel
theorem k198_38 : mj_look (mj_prog 198) 38 = some (.ireturn, 1, 0, 0) := by decide +kernel
theorem mx_199 : (mj_m 199).2.2.1 = 1 := by decide +kernel
theorem rt_199 : (mj_m 199).2.2.2.1 = (some FieldType.int) := by decide +kernel
theorem dp_199 : mj_disp 199 12 = some 199 := by decide +kernel
theorem pq_199 : mj_prog 199 = mj_p199 := rfl
theorem k199_0 : mj_look (mj_prog 199) 0 = some (.aload_n 0, 1, 0, 0) := by decide +kernel
theorem k199_1 : mj_look (mj_prog 199) 1 = some (.getfield 189, 3, 12, 10) := by decide +kernel
theorem k199_4 : mj_look (mj_prog 199) 4 = some (.iconst 3, 1, 0, 0) := by decide +kernel
theorem k199_5 : mj_look (mj_prog 199) 5 = some (.if_icmp .eq 5, 3, 10, 0) := by decide +kernel
theorem k199_8 : mj_look (mj_prog 199) 8 = some (.iconst 0, 1, 0, 0) := by decide +kernel
theorem k199_9 : mj_look (mj_prog 199) 9 = some (.ireturn, 1, 0, 0) := by decide +kernel
theorem k199_10 : mj_look (mj_prog 199) 10 = some (.aload_n 0, 1, 0, 0) := by decide +kernel
theorem k199_11 : mj_look (mj_prog 199) 11 = some (.getfield 195, 3, 12, 11) := by decide +kernel
theorem k199_14 : mj_look (mj_prog 199) 14 = some (.lookupswitch 108 #[(38, 84), (42, 102), (43, 96), (45, 99), (47, 105), (60, 87), (61, 90), (62, 93), (124, 82)], 82, 0, 0) := by decide +kernel
theorem k199_96 : mj_look (mj_prog 199) 96 = some (.iconst (-1), 1, 0, 0) := by decide +kernel
theorem k199_97 : mj_look (mj_prog 199) 97 = some (.ireturn, 1, 0, 0) := by decide +kernel
theorem k199_98 : mj_look (mj_prog 199) 98 = some (.bipush (-2), 2, 0, 0) := by decide +kernel
theorem k199_100 : mj_look (mj_prog 199) 100 = some (.ireturn, 1, 0, 0) := by decide +kernel
theorem k199_101 : mj_look (mj_prog 199) 101 = some (.bipush (-3), 2, 0, 0) := by decide +kernel
theorem k199_103 : mj_look (mj_prog 199) 103 = some (.ireturn, 1, 0, 0) := by decide +kernel
theorem k199_104 : mj_look (mj_prog 199) 104 = some (.bipush (-4), 2, 0, 0) := by decide +kernel
theorem k199_106 : mj_look (mj_prog 199) 106 = some (.ireturn, 1, 0, 0) := by decide +kernel
theorem k199_107 : mj_look (mj_prog 199) 107 = some (.bipush (-5), 2, 0, 0) := by decide +kernel
theorem k199_109 : mj_look (mj_prog 199) 109 = some (.ireturn, 1, 0, 0) := by decide +kernel
theorem k199_110 : mj_look (mj_prog 199) 110 = some (.bipush (-6), 2, 0, 0) := by decide +kernel
theorem k199_112 : mj_look (mj_prog 199) 112 = some (.ireturn, 1, 0, 0) := by decide +kernel
theorem k199_113 : mj_look (mj_prog 199) 113 = some (.bipush (-7), 2, 0, 0) := by decide +kernel
theorem k199_115 : mj_look (mj_prog 199) 115 = some (.ireturn, 1, 0, 0) := by decide +kernel
theorem k199_116 : mj_look (mj_prog 199) 116 = some (.bipush (-8), 2, 0, 0) := by decide +kernel
theorem k199_118 : mj_look (mj_prog 199) 118 = some (.ireturn, 1, 0, 0) := by decide +kernel
theorem k199_119 : mj_look (mj_prog 199) 119 = some (.bipush (-9), 2, 0, 0) := by decide +kernel
theorem k199_121 : mj_look (mj_prog 199) 121 = some (.ireturn, 1, 0, 0) := by decide +kernel
theorem k199_122 : mj_look (mj_prog 199) 122 = some (.iconst 0, 1, 0, 0) := by decide +kernel
theorem k199_123 : mj_look (mj_prog 199) 123 = some (.ireturn, 1, 0, 0) := by decide +kernel
theorem mx_200 : (mj_m 200).2.2.1 = 3 := by decide +kernel
theorem rt_200 : (mj_m 200).2.2.2.1 = (some FieldType.int) := by decide +kernel
theorem dp_200 : mj_disp 200 12 = some 200 := by decide +kernel
theorem pq_200 : mj_prog 200 = mj_p200 := rfl
theorem k200_0 : mj_look (mj_prog 200) 0 = some (.iload_n 1, 1, 0, 0) := by decide +kernel
theorem k200_1 : mj_look (mj_prog 200) 1 = some (.iconst 0, 1, 0, 0) := by decide +kernel
theorem k200_2 : mj_look (mj_prog 200) 2 = some (.aload_n 0, 1, 0, 0) := by decide +kernel
theorem k200_3 : mj_look (mj_prog 200) 3 = some (.getfield 9, 3, 12, 0) := by decide +kernel
theorem k200_6 : mj_look (mj_prog 200) 6 = some (.iconst 4, 1, 0, 0) := by decide +kernel
theorem k200_7 : mj_look (mj_prog 200) 7 = some (.iaload, 1, 0, 0) := by decide +kernel
theorem k200_8 : mj_look (mj_prog 200) 8 = some (.iconst 1, 1, 0, 0) := by decide +kernel
theorem k200_9 : mj_look (mj_prog 200) 9 = some (.isub, 1, 0, 0) := by decide +kernel
theorem k200_10 : mj_look (mj_prog 200) 10 = some (.invokestatic 79, 3, 134, 3) := by decide +kernel
theorem k200_13 : mj_look (mj_prog 200) 13 = some (.ifCond .eq 12, 3, 25, 0) := by decide +kernel
theorem k200_16 : mj_look (mj_prog 200) 16 = some (.iload_n 2, 1, 0, 0) := by decide +kernel
theorem k200_17 : mj_look (mj_prog 200) 17 = some (.iconst 0, 1, 0, 0) := by decide +kernel
theorem k200_18 : mj_look (mj_prog 200) 18 = some (.iconst 1, 1, 0, 0) := by decide +kernel
theorem k200_19 : mj_look (mj_prog 200) 19 = some (.invokestatic 79, 3, 134, 3) := by decide +kernel
theorem k200_22 : mj_look (mj_prog 200) 22 = some (.ifCond .ne 6, 3, 28, 0) := by decide +kernel
theorem k200_25 : mj_look (mj_prog 200) 25 = some (.ldc 83, 2, 3294967295, 0) := by decide +kernel
theorem k200_27 : mj_look (mj_prog 200) 27 = some (.ireturn, 1, 0, 0) := by decide +kernel
theorem k200_28 : mj_look (mj_prog 200) 28 = some (.iload_n 2, 1, 0, 0) := by decide +kernel
theorem k200_29 : mj_look (mj_prog 200) 29 = some (.ifCond .ne 21, 3, 50, 0) := by decide +kernel
theorem k200_32 : mj_look (mj_prog 200) 32 = some (.aload_n 0, 1, 0, 0) := by decide +kernel
theorem k200_33 : mj_look (mj_prog 200) 33 = some (.getfield 9, 3, 12, 0) := by decide +kernel
theorem k200_36 : mj_look (mj_prog 200) 36 = some (.bipush 109, 2, 0, 0) := by decide +kernel
theorem k200_38 : mj_look (mj_prog 200) 38 = some (.iconst 2, 1, 0, 0) := by decide +kernel
theorem k200_39 : mj_look (mj_prog 200) 39 = some (.iload_n 1, 1, 0, 0) := by decide +kernel
theorem k200_40 : mj_look (mj_prog 200) 40 = some (.imul, 1, 0, 0) := by decide +kernel
theorem k200_41 : mj_look (mj_prog 200) 41 = some (.iadd, 1, 0, 0) := by decide +kernel
theorem k200_42 : mj_look (mj_prog 200) 42 = some (.iaload, 1, 0, 0) := by decide +kernel
theorem k200_43 : mj_look (mj_prog 200) 43 = some (.sipush 1000, 3, 0, 0) := by decide +kernel
theorem k200_46 : mj_look (mj_prog 200) 46 = some (.idiv, 1, 0, 0) := by decide +kernel
theorem k200_47 : mj_look (mj_prog 200) 47 = some (.goto 16, 3, 63, 0) := by decide +kernel
theorem k200_50 : mj_look (mj_prog 200) 50 = some (.aload_n 0, 1, 0, 0) := by decide +kernel
theorem k200_51 : mj_look (mj_prog 200) 51 = some (.getfield 9, 3, 12, 0) := by decide +kernel
theorem k200_54 : mj_look (mj_prog 200) 54 = some (.bipush 109, 2, 0, 0) := by decide +kernel
theorem k200_56 : mj_look (mj_prog 200) 56 = some (.iconst 2, 1, 0, 0) := by decide +kernel
theorem k200_57 : mj_look (mj_prog 200) 57 = some (.iload_n 1, 1, 0, 0) := by decide +kernel
theorem k200_58 : mj_look (mj_prog 200) 58 = some (.imul, 1, 0, 0) := by decide +kernel
theorem k200_59 : mj_look (mj_prog 200) 59 = some (.iadd, 1, 0, 0) := by decide +kernel
theorem k200_60 : mj_look (mj_prog 200) 60 = some (.iconst 1, 1, 0, 0) := by decide +kernel
theorem k200_61 : mj_look (mj_prog 200) 61 = some (.iadd, 1, 0, 0) := by decide +kernel
theorem k200_62 : mj_look (mj_prog 200) 62 = some (.iaload, 1, 0, 0) := by decide +kernel
theorem k200_63 : mj_look (mj_prog 200) 63 = some (.ireturn, 1, 0, 0) := by decide +kernel
theorem mx_201 : (mj_m 201).2.2.1 = 3 := by decide +kernel
theorem rt_201 : (mj_m 201).2.2.2.1 = (some FieldType.int) := by decide +kernel
theorem dp_201 : mj_disp 201 12 = some 201 := by decide +kernel
theorem pq_201 : mj_prog 201 = mj_p201 := rfl
theorem k201_0 : mj_look (mj_prog 201) 0 = some (.iload_n 1, 1, 0, 0) := by decide +kernel
theorem k201_1 : mj_look (mj_prog 201) 1 = some (.iconst 0, 1, 0, 0) := by decide +kernel
theorem k201_2 : mj_look (mj_prog 201) 2 = some (.iconst 2, 1, 0, 0) := by decide +kernel
theorem k201_3 : mj_look (mj_prog 201) 3 = some (.invokestatic 79, 3, 134, 3) := by decide +kernel
theorem k201_6 : mj_look (mj_prog 201) 6 = some (.ifCond .ne 6, 3, 12, 0) := by decide +kernel
theorem k201_9 : mj_look (mj_prog 201) 9 = some (.ldc 83, 2, 3294967295, 0) := by decide +kernel
theorem k201_11 : mj_look (mj_prog 201) 11 = some (.ireturn, 1, 0, 0) := by decide +kernel
theorem k201_12 : mj_look (mj_prog 201) 12 = some (.aload_n 0, 1, 0, 0) := by decide +kernel
theorem k201_13 : mj_look (mj_prog 201) 13 = some (.iload_n 1, 1, 0, 0) := by decide +kernel
theorem k201_14 : mj_look (mj_prog 201) 14 = some (.invokevirtual 89, 3, 140, 1) := by decide +kernel
theorem k201_17 : mj_look (mj_prog 201) 17 = some (.istore_n 2, 1, 0, 0) := by decide +kernel
theorem k201_18 : mj_look (mj_prog 201) 18 = some (.iload_n 2, 1, 0, 0) := by decide +kernel
theorem k201_19 : mj_look (mj_prog 201) 19 = some (.ifCond .ge 8, 3, 27, 0) := by decide +kernel
theorem k201_22 : mj_look (mj_prog 201) 22 = some (.ldc 165, 2, 3294967291, 0) := by decide +kernel
theorem k201_24 : mj_look (mj_prog 201) 24 = some (.goto 4, 3, 28, 0) := by decide +kernel
theorem k201_27 : mj_look (mj_prog 201) 27 = some (.iload_n 2, 1, 0, 0) := by decide +kernel
theorem k201_28 : mj_look (mj_prog 201) 28 = some (.ireturn, 1, 0, 0) := by decide +kernel
theorem mx_202 : (mj_m 202).2.2.1 = 5 := by decide +kernel
theorem rt_202 : (mj_m 202).2.2.2.1 = (some FieldType.int) := by decide +kernel
theorem dp_202 : mj_disp 202 12 = some 202 := by decide +kernel
theorem pq_202 : mj_prog 202 = mj_p202 := rfl
theorem k202_0 : mj_look (mj_prog 202) 0 = some (.iload_n 1, 1, 0, 0) := by decide +kernel
theorem k202_1 : mj_look (mj_prog 202) 1 = some (.invokestatic 169, 3, 182, 1) := by decide +kernel
theorem k202_4 : mj_look (mj_prog 202) 4 = some (.ifCond .eq 22, 3, 26, 0) := by decide +kernel
theorem k202_7 : mj_look (mj_prog 202) 7 = some (.iload_n 2, 1, 0, 0) := by decide +kernel
theorem k202_8 : mj_look (mj_prog 202) 8 = some (.iconst (-1), 1, 0, 0) := by decide +kernel
theorem k202_9 : mj_look (mj_prog 202) 9 = some (.iconst 1, 1, 0, 0) := by decide +kernel
theorem k202_10 : mj_look (mj_prog 202) 10 = some (.invokestatic 79, 3, 134, 3) := by decide +kernel
theorem k202_13 : mj_look (mj_prog 202) 13 = some (.ifCond .eq 13, 3, 26, 0) := by decide +kernel
theorem k202_16 : mj_look (mj_prog 202) 16 = some (.iload_n 2, 1, 0, 0) := by decide +kernel
theorem k202_17 : mj_look (mj_prog 202) 17 = some (.ifCond .lt 12, 3, 29, 0) := by decide +kernel
theorem k202_20 : mj_look (mj_prog 202) 20 = some (.iload_n 3, 1, 0, 0) := by decide +kernel
theorem k202_21 : mj_look (mj_prog 202) 21 = some (.bipush 24, 2, 0, 0) := by decide +kernel
theorem k202_23 : mj_look (mj_prog 202) 23 = some (.if_icmp .le 6, 3, 29, 0) := by decide +kernel
theorem k202_26 : mj_look (mj_prog 202) 26 = some (.ldc 83, 2, 3294967295, 0) := by decide +kernel
theorem k202_28 : mj_look (mj_prog 202) 28 = some (.ireturn, 1, 0, 0) := by decide +kernel
theorem k202_29 : mj_look (mj_prog 202) 29 = some (.iload_n 2, 1, 0, 0) := by decide +kernel
theorem k202_30 : mj_look (mj_prog 202) 30 = some (.ifCond .lt 10, 3, 40, 0) := by decide +kernel
theorem k202_33 : mj_look (mj_prog 202) 33 = some (.iload_n 3, 1, 0, 0) := by decide +kernel
theorem k202_34 : mj_look (mj_prog 202) 34 = some (.ifCond .ge 6, 3, 40, 0) := by decide +kernel
theorem k202_37 : mj_look (mj_prog 202) 37 = some (.ldc 244, 2, 3294967282, 0) := by decide +kernel
theorem k202_39 : mj_look (mj_prog 202) 39 = some (.ireturn, 1, 0, 0) := by decide +kernel
theorem k202_40 : mj_look (mj_prog 202) 40 = some (.aload_n 0, 1, 0, 0) := by decide +kernel
theorem k202_41 : mj_look (mj_prog 202) 41 = some (.getfield 52, 3, 12, 24) := by decide +kernel
theorem k202_44 : mj_look (mj_prog 202) 44 = some (.iload_n 1, 1, 0, 0) := by decide +kernel
theorem k202_45 : mj_look (mj_prog 202) 45 = some (.iload_n 2, 1, 0, 0) := by decide +kernel
theorem k202_46 : mj_look (mj_prog 202) 46 = some (.iastore, 1, 0, 0) := by decide +kernel
theorem k202_47 : mj_look (mj_prog 202) 47 = some (.aload_n 0, 1, 0, 0) := by decide +kernel
theorem k202_48 : mj_look (mj_prog 202) 48 = some (.getfield 55, 3, 12, 25) := by decide +kernel
theorem k202_51 : mj_look (mj_prog 202) 51 = some (.iload_n 1, 1, 0, 0) := by decide +kernel
theorem k202_52 : mj_look (mj_prog 202) 52 = some (.iload_n 2, 1, 0, 0) := by decide +kernel
theorem k202_53 : mj_look (mj_prog 202) 53 = some (.ifCond .ge 7, 3, 60, 0) := by decide +kernel
theorem k202_56 : mj_look (mj_prog 202) 56 = some (.iconst 0, 1, 0, 0) := by decide +kernel
theorem k202_57 : mj_look (mj_prog 202) 57 = some (.goto 4, 3, 61, 0) := by decide +kernel
theorem k202_60 : mj_look (mj_prog 202) 60 = some (.iload_n 3, 1, 0, 0) := by decide +kernel
theorem k202_61 : mj_look (mj_prog 202) 61 = some (.iastore, 1, 0, 0) := by decide +kernel
theorem k202_62 : mj_look (mj_prog 202) 62 = some (.iconst 0, 1, 0, 0) := by decide +kernel
theorem k202_63 : mj_look (mj_prog 202) 63 = some (.istore 4, 2, 0, 0) := by decide +kernel
theorem k202_65 : mj_look (mj_prog 202) 65 = some (.iload 4, 2, 0, 0) := by decide +kernel
theorem k202_67 : mj_look (mj_prog 202) 67 = some (.bipush 24, 2, 0, 0) := by decide +kernel
theorem k202_69 : mj_look (mj_prog 202) 69 = some (.if_icmp .ge 22, 3, 91, 0) := by decide +kernel
theorem k202_72 : mj_look (mj_prog 202) 72 = some (.aload_n 0, 1, 0, 0) := by decide +kernel
theorem k202_73 : mj_look (mj_prog 202) 73 = some (.getfield 58, 3, 12, 26) := by decide +kernel
theorem k202_76 : mj_look (mj_prog 202) 76 = some (.bipush 24, 2, 0, 0) := by decide +kernel
theorem k202_78 : mj_look (mj_prog 202) 78 = some (.iload_n 1, 1, 0, 0) := by decide +kernel
theorem k202_79 : mj_look (mj_prog 202) 79 = some (.imul, 1, 0, 0) := by decide +kernel
theorem k202_80 : mj_look (mj_prog 202) 80 = some (.iload 4, 2, 0, 0) := by decide +kernel
theorem k202_82 : mj_look (mj_prog 202) 82 = some (.iadd, 1, 0, 0) := by decide +kernel
theorem k202_83 : mj_look (mj_prog 202) 83 = some (.iconst 0, 1, 0, 0) := by decide +kernel
theorem k202_84 : mj_look (mj_prog 202) 84 = some (.iastore, 1, 0, 0) := by decide +kernel
theorem k202_85 : mj_look (mj_prog 202) 85 = some (.iinc 4 1, 3, 0, 0) := by decide +kernel
theorem k202_88 : mj_look (mj_prog 202) 88 = some (.goto (-23), 3, 65, 0) := by decide +kernel
theorem k202_91 : mj_look (mj_prog 202) 91 = some (.aload_n 0, 1, 0, 0) := by decide +kernel
theorem k202_92 : mj_look (mj_prog 202) 92 = some (.getfield 55, 3, 12, 25) := by decide +kernel
theorem k202_95 : mj_look (mj_prog 202) 95 = some (.iload_n 1, 1, 0, 0) := by decide +kernel
theorem k202_96 : mj_look (mj_prog 202) 96 = some (.iaload, 1, 0, 0) := by decide +kernel
theorem k202_97 : mj_look (mj_prog 202) 97 = some (.ireturn, 1, 0, 0) := by decide +kernel
theorem mx_203 : (mj_m 203).2.2.1 = 4 := by decide +kernel
theorem rt_203 : (mj_m 203).2.2.2.1 = (some FieldType.int) := by decide +kernel
theorem dp_203 : mj_disp 203 12 = some 203 := by decide +kernel
theorem pq_203 : mj_prog 203 = mj_p203 := rfl
theorem k203_0 : mj_look (mj_prog 203) 0 = some (.iload_n 1, 1, 0, 0) := by decide +kernel
theorem k203_1 : mj_look (mj_prog 203) 1 = some (.invokestatic 169, 3, 182, 1) := by decide +kernel
theorem k203_4 : mj_look (mj_prog 203) 4 = some (.ifCond .ne 6, 3, 10, 0) := by decide +kernel
theorem k203_7 : mj_look (mj_prog 203) 7 = some (.ldc 83, 2, 3294967295, 0) := by decide +kernel
theorem k203_9 : mj_look (mj_prog 203) 9 = some (.ireturn, 1, 0, 0) := by decide +kernel
theorem k203_10 : mj_look (mj_prog 203) 10 = some (.aload_n 0, 1, 0, 0) := by decide +kernel
theorem k203_11 : mj_look (mj_prog 203) 11 = some (.getfield 52, 3, 12, 24) := by decide +kernel
theorem k203_14 : mj_look (mj_prog 203) 14 = some (.iload_n 1, 1, 0, 0) := by decide +kernel
theorem k203_15 : mj_look (mj_prog 203) 15 = some (.iaload, 1, 0, 0) := by decide +kernel
theorem k203_16 : mj_look (mj_prog 203) 16 = some (.ifCond .ge 6, 3, 22, 0) := by decide +kernel
theorem k203_19 : mj_look (mj_prog 203) 19 = some (.ldc 172, 2, 3294967285, 0) := by decide +kernel
theorem k203_21 : mj_look (mj_prog 203) 21 = some (.ireturn, 1, 0, 0) := by decide +kernel
theorem k203_22 : mj_look (mj_prog 203) 22 = some (.iload_n 2, 1, 0, 0) := by decide +kernel
theorem k203_23 : mj_look (mj_prog 203) 23 = some (.iconst 0, 1, 0, 0) := by decide +kernel
theorem k203_24 : mj_look (mj_prog 203) 24 = some (.aload_n 0, 1, 0, 0) := by decide +kernel
theorem k203_25 : mj_look (mj_prog 203) 25 = some (.getfield 55, 3, 12, 25) := by decide +kernel
theorem k203_28 : mj_look (mj_prog 203) 28 = some (.iload_n 1, 1, 0, 0) := by decide +kernel
theorem k203_29 : mj_look (mj_prog 203) 29 = some (.iaload, 1, 0, 0) := by decide +kernel
theorem k203_30 : mj_look (mj_prog 203) 30 = some (.iconst 1, 1, 0, 0) := by decide +kernel
theorem k203_31 : mj_look (mj_prog 203) 31 = some (.isub, 1, 0, 0) := by decide +kernel
theorem k203_32 : mj_look (mj_prog 203) 32 = some (.invokestatic 79, 3, 134, 3) := by decide +kernel
theorem k203_35 : mj_look (mj_prog 203) 35 = some (.ifCond .ne 6, 3, 41, 0) := by decide +kernel
theorem k203_38 : mj_look (mj_prog 203) 38 = some (.ldc 245, 2, 3294967283, 0) := by decide +kernel
theorem k203_40 : mj_look (mj_prog 203) 40 = some (.ireturn, 1, 0, 0) := by decide +kernel
theorem k203_41 : mj_look (mj_prog 203) 41 = some (.aload_n 0, 1, 0, 0) := by decide +kernel
theorem k203_42 : mj_look (mj_prog 203) 42 = some (.getfield 52, 3, 12, 24) := by decide +kernel
theorem k203_45 : mj_look (mj_prog 203) 45 = some (.iload_n 1, 1, 0, 0) := by decide +kernel
theorem k203_46 : mj_look (mj_prog 203) 46 = some (.iaload, 1, 0, 0) := by decide +kernel
theorem k203_47 : mj_look (mj_prog 203) 47 = some (.ifCond .ne 12, 3, 59, 0) := by decide +kernel
theorem k203_50 : mj_look (mj_prog 203) 50 = some (.iload_n 3, 1, 0, 0) := by decide +kernel
theorem k203_51 : mj_look (mj_prog 203) 51 = some (.ldc 165, 2, 3294967291, 0) := by decide +kernel
theorem k203_53 : mj_look (mj_prog 203) 53 = some (.if_icmp .ne 6, 3, 59, 0) := by decide +kernel
theorem k203_56 : mj_look (mj_prog 203) 56 = some (.ldc 126, 2, 3294967284, 0) := by decide +kernel
theorem k203_58 : mj_look (mj_prog 203) 58 = some (.ireturn, 1, 0, 0) := by decide +kernel
theorem k203_59 : mj_look (mj_prog 203) 59 = some (.aload_n 0, 1, 0, 0) := by decide +kernel
theorem k203_60 : mj_look (mj_prog 203) 60 = some (.getfield 52, 3, 12, 24) := by decide +kernel
theorem k203_63 : mj_look (mj_prog 203) 63 = some (.iload_n 1, 1, 0, 0) := by decide +kernel
theorem k203_64 : mj_look (mj_prog 203) 64 = some (.iaload, 1, 0, 0) := by decide +kernel
theorem k203_65 : mj_look (mj_prog 203) 65 = some (.iconst 1, 1, 0, 0) := by decide +kernel
theorem k203_66 : mj_look (mj_prog 203) 66 = some (.if_icmp .ne 23, 3, 89, 0) := by decide +kernel
theorem k203_69 : mj_look (mj_prog 203) 69 = some (.iload_n 3, 1, 0, 0) := by decide +kernel
theorem k203_70 : mj_look (mj_prog 203) 70 = some (.ldc 165, 2, 3294967291, 0) := by decide +kernel
theorem k203_72 : mj_look (mj_prog 203) 72 = some (.if_icmp .eq 17, 3, 89, 0) := by decide +kernel
theorem k203_75 : mj_look (mj_prog 203) 75 = some (.iload_n 3, 1, 0, 0) := by decide +kernel
theorem k203_76 : mj_look (mj_prog 203) 76 = some (.ldc 246, 2, 4294867297, 0) := by decide +kernel
theorem k203_78 : mj_look (mj_prog 203) 78 = some (.ldc 247, 2, 99999, 0) := by decide +kernel
theorem k203_80 : mj_look (mj_prog 203) 80 = some (.invokestatic 79, 3, 134, 3) := by decide +kernel
theorem k203_83 : mj_look (mj_prog 203) 83 = some (.ifCond .ne 6, 3, 89, 0) := by decide +kernel
theorem k203_86 : mj_look (mj_prog 203) 86 = some (.ldc 83, 2, 3294967295, 0) := by decide +kernel
theorem k203_88 : mj_look (mj_prog 203) 88 = some (.ireturn, 1, 0, 0) := by decide +kernel
theorem k203_89 : mj_look (mj_prog 203) 89 = some (.aload_n 0, 1, 0, 0) := by decide +kernel
theorem k203_90 : mj_look (mj_prog 203) 90 = some (.getfield 58, 3, 12, 26) := by decide +kernel
theorem k203_93 : mj_look (mj_prog 203) 93 = some (.bipush 24, 2, 0, 0) := by decide +kernel
theorem k203_95 : mj_look (mj_prog 203) 95 = some (.iload_n 1, 1, 0, 0) := by decide +kernel
theorem k203_96 : mj_look (mj_prog 203) 96 = some (.imul, 1, 0, 0) := by decide +kernel
theorem k203_97 : mj_look (mj_prog 203) 97 = some (.iload_n 2, 1, 0, 0) := by decide +kernel
theorem k203_98 : mj_look (mj_prog 203) 98 = some (.iadd, 1, 0, 0) := by decide +kernel
theorem k203_99 : mj_look (mj_prog 203) 99 = some (.aload_n 0, 1, 0, 0) := by decide +kernel
theorem k203_100 : mj_look (mj_prog 203) 100 = some (.getfield 52, 3, 12, 24) := by decide +kernel
theorem k203_103 : mj_look (mj_prog 203) 103 = some (.iload_n 1, 1, 0, 0) := by decide +kernel
theorem k203_104 : mj_look (mj_prog 203) 104 = some (.iaload, 1, 0, 0) := by decide +kernel
theorem k203_105 : mj_look (mj_prog 203) 105 = some (.ifCond .ne 8, 3, 113, 0) := by decide +kernel
theorem k203_108 : mj_look (mj_prog 203) 108 = some (.iload_n 3, 1, 0, 0) := by decide +kernel
theorem k203_109 : mj_look (mj_prog 203) 109 = some (.i2s, 1, 0, 0) := by decide +kernel
theorem k203_110 : mj_look (mj_prog 203) 110 = some (.goto 4, 3, 114, 0) := by decide +kernel
theorem k203_113 : mj_look (mj_prog 203) 113 = some (.iload_n 3, 1, 0, 0) := by decide +kernel
theorem k203_114 : mj_look (mj_prog 203) 114 = some (.iastore, 1, 0, 0) := by decide +kernel
theorem k203_115 : mj_look (mj_prog 203) 115 = some (.iconst 1, 1, 0, 0) := by decide +kernel
theorem k203_116 : mj_look (mj_prog 203) 116 = some (.ireturn, 1, 0, 0) := by decide +kernel
theorem mx_204 : (mj_m 204).2.2.1 = 6 := by decide +kernel
theorem rt_204 : (mj_m 204).2.2.2.1 = (some FieldType.int) := by decide +kernel
theorem dp_204 : mj_disp 204 12 = some 204 := by decide +kernel
theorem pq_204 : mj_prog 204 = mj_p204 := rfl
theorem k204_0 : mj_look (mj_prog 204) 0 = some (.iload_n 1, 1, 0, 0) := by decide +kernel
theorem k204_1 : mj_look (mj_prog 204) 1 = some (.invokestatic 169, 3, 182, 1) := by decide +kernel
theorem k204_4 : mj_look (mj_prog 204) 4 = some (.ifCond .ne 6, 3, 10, 0) := by decide +kernel
theorem k204_7 : mj_look (mj_prog 204) 7 = some (.ldc 83, 2, 3294967295, 0) := by decide +kernel
theorem k204_9 : mj_look (mj_prog 204) 9 = some (.ireturn, 1, 0, 0) := by decide +kernel
theorem k204_10 : mj_look (mj_prog 204) 10 = some (.aload_n 0, 1, 0, 0) := by decide +kernel
theorem k204_11 : mj_look (mj_prog 204) 11 = some (.getfield 52, 3, 12, 24) := by decide +kernel
theorem k204_14 : mj_look (mj_prog 204) 14 = some (.iload_n 1, 1, 0, 0) := by decide +kernel
theorem k204_15 : mj_look (mj_prog 204) 15 = some (.iaload, 1, 0, 0) := by decide +kernel
theorem k204_16 : mj_look (mj_prog 204) 16 = some (.ifCond .ge 6, 3, 22, 0) := by decide +kernel
theorem k204_19 : mj_look (mj_prog 204) 19 = some (.ldc 172, 2, 3294967285, 0) := by decide +kernel
theorem k204_21 : mj_look (mj_prog 204) 21 = some (.ireturn, 1, 0, 0) := by decide +kernel
theorem k204_22 : mj_look (mj_prog 204) 22 = some (.iconst 0, 1, 0, 0) := by decide +kernel
theorem k204_23 : mj_look (mj_prog 204) 23 = some (.istore_n 2, 1, 0, 0) := by decide +kernel
theorem k204_24 : mj_look (mj_prog 204) 24 = some (.iconst 0, 1, 0, 0) := by decide +kernel
theorem k204_25 : mj_look (mj_prog 204) 25 = some (.istore_n 3, 1, 0, 0) := by decide +kernel
theorem k204_26 : mj_look (mj_prog 204) 26 = some (.iload_n 3, 1, 0, 0) := by decide +kernel
theorem k204_27 : mj_look (mj_prog 204) 27 = some (.aload_n 0, 1, 0, 0) := by decide +kernel
theorem k204_28 : mj_look (mj_prog 204) 28 = some (.getfield 55, 3, 12, 25) := by decide +kernel
theorem k204_31 : mj_look (mj_prog 204) 31 = some (.iload_n 1, 1, 0, 0) := by decide +kernel
theorem k204_32 : mj_look (mj_prog 204) 32 = some (.iaload, 1, 0, 0) := by decide +kernel
theorem k204_33 : mj_look (mj_prog 204) 33 = some (.if_icmp .ge 79, 3, 112, 0) := by decide +kernel
theorem k204_36 : mj_look (mj_prog 204) 36 = some (.iload_n 3, 1, 0, 0) := by decide +kernel
theorem k204_37 : mj_look (mj_prog 204) 37 = some (.bipush 12, 2, 0, 0) := by decide +kernel
theorem k204_39 : mj_look (mj_prog 204) 39 = some (.if_icmp .ge 73, 3, 112, 0) := by decide +kernel
theorem k204_42 : mj_look (mj_prog 204) 42 = some (.aload_n 0, 1, 0, 0) := by decide +kernel
theorem k204_43 : mj_look (mj_prog 204) 43 = some (.getfield 58, 3, 12, 26) := by decide +kernel
theorem k204_46 : mj_look (mj_prog 204) 46 = some (.bipush 24, 2, 0, 0) := by decide +kernel
theorem k204_48 : mj_look (mj_prog 204) 48 = some (.iload_n 1, 1, 0, 0) := by decide +kernel
theorem k204_49 : mj_look (mj_prog 204) 49 = some (.imul, 1, 0, 0) := by decide +kernel
theorem k204_50 : mj_look (mj_prog 204) 50 = some (.iload_n 3, 1, 0, 0) := by decide +kernel
theorem k204_51 : mj_look (mj_prog 204) 51 = some (.iadd, 1, 0, 0) := by decide +kernel
theorem k204_52 : mj_look (mj_prog 204) 52 = some (.iaload, 1, 0, 0) := by decide +kernel
theorem k204_53 : mj_look (mj_prog 204) 53 = some (.istore 4, 2, 0, 0) := by decide +kernel
theorem k204_55 : mj_look (mj_prog 204) 55 = some (.iload 4, 2, 0, 0) := by decide +kernel
theorem k204_57 : mj_look (mj_prog 204) 57 = some (.ldc 165, 2, 3294967291, 0) := by decide +kernel
theorem k204_59 : mj_look (mj_prog 204) 59 = some (.if_icmp .ne 14, 3, 73, 0) := by decide +kernel
theorem k204_62 : mj_look (mj_prog 204) 62 = some (.aload_n 0, 1, 0, 0) := by decide +kernel
theorem k204_63 : mj_look (mj_prog 204) 63 = some (.getfield 9, 3, 12, 0) := by decide +kernel
theorem k204_66 : mj_look (mj_prog 204) 66 = some (.iconst 5, 1, 0, 0) := by decide +kernel
theorem k204_67 : mj_look (mj_prog 204) 67 = some (.iload_n 3, 1, 0, 0) := by decide +kernel
theorem k204_68 : mj_look (mj_prog 204) 68 = some (.iadd, 1, 0, 0) := by decide +kernel
theorem k204_69 : mj_look (mj_prog 204) 69 = some (.iaload, 1, 0, 0) := by decide +kernel
theorem k204_70 : mj_look (mj_prog 204) 70 = some (.goto 12, 3, 82, 0) := by decide +kernel
theorem k204_73 : mj_look (mj_prog 204) 73 = some (.iload 4, 2, 0, 0) := by decide +kernel
theorem k204_75 : mj_look (mj_prog 204) 75 = some (.bipush (-9), 2, 0, 0) := by decide +kernel
theorem k204_77 : mj_look (mj_prog 204) 77 = some (.bipush 9, 2, 0, 0) := by decide +kernel
theorem k204_79 : mj_look (mj_prog 204) 79 = some (.invokestatic 100, 3, 144, 3) := by decide +kernel
theorem k204_82 : mj_look (mj_prog 204) 82 = some (.istore 5, 2, 0, 0) := by decide +kernel
theorem k204_84 : mj_look (mj_prog 204) 84 = some (.iload_n 2, 1, 0, 0) := by decide +kernel
theorem k204_85 : mj_look (mj_prog 204) 85 = some (.aload_n 0, 1, 0, 0) := by decide +kernel
theorem k204_86 : mj_look (mj_prog 204) 86 = some (.iconst 5, 1, 0, 0) := by decide +kernel
theorem k204_87 : mj_look (mj_prog 204) 87 = some (.iload_n 3, 1, 0, 0) := by decide +kernel
theorem k204_88 : mj_look (mj_prog 204) 88 = some (.iadd, 1, 0, 0) := by decide +kernel
theorem k204_89 : mj_look (mj_prog 204) 89 = some (.iload 5, 2, 0, 0) := by decide +kernel
theorem k204_91 : mj_look (mj_prog 204) 91 = some (.invokevirtual 127, 3, 152, 2) := by decide +kernel
theorem k204_94 : mj_look (mj_prog 204) 94 = some (.iload 5, 2, 0, 0) := by decide +kernel
theorem k204_96 : mj_look (mj_prog 204) 96 = some (.if_icmp .ne 7, 3, 103, 0) := by decide +kernel
theorem k204_99 : mj_look (mj_prog 204) 99 = some (.iconst 0, 1, 0, 0) := by decide +kernel
theorem k204_100 : mj_look (mj_prog 204) 100 = some (.goto 4, 3, 104, 0) := by decide +kernel
theorem k204_103 : mj_look (mj_prog 204) 103 = some (.iconst 1, 1, 0, 0) := by decide +kernel
theorem k204_104 : mj_look (mj_prog 204) 104 = some (.iadd, 1, 0, 0) := by decide +kernel
theorem k204_105 : mj_look (mj_prog 204) 105 = some (.istore_n 2, 1, 0, 0) := by decide +kernel
theorem k204_106 : mj_look (mj_prog 204) 106 = some (.iinc 3 1, 3, 0, 0) := by decide +kernel
theorem k204_109 : mj_look (mj_prog 204) 109 = some (.goto (-83), 3, 26, 0) := by decide +kernel
theorem k204_112 : mj_look (mj_prog 204) 112 = some (.iload_n 2, 1, 0, 0) := by decide +kernel
theorem k204_113 : mj_look (mj_prog 204) 113 = some (.ireturn, 1, 0, 0) := by decide +kernel
theorem mx_205 : (mj_m 205).2.2.1 = 4 := by decide +kernel
theorem rt_205 : (mj_m 205).2.2.2.1 = (some FieldType.int) := by decide +kernel
theorem dp_205 : mj_disp 205 12 = some 205 := by decide +kernel
theorem pq_205 : mj_prog 205 = mj_p205 := rfl
theorem k205_0 : mj_look (mj_prog 205) 0 = some (.iload_n 1, 1, 0, 0) := by decide +kernel
theorem k205_1 : mj_look (mj_prog 205) 1 = some (.invokestatic 169, 3, 182, 1) := by decide +kernel
theorem k205_4 : mj_look (mj_prog 205) 4 = some (.ifCond .ne 6, 3, 10, 0) := by decide +kernel
theorem k205_7 : mj_look (mj_prog 205) 7 = some (.ldc 83, 2, 3294967295, 0) := by decide +kernel
theorem k205_9 : mj_look (mj_prog 205) 9 = some (.ireturn, 1, 0, 0) := by decide +kernel
theorem k205_10 : mj_look (mj_prog 205) 10 = some (.aload_n 0, 1, 0, 0) := by decide +kernel
theorem k205_11 : mj_look (mj_prog 205) 11 = some (.getfield 52, 3, 12, 24) := by decide +kernel
theorem k205_14 : mj_look (mj_prog 205) 14 = some (.iload_n 1, 1, 0, 0) := by decide +kernel
theorem k205_15 : mj_look (mj_prog 205) 15 = some (.iaload, 1, 0, 0) := by decide +kernel
theorem k205_16 : mj_look (mj_prog 205) 16 = some (.ifCond .ge 6, 3, 22, 0) := by decide +kernel
theorem k205_19 : mj_look (mj_prog 205) 19 = some (.ldc 172, 2, 3294967285, 0) := by decide +kernel
theorem k205_21 : mj_look (mj_prog 205) 21 = some (.ireturn, 1, 0, 0) := by decide +kernel
theorem k205_22 : mj_look (mj_prog 205) 22 = some (.iconst 0, 1, 0, 0) := by decide +kernel
theorem k205_23 : mj_look (mj_prog 205) 23 = some (.istore_n 2, 1, 0, 0) := by decide +kernel
theorem k205_24 : mj_look (mj_prog 205) 24 = some (.iload_n 2, 1, 0, 0) := by decide +kernel
theorem k205_25 : mj_look (mj_prog 205) 25 = some (.aload_n 0, 1, 0, 0) := by decide +kernel
theorem k205_26 : mj_look (mj_prog 205) 26 = some (.getfield 55, 3, 12, 25) := by decide +kernel
theorem k205_29 : mj_look (mj_prog 205) 29 = some (.iload_n 1, 1, 0, 0) := by decide +kernel
theorem k205_30 : mj_look (mj_prog 205) 30 = some (.iaload, 1, 0, 0) := by decide +kernel
theorem k205_31 : mj_look (mj_prog 205) 31 = some (.if_icmp .ge 47, 3, 78, 0) := by decide +kernel
theorem k205_34 : mj_look (mj_prog 205) 34 = some (.aload_n 0, 1, 0, 0) := by decide +kernel
theorem k205_35 : mj_look (mj_prog 205) 35 = some (.getfield 58, 3, 12, 26) := by decide +kernel
theorem k205_38 : mj_look (mj_prog 205) 38 = some (.bipush 24, 2, 0, 0) := by decide +kernel
theorem k205_40 : mj_look (mj_prog 205) 40 = some (.iload_n 1, 1, 0, 0) := by decide +kernel
theorem k205_41 : mj_look (mj_prog 205) 41 = some (.imul, 1, 0, 0) := by decide +kernel
theorem k205_42 : mj_look (mj_prog 205) 42 = some (.iload_n 2, 1, 0, 0) := by decide +kernel
theorem k205_43 : mj_look (mj_prog 205) 43 = some (.iadd, 1, 0, 0) := by decide +kernel
theorem k205_44 : mj_look (mj_prog 205) 44 = some (.iaload, 1, 0, 0) := by decide +kernel
theorem k205_45 : mj_look (mj_prog 205) 45 = some (.istore_n 3, 1, 0, 0) := by decide +kernel
theorem k205_46 : mj_look (mj_prog 205) 46 = some (.iload_n 3, 1, 0, 0) := by decide +kernel
theorem k205_47 : mj_look (mj_prog 205) 47 = some (.ldc 165, 2, 3294967291, 0) := by decide +kernel
theorem k205_49 : mj_look (mj_prog 205) 49 = some (.if_icmp .eq 23, 3, 72, 0) := by decide +kernel
theorem k205_52 : mj_look (mj_prog 205) 52 = some (.aload_n 0, 1, 0, 0) := by decide +kernel
theorem k205_53 : mj_look (mj_prog 205) 53 = some (.iload_n 2, 1, 0, 0) := by decide +kernel
theorem k205_54 : mj_look (mj_prog 205) 54 = some (.invokevirtual 103, 3, 137, 1) := by decide +kernel
theorem k205_57 : mj_look (mj_prog 205) 57 = some (.ifCond .eq 13, 3, 70, 0) := by decide +kernel
theorem k205_60 : mj_look (mj_prog 205) 60 = some (.iload_n 3, 1, 0, 0) := by decide +kernel
theorem k205_61 : mj_look (mj_prog 205) 61 = some (.aload_n 0, 1, 0, 0) := by decide +kernel
theorem k205_62 : mj_look (mj_prog 205) 62 = some (.iload_n 2, 1, 0, 0) := by decide +kernel
theorem k205_63 : mj_look (mj_prog 205) 63 = some (.iconst 1, 1, 0, 0) := by decide +kernel
theorem k205_64 : mj_look (mj_prog 205) 64 = some (.invokevirtual 93, 3, 141, 2) := by decide +kernel
theorem k205_67 : mj_look (mj_prog 205) 67 = some (.if_icmp .eq 5, 3, 72, 0) := by decide +kernel
theorem k205_70 : mj_look (mj_prog 205) 70 = some (.iload_n 2, 1, 0, 0) := by decide +kernel
theorem k205_71 : mj_look (mj_prog 205) 71 = some (.ireturn, 1, 0, 0) := by decide +kernel
theorem k205_72 : mj_look (mj_prog 205) 72 = some (.iinc 2 1, 3, 0, 0) := by decide +kernel
theorem k205_75 : mj_look (mj_prog 205) 75 = some (.goto (-51), 3, 24, 0) := by decide +kernel
theorem k205_78 : mj_look (mj_prog 205) 78 = some (.ldc 165, 2, 3294967291, 0) := by decide +kernel
theorem k205_80 : mj_look (mj_prog 205) 80 = some (.ireturn, 1, 0, 0) := by decide +kernel
theorem mx_206 : (mj_m 206).2.2.1 = 7 := by decide +kernel
theorem rt_206 : (mj_m 206).2.2.2.1 = (some FieldType.int) := by decide +kernel
theorem dp_206 : mj_disp 206 12 = some 206 := by decide +kernel
theorem pq_206 : mj_prog 206 = mj_p206 := rfl
theorem k206_0 : mj_look (mj_prog 206) 0 = some (.iload_n 1, 1, 0, 0) := by decide +kernel
theorem k206_1 : mj_look (mj_prog 206) 1 = some (.invokestatic 169, 3, 182, 1) := by decide +kernel
theorem k206_4 : mj_look (mj_prog 206) 4 = some (.ifCond .eq 10, 3, 14, 0) := by decide +kernel
theorem k206_7 : mj_look (mj_prog 206) 7 = some (.iload_n 3, 1, 0, 0) := by decide +kernel
theorem k206_8 : mj_look (mj_prog 206) 8 = some (.invokestatic 169, 3, 182, 1) := by decide +kernel
theorem k206_11 : mj_look (mj_prog 206) 11 = some (.ifCond .ne 6, 3, 17, 0) := by decide +kernel
theorem k206_14 : mj_look (mj_prog 206) 14 = some (.ldc 83, 2, 3294967295, 0) := by decide +kernel
theorem k206_16 : mj_look (mj_prog 206) 16 = some (.ireturn, 1, 0, 0) := by decide +kernel
theorem k206_17 : mj_look (mj_prog 206) 17 = some (.aload_n 0, 1, 0, 0) := by decide +kernel
theorem k206_18 : mj_look (mj_prog 206) 18 = some (.getfield 52, 3, 12, 24) := by decide +kernel
theorem k206_21 : mj_look (mj_prog 206) 21 = some (.iload_n 1, 1, 0, 0) := by decide +kernel
theorem k206_22 : mj_look (mj_prog 206) 22 = some (.iaload, 1, 0, 0) := by decide +kernel
theorem k206_23 : mj_look (mj_prog 206) 23 = some (.ifCond .lt 12, 3, 35, 0) := by decide +kernel
theorem k206_26 : mj_look (mj_prog 206) 26 = some (.aload_n 0, 1, 0, 0) := by decide +kernel
theorem k206_27 : mj_look (mj_prog 206) 27 = some (.getfield 52, 3, 12, 24) := by decide +kernel
theorem k206_30 : mj_look (mj_prog 206) 30 = some (.iload_n 3, 1, 0, 0) := by decide +kernel
theorem k206_31 : mj_look (mj_prog 206) 31 = some (.iaload, 1, 0, 0) := by decide +kernel
theorem k206_32 : mj_look (mj_prog 206) 32 = some (.ifCond .ge 6, 3, 38, 0) := by decide +kernel
theorem k206_35 : mj_look (mj_prog 206) 35 = some (.ldc 172, 2, 3294967285, 0) := by decide +kernel
theorem k206_37 : mj_look (mj_prog 206) 37 = some (.ireturn, 1, 0, 0) := by decide +kernel
theorem k206_38 : mj_look (mj_prog 206) 38 = some (.aload_n 0, 1, 0, 0) := by decide +kernel
theorem k206_39 : mj_look (mj_prog 206) 39 = some (.getfield 52, 3, 12, 24) := by decide +kernel
theorem k206_42 : mj_look (mj_prog 206) 42 = some (.iload_n 1, 1, 0, 0) := by decide +kernel
theorem k206_43 : mj_look (mj_prog 206) 43 = some (.iaload, 1, 0, 0) := by decide +kernel
theorem k206_44 : mj_look (mj_prog 206) 44 = some (.aload_n 0, 1, 0, 0) := by decide +kernel
theorem k206_45 : mj_look (mj_prog 206) 45 = some (.getfield 52, 3, 12, 24) := by decide +kernel
theorem k206_48 : mj_look (mj_prog 206) 48 = some (.iload_n 3, 1, 0, 0) := by decide +kernel
theorem k206_49 : mj_look (mj_prog 206) 49 = some (.iaload, 1, 0, 0) := by decide +kernel
theorem k206_50 : mj_look (mj_prog 206) 50 = some (.if_icmp .eq 6, 3, 56, 0) := by decide +kernel
theorem k206_53 : mj_look (mj_prog 206) 53 = some (.ldc 126, 2, 3294967284, 0) := by decide +kernel
theorem k206_55 : mj_look (mj_prog 206) 55 = some (.ireturn, 1, 0, 0) := by decide +kernel
theorem k206_56 : mj_look (mj_prog 206) 56 = some (.iload_n 2, 1, 0, 0) := by decide +kernel
theorem k206_57 : mj_look (mj_prog 206) 57 = some (.ifCond .lt 40, 3, 97, 0) := by decide +kernel
theorem k206_60 : mj_look (mj_prog 206) 60 = some (.iload 4, 2, 0, 0) := by decide +kernel
theorem k206_62 : mj_look (mj_prog 206) 62 = some (.ifCond .lt 35, 3, 97, 0) := by decide +kernel
theorem k206_65 : mj_look (mj_prog 206) 65 = some (.iload 5, 2, 0, 0) := by decide +kernel
theorem k206_67 : mj_look (mj_prog 206) 67 = some (.ifCond .lt 30, 3, 97, 0) := by decide +kernel
theorem k206_70 : mj_look (mj_prog 206) 70 = some (.iload_n 2, 1, 0, 0) := by decide +kernel
theorem k206_71 : mj_look (mj_prog 206) 71 = some (.aload_n 0, 1, 0, 0) := by decide +kernel
theorem k206_72 : mj_look (mj_prog 206) 72 = some (.getfield 55, 3, 12, 25) := by decide +kernel
theorem k206_75 : mj_look (mj_prog 206) 75 = some (.iload_n 1, 1, 0, 0) := by decide +kernel
theorem k206_76 : mj_look (mj_prog 206) 76 = some (.iaload, 1, 0, 0) := by decide +kernel
theorem k206_77 : mj_look (mj_prog 206) 77 = some (.iload 5, 2, 0, 0) := by decide +kernel
theorem k206_79 : mj_look (mj_prog 206) 79 = some (.isub, 1, 0, 0) := by decide +kernel
theorem k206_80 : mj_look (mj_prog 206) 80 = some (.if_icmp .gt 17, 3, 97, 0) := by decide +kernel
theorem k206_83 : mj_look (mj_prog 206) 83 = some (.iload 4, 2, 0, 0) := by decide +kernel
theorem k206_85 : mj_look (mj_prog 206) 85 = some (.aload_n 0, 1, 0, 0) := by decide +kernel
theorem k206_86 : mj_look (mj_prog 206) 86 = some (.getfield 55, 3, 12, 25) := by decide +kernel
theorem k206_89 : mj_look (mj_prog 206) 89 = some (.iload_n 3, 1, 0, 0) := by decide +kernel
theorem k206_90 : mj_look (mj_prog 206) 90 = some (.iaload, 1, 0, 0) := by decide +kernel
theorem k206_91 : mj_look (mj_prog 206) 91 = some (.iload 5, 2, 0, 0) := by decide +kernel
theorem k206_93 : mj_look (mj_prog 206) 93 = some (.isub, 1, 0, 0) := by decide +kernel
theorem k206_94 : mj_look (mj_prog 206) 94 = some (.if_icmp .le 6, 3, 100, 0) := by decide +kernel
theorem k206_97 : mj_look (mj_prog 206) 97 = some (.ldc 245, 2, 3294967283, 0) := by decide +kernel
theorem k206_99 : mj_look (mj_prog 206) 99 = some (.ireturn, 1, 0, 0) := by decide +kernel
theorem k206_100 : mj_look (mj_prog 206) 100 = some (.iconst 0, 1, 0, 0) := by decide +kernel
theorem k206_101 : mj_look (mj_prog 206) 101 = some (.istore 6, 2, 0, 0) := by decide +kernel
theorem k206_103 : mj_look (mj_prog 206) 103 = some (.iload 6, 2, 0, 0) := by decide +kernel
theorem k206_105 : mj_look (mj_prog 206) 105 = some (.iload 5, 2, 0, 0) := by decide +kernel
theorem k206_107 : mj_look (mj_prog 206) 107 = some (.if_icmp .ge 30, 3, 137, 0) := by decide +kernel
theorem k206_110 : mj_look (mj_prog 206) 110 = some (.aload_n 0, 1, 0, 0) := by decide +kernel
theorem k206_111 : mj_look (mj_prog 206) 111 = some (.getfield 73, 3, 12, 31) := by decide +kernel
theorem k206_114 : mj_look (mj_prog 206) 114 = some (.iload 6, 2, 0, 0) := by decide +kernel
theorem k206_116 : mj_look (mj_prog 206) 116 = some (.aload_n 0, 1, 0, 0) := by decide +kernel
theorem k206_117 : mj_look (mj_prog 206) 117 = some (.getfield 58, 3, 12, 26) := by decide +kernel
theorem k206_120 : mj_look (mj_prog 206) 120 = some (.bipush 24, 2, 0, 0) := by decide +kernel
theorem k206_122 : mj_look (mj_prog 206) 122 = some (.iload_n 1, 1, 0, 0) := by decide +kernel
theorem k206_123 : mj_look (mj_prog 206) 123 = some (.imul, 1, 0, 0) := by decide +kernel
theorem k206_124 : mj_look (mj_prog 206) 124 = some (.iload_n 2, 1, 0, 0) := by decide +kernel
theorem k206_125 : mj_look (mj_prog 206) 125 = some (.iadd, 1, 0, 0) := by decide +kernel
theorem k206_126 : mj_look (mj_prog 206) 126 = some (.iload 6, 2, 0, 0) := by decide +kernel
theorem k206_128 : mj_look (mj_prog 206) 128 = some (.iadd, 1, 0, 0) := by decide +kernel
theorem k206_129 : mj_look (mj_prog 206) 129 = some (.iaload, 1, 0, 0) := by decide +kernel
theorem k206_130 : mj_look (mj_prog 206) 130 = some (.iastore, 1, 0, 0) := by decide +kernel
theorem k206_131 : mj_look (mj_prog 206) 131 = some (.iinc 6 1, 3, 0, 0) := by decide +kernel
theorem k206_134 : mj_look (mj_prog 206) 134 = some (.goto (-31), 3, 103, 0) := by decide +kernel
theorem k206_137 : mj_look (mj_prog 206) 137 = some (.iconst 0, 1, 0, 0) := by decide +kernel
theorem k206_138 : mj_look (mj_prog 206) 138 = some (.istore 6, 2, 0, 0) := by decide +kernel
theorem k206_140 : mj_look (mj_prog 206) 140 = some (.iload 6, 2, 0, 0) := by decide +kernel
theorem k206_142 : mj_look (mj_prog 206) 142 = some (.iload 5, 2, 0, 0) := by decide +kernel
theorem k206_144 : mj_look (mj_prog 206) 144 = some (.if_icmp .ge 31, 3, 175, 0) := by decide +kernel
theorem k206_147 : mj_look (mj_prog 206) 147 = some (.aload_n 0, 1, 0, 0) := by decide +kernel
theorem k206_148 : mj_look (mj_prog 206) 148 = some (.getfield 58, 3, 12, 26) := by decide +kernel
theorem k206_151 : mj_look (mj_prog 206) 151 = some (.bipush 24, 2, 0, 0) := by decide +kernel
theorem k206_153 : mj_look (mj_prog 206) 153 = some (.iload_n 3, 1, 0, 0) := by decide +kernel
theorem k206_154 : mj_look (mj_prog 206) 154 = some (.imul, 1, 0, 0) := by decide +kernel
theorem k206_155 : mj_look (mj_prog 206) 155 = some (.iload 4, 2, 0, 0) := by decide +kernel
theorem k206_157 : mj_look (mj_prog 206) 157 = some (.iadd, 1, 0, 0) := by decide +kernel
theorem k206_158 : mj_look (mj_prog 206) 158 = some (.iload 6, 2, 0, 0) := by decide +kernel
theorem k206_160 : mj_look (mj_prog 206) 160 = some (.iadd, 1, 0, 0) := by decide +kernel
theorem k206_161 : mj_look (mj_prog 206) 161 = some (.aload_n 0, 1, 0, 0) := by decide +kernel
theorem k206_162 : mj_look (mj_prog 206) 162 = some (.getfield 73, 3, 12, 31) := by decide +kernel
theorem k206_165 : mj_look (mj_prog 206) 165 = some (.iload 6, 2, 0, 0) := by decide +kernel
theorem k206_167 : mj_look (mj_prog 206) 167 = some (.iaload, 1, 0, 0) := by decide +kernel
theorem k206_168 : mj_look (mj_prog 206) 168 = some (.iastore, 1, 0, 0) := by decide +kernel
theorem k206_169 : mj_look (mj_prog 206) 169 = some (.iinc 6 1, 3, 0, 0) := by decide +kernel
theorem k206_172 : mj_look (mj_prog 206) 172 = some (.goto (-32), 3, 140, 0) := by decide +kernel
theorem k206_175 : mj_look (mj_prog 206) 175 = some (.iload 5, 2, 0, 0) := by decide +kernel
theorem k206_177 : mj_look (mj_prog 206) 177 = some (.ireturn, 1, 0, 0) := by decide +kernel
theorem mx_207 : (mj_m 207).2.2.1 = 6 := by decide +kernel
theorem rt_207 : (mj_m 207).2.2.2.1 = (some FieldType.int) := by decide +kernel
theorem dp_207 : mj_disp 207 12 = some 207 := by decide +kernel
theorem pq_207 : mj_prog 207 = mj_p207 := rfl
theorem k207_0 : mj_look (mj_prog 207) 0 = some (.iload_n 1, 1, 0, 0) := by decide +kernel
theorem k207_1 : mj_look (mj_prog 207) 1 = some (.invokestatic 248, 3, 208, 1) := by decide +kernel
theorem k207_4 : mj_look (mj_prog 207) 4 = some (.ifCond .eq 37, 3, 41, 0) := by decide +kernel
theorem k207_7 : mj_look (mj_prog 207) 7 = some (.iload_n 2, 1, 0, 0) := by decide +kernel
theorem k207_8 : mj_look (mj_prog 207) 8 = some (.iconst 0, 1, 0, 0) := by decide +kernel
theorem k207_9 : mj_look (mj_prog 207) 9 = some (.iconst 3, 1, 0, 0) := by decide +kernel
theorem k207_10 : mj_look (mj_prog 207) 10 = some (.invokestatic 79, 3, 134, 3) := by decide +kernel
theorem k207_13 : mj_look (mj_prog 207) 13 = some (.ifCond .eq 28, 3, 41, 0) := by decide +kernel
theorem k207_16 : mj_look (mj_prog 207) 16 = some (.iload_n 2, 1, 0, 0) := by decide +kernel
theorem k207_17 : mj_look (mj_prog 207) 17 = some (.iconst 1, 1, 0, 0) := by decide +kernel
theorem k207_18 : mj_look (mj_prog 207) 18 = some (.if_icmp .ne 11, 3, 29, 0) := by decide +kernel
theorem k207_21 : mj_look (mj_prog 207) 21 = some (.aload_n 0, 1, 0, 0) := by decide +kernel
theorem k207_22 : mj_look (mj_prog 207) 22 = some (.iload_n 3, 1, 0, 0) := by decide +kernel
theorem k207_23 : mj_look (mj_prog 207) 23 = some (.invokevirtual 103, 3, 137, 1) := by decide +kernel
theorem k207_26 : mj_look (mj_prog 207) 26 = some (.ifCond .eq 15, 3, 41, 0) := by decide +kernel
theorem k207_29 : mj_look (mj_prog 207) 29 = some (.iload_n 2, 1, 0, 0) := by decide +kernel
theorem k207_30 : mj_look (mj_prog 207) 30 = some (.iconst 2, 1, 0, 0) := by decide +kernel
theorem k207_31 : mj_look (mj_prog 207) 31 = some (.if_icmp .ne 13, 3, 44, 0) := by decide +kernel
theorem k207_34 : mj_look (mj_prog 207) 34 = some (.iload_n 3, 1, 0, 0) := by decide +kernel
theorem k207_35 : mj_look (mj_prog 207) 35 = some (.invokestatic 169, 3, 182, 1) := by decide +kernel
theorem k207_38 : mj_look (mj_prog 207) 38 = some (.ifCond .ne 6, 3, 44, 0) := by decide +kernel
theorem k207_41 : mj_look (mj_prog 207) 41 = some (.ldc 83, 2, 3294967295, 0) := by decide +kernel
theorem k207_43 : mj_look (mj_prog 207) 43 = some (.ireturn, 1, 0, 0) := by decide +kernel
theorem k207_44 : mj_look (mj_prog 207) 44 = some (.iload_n 2, 1, 0, 0) := by decide +kernel
theorem k207_45 : mj_look (mj_prog 207) 45 = some (.iconst 2, 1, 0, 0) := by decide +kernel
theorem k207_46 : mj_look (mj_prog 207) 46 = some (.if_icmp .ne 15, 3, 61, 0) := by decide +kernel
theorem k207_49 : mj_look (mj_prog 207) 49 = some (.aload_n 0, 1, 0, 0) := by decide +kernel
theorem k207_50 : mj_look (mj_prog 207) 50 = some (.getfield 52, 3, 12, 24) := by decide +kernel
theorem k207_53 : mj_look (mj_prog 207) 53 = some (.iload_n 3, 1, 0, 0) := by decide +kernel
theorem k207_54 : mj_look (mj_prog 207) 54 = some (.iaload, 1, 0, 0) := by decide +kernel
theorem k207_55 : mj_look (mj_prog 207) 55 = some (.ifCond .ge 6, 3, 61, 0) := by decide +kernel
theorem k207_58 : mj_look (mj_prog 207) 58 = some (.ldc 172, 2, 3294967285, 0) := by decide +kernel
theorem k207_60 : mj_look (mj_prog 207) 60 = some (.ireturn, 1, 0, 0) := by decide +kernel
theorem k207_61 : mj_look (mj_prog 207) 61 = some (.aload_n 0, 1, 0, 0) := by decide +kernel
theorem k207_62 : mj_look (mj_prog 207) 62 = some (.getfield 61, 3, 12, 27) := by decide +kernel
theorem k207_65 : mj_look (mj_prog 207) 65 = some (.iload_n 1, 1, 0, 0) := by decide +kernel
theorem k207_66 : mj_look (mj_prog 207) 66 = some (.iaload, 1, 0, 0) := by decide +kernel
theorem k207_67 : mj_look (mj_prog 207) 67 = some (.istore 4, 2, 0, 0) := by decide +kernel
theorem k207_69 : mj_look (mj_prog 207) 69 = some (.aload_n 0, 1, 0, 0) := by decide +kernel
theorem k207_70 : mj_look (mj_prog 207) 70 = some (.getfield 61, 3, 12, 27) := by decide +kernel
theorem k207_73 : mj_look (mj_prog 207) 73 = some (.iload_n 1, 1, 0, 0) := by decide +kernel
theorem k207_74 : mj_look (mj_prog 207) 74 = some (.iload_n 2, 1, 0, 0) := by decide +kernel
theorem k207_75 : mj_look (mj_prog 207) 75 = some (.iastore, 1, 0, 0) := by decide +kernel
theorem k207_76 : mj_look (mj_prog 207) 76 = some (.aload_n 0, 1, 0, 0) := by decide +kernel
theorem k207_77 : mj_look (mj_prog 207) 77 = some (.getfield 64, 3, 12, 28) := by decide +kernel
theorem k207_80 : mj_look (mj_prog 207) 80 = some (.iload_n 1, 1, 0, 0) := by decide +kernel
theorem k207_81 : mj_look (mj_prog 207) 81 = some (.iload_n 2, 1, 0, 0) := by decide +kernel
theorem k207_82 : mj_look (mj_prog 207) 82 = some (.iconst 1, 1, 0, 0) := by decide +kernel
theorem k207_83 : mj_look (mj_prog 207) 83 = some (.if_icmp .ne 12, 3, 95, 0) := by decide +kernel
theorem k207_86 : mj_look (mj_prog 207) 86 = some (.aload_n 0, 1, 0, 0) := by decide +kernel
theorem k207_87 : mj_look (mj_prog 207) 87 = some (.iload_n 3, 1, 0, 0) := by decide +kernel
theorem k207_88 : mj_look (mj_prog 207) 88 = some (.iconst 0, 1, 0, 0) := by decide +kernel
theorem k207_89 : mj_look (mj_prog 207) 89 = some (.invokevirtual 93, 3, 141, 2) := by decide +kernel
theorem k207_92 : mj_look (mj_prog 207) 92 = some (.goto 18, 3, 110, 0) := by decide +kernel
theorem k207_95 : mj_look (mj_prog 207) 95 = some (.iload_n 2, 1, 0, 0) := by decide +kernel
theorem k207_96 : mj_look (mj_prog 207) 96 = some (.iconst 2, 1, 0, 0) := by decide +kernel
theorem k207_97 : mj_look (mj_prog 207) 97 = some (.if_icmp .ne 12, 3, 109, 0) := by decide +kernel
theorem k207_100 : mj_look (mj_prog 207) 100 = some (.aload_n 0, 1, 0, 0) := by decide +kernel
theorem k207_101 : mj_look (mj_prog 207) 101 = some (.getfield 55, 3, 12, 25) := by decide +kernel
theorem k207_104 : mj_look (mj_prog 207) 104 = some (.iload_n 3, 1, 0, 0) := by decide +kernel
theorem k207_105 : mj_look (mj_prog 207) 105 = some (.iaload, 1, 0, 0) := by decide +kernel
theorem k207_106 : mj_look (mj_prog 207) 106 = some (.goto 4, 3, 110, 0) := by decide +kernel
theorem k207_109 : mj_look (mj_prog 207) 109 = some (.iload_n 3, 1, 0, 0) := by decide +kernel
theorem k207_110 : mj_look (mj_prog 207) 110 = some (.iastore, 1, 0, 0) := by decide +kernel
theorem k207_111 : mj_look (mj_prog 207) 111 = some (.aload_n 0, 1, 0, 0) := by decide +kernel
theorem k207_112 : mj_look (mj_prog 207) 112 = some (.getfield 67, 3, 12, 29) := by decide +kernel
theorem k207_115 : mj_look (mj_prog 207) 115 = some (.iload_n 1, 1, 0, 0) := by decide +kernel
theorem k207_116 : mj_look (mj_prog 207) 116 = some (.iload_n 2, 1, 0, 0) := by decide +kernel
theorem k207_117 : mj_look (mj_prog 207) 117 = some (.iconst 1, 1, 0, 0) := by decide +kernel
theorem k207_118 : mj_look (mj_prog 207) 118 = some (.if_icmp .ne 11, 3, 129, 0) := by decide +kernel
theorem k207_121 : mj_look (mj_prog 207) 121 = some (.aload_n 0, 1, 0, 0) := by decide +kernel
theorem k207_122 : mj_look (mj_prog 207) 122 = some (.iload_n 3, 1, 0, 0) := by decide +kernel
theorem k207_123 : mj_look (mj_prog 207) 123 = some (.invokevirtual 119, 3, 148, 1) := by decide +kernel
theorem k207_126 : mj_look (mj_prog 207) 126 = some (.goto 4, 3, 130, 0) := by decide +kernel
theorem k207_129 : mj_look (mj_prog 207) 129 = some (.iconst 0, 1, 0, 0) := by decide +kernel
theorem k207_130 : mj_look (mj_prog 207) 130 = some (.iastore, 1, 0, 0) := by decide +kernel
theorem k207_131 : mj_look (mj_prog 207) 131 = some (.iconst 0, 1, 0, 0) := by decide +kernel
theorem k207_132 : mj_look (mj_prog 207) 132 = some (.istore 5, 2, 0, 0) := by decide +kernel
theorem k207_134 : mj_look (mj_prog 207) 134 = some (.iload 5, 2, 0, 0) := by decide +kernel
theorem k207_136 : mj_look (mj_prog 207) 136 = some (.bipush 24, 2, 0, 0) := by decide +kernel
theorem k207_138 : mj_look (mj_prog 207) 138 = some (.if_icmp .ge 38, 3, 176, 0) := by decide +kernel
theorem k207_141 : mj_look (mj_prog 207) 141 = some (.iload_n 2, 1, 0, 0) := by decide +kernel
theorem k207_142 : mj_look (mj_prog 207) 142 = some (.iconst 2, 1, 0, 0) := by decide +kernel
theorem k207_143 : mj_look (mj_prog 207) 143 = some (.if_icmp .ne 33, 3, 176, 0) := by decide +kernel
theorem k207_146 : mj_look (mj_prog 207) 146 = some (.aload_n 0, 1, 0, 0) := by decide +kernel
theorem k207_147 : mj_look (mj_prog 207) 147 = some (.getfield 70, 3, 12, 30) := by decide +kernel
theorem k207_150 : mj_look (mj_prog 207) 150 = some (.bipush 24, 2, 0, 0) := by decide +kernel
theorem k207_152 : mj_look (mj_prog 207) 152 = some (.iload_n 1, 1, 0, 0) := by decide +kernel
theorem k207_153 : mj_look (mj_prog 207) 153 = some (.imul, 1, 0, 0) := by decide +kernel
theorem k207_154 : mj_look (mj_prog 207) 154 = some (.iload 5, 2, 0, 0) := by decide +kernel
theorem k207_156 : mj_look (mj_prog 207) 156 = some (.iadd, 1, 0, 0) := by decide +kernel
theorem k207_157 : mj_look (mj_prog 207) 157 = some (.aload_n 0, 1, 0, 0) := by decide +kernel
theorem k207_158 : mj_look (mj_prog 207) 158 = some (.getfield 58, 3, 12, 26) := by decide +kernel
theorem k207_161 : mj_look (mj_prog 207) 161 = some (.bipush 24, 2, 0, 0) := by decide +kernel
theorem k207_163 : mj_look (mj_prog 207) 163 = some (.iload_n 3, 1, 0, 0) := by decide +kernel
theorem k207_164 : mj_look (mj_prog 207) 164 = some (.imul, 1, 0, 0) := by decide +kernel
theorem k207_165 : mj_look (mj_prog 207) 165 = some (.iload 5, 2, 0, 0) := by decide +kernel
theorem k207_167 : mj_look (mj_prog 207) 167 = some (.iadd, 1, 0, 0) := by decide +kernel
theorem k207_168 : mj_look (mj_prog 207) 168 = some (.iaload, 1, 0, 0) := by decide +kernel
theorem k207_169 : mj_look (mj_prog 207) 169 = some (.iastore, 1, 0, 0) := by decide +kernel
theorem k207_170 : mj_look (mj_prog 207) 170 = some (.iinc 5 1, 3, 0, 0) := by decide +kernel
theorem k207_173 : mj_look (mj_prog 207) 173 = some (.goto (-39), 3, 134, 0) := by decide +kernel
theorem k207_176 : mj_look (mj_prog 207) 176 = some (.iload 4, 2, 0, 0) := by decide +kernel
theorem k207_178 : mj_look (mj_prog 207) 178 = some (.ireturn, 1, 0, 0) := by decide +kernel
theorem mx_208 : (mj_m 208).2.2.1 = 1 := by decide +kernel
theorem rt_208 : (mj_m 208).2.2.2.1 = (some FieldType.boolean) := by decide +kernel
theorem dp_208 : mj_disp 208 12 = some 208 := by decide +kernel
theorem pq_208 : mj_prog 208 = mj_p208 := rfl
theorem k208_0 : mj_look (mj_prog 208) 0 = some (.iload_n 0, 1, 0, 0) := by decide +kernel
theorem k208_1 : mj_look (mj_prog 208) 1 = some (.iconst 0, 1, 0, 0) := by decide +kernel
theorem k208_2 : mj_look (mj_prog 208) 2 = some (.iconst 4, 1, 0, 0) := by decide +kernel
theorem k208_3 : mj_look (mj_prog 208) 3 = some (.invokestatic 79, 3, 134, 3) := by decide +kernel
theorem k208_6 : mj_look (mj_prog 208) 6 = some (.ireturn, 1, 0, 0) := by decide +kernel
theorem mx_209 : (mj_m 209).2.2.1 = 3 := by decide +kernel
theorem rt_209 : (mj_m 209).2.2.2.1 = (some FieldType.int) := by decide +kernel
theorem dp_209 : mj_disp 209 12 = some 209 := by decide +kernel
theorem pq_209 : mj_prog 209 = mj_p209 := rfl
theorem k209_0 : mj_look (mj_prog 209) 0 = some (.iload_n 1, 1, 0, 0) := by decide +kernel
theorem k209_1 : mj_look (mj_prog 209) 1 = some (.invokestatic 248, 3, 208, 1) := by decide +kernel
theorem k209_4 : mj_look (mj_prog 209) 4 = some (.ifCond .eq 12, 3, 16, 0) := by decide +kernel
theorem k209_7 : mj_look (mj_prog 209) 7 = some (.iload_n 2, 1, 0, 0) := by decide +kernel
theorem k209_8 : mj_look (mj_prog 209) 8 = some (.iconst 0, 1, 0, 0) := by decide +kernel
theorem k209_9 : mj_look (mj_prog 209) 9 = some (.iconst 5, 1, 0, 0) := by decide +kernel
theorem k209_10 : mj_look (mj_prog 209) 10 = some (.invokestatic 79, 3, 134, 3) := by decide +kernel
theorem k209_13 : mj_look (mj_prog 209) 13 = some (.ifCond .ne 6, 3, 19, 0) := by decide +kernel
theorem k209_16 : mj_look (mj_prog 209) 16 = some (.ldc 83, 2, 3294967295, 0) := by decide +kernel
theorem k209_18 : mj_look (mj_prog 209) 18 = some (.ireturn, 1, 0, 0) := by decide +kernel
theorem k209_19 : mj_look (mj_prog 209) 19 = some (.aload_n 0, 1, 0, 0) := by decide +kernel
theorem k209_20 : mj_look (mj_prog 209) 20 = some (.getfield 61, 3, 12, 27) := by decide +kernel
theorem k209_23 : mj_look (mj_prog 209) 23 = some (.iload_n 1, 1, 0, 0) := by decide +kernel
theorem k209_24 : mj_look (mj_prog 209) 24 = some (.iaload, 1, 0, 0) := by decide +kernel
theorem k209_25 : mj_look (mj_prog 209) 25 = some (.ifCond .ne 6, 3, 31, 0) := by decide +kernel
theorem k209_28 : mj_look (mj_prog 209) 28 = some (.ldc 172, 2, 3294967285, 0) := by decide +kernel
theorem k209_30 : mj_look (mj_prog 209) 30 = some (.ireturn, 1, 0, 0) := by decide +kernel
theorem k209_31 : mj_look (mj_prog 209) 31 = some (.aload_n 0, 1, 0, 0) := by decide +kernel
theorem k209_32 : mj_look (mj_prog 209) 32 = some (.getfield 61, 3, 12, 27) := by decide +kernel
theorem k209_35 : mj_look (mj_prog 209) 35 = some (.iload_n 1, 1, 0, 0) := by decide +kernel
theorem k209_36 : mj_look (mj_prog 209) 36 = some (.iaload, 1, 0, 0) := by decide +kernel
theorem k209_37 : mj_look (mj_prog 209) 37 = some (.iconst 1, 1, 0, 0) := by decide +kernel
theorem k209_38 : mj_look (mj_prog 209) 38 = some (.if_icmp .ne 25, 3, 63, 0) := by decide +kernel
theorem k209_41 : mj_look (mj_prog 209) 41 = some (.aload_n 0, 1, 0, 0) := by decide +kernel
theorem k209_42 : mj_look (mj_prog 209) 42 = some (.getfield 64, 3, 12, 28) := by decide +kernel
theorem k209_45 : mj_look (mj_prog 209) 45 = some (.iload_n 1, 1, 0, 0) := by decide +kernel
theorem k209_46 : mj_look (mj_prog 209) 46 = some (.iaload, 1, 0, 0) := by decide +kernel
theorem k209_47 : mj_look (mj_prog 209) 47 = some (.iload_n 2, 1, 0, 0) := by decide +kernel
theorem k209_48 : mj_look (mj_prog 209) 48 = some (.invokestatic 122, 3, 150, 2) := by decide +kernel
theorem k209_51 : mj_look (mj_prog 209) 51 = some (.ifCond .eq 12, 3, 63, 0) := by decide +kernel
theorem k209_54 : mj_look (mj_prog 209) 54 = some (.aload_n 0, 1, 0, 0) := by decide +kernel
theorem k209_55 : mj_look (mj_prog 209) 55 = some (.getfield 67, 3, 12, 29) := by decide +kernel
theorem k209_58 : mj_look (mj_prog 209) 58 = some (.iload_n 1, 1, 0, 0) := by decide +kernel
theorem k209_59 : mj_look (mj_prog 209) 59 = some (.iaload, 1, 0, 0) := by decide +kernel
theorem k209_60 : mj_look (mj_prog 209) 60 = some (.goto 5, 3, 65, 0) := by decide +kernel
theorem k209_63 : mj_look (mj_prog 209) 63 = some (.ldc 126, 2, 3294967284, 0) := by decide +kernel
theorem k209_65 : mj_look (mj_prog 209) 65 = some (.ireturn, 1, 0, 0) := by decide +kernel
theorem mx_210 : (mj_m 210).2.2.1 = 4 := by decide +kernel
theorem rt_210 : (mj_m 210).2.2.2.1 = (some FieldType.int) := by decide +kernel
theorem dp_210 : mj_disp 210 12 = some 210 := by decide +kernel
theorem pq_210 : mj_prog 210 = mj_p210 := rfl
theorem k210_0 : mj_look (mj_prog 210) 0 = some (.iload_n 1, 1, 0, 0) := by decide +kernel
theorem k210_1 : mj_look (mj_prog 210) 1 = some (.invokestatic 248, 3, 208, 1) := by decide +kernel
theorem k210_4 : mj_look (mj_prog 210) 4 = some (.ifCond .ne 6, 3, 10, 0) := by decide +kernel
theorem k210_7 : mj_look (mj_prog 210) 7 = some (.ldc 83, 2, 3294967295, 0) := by decide +kernel
theorem k210_9 : mj_look (mj_prog 210) 9 = some (.ireturn, 1, 0, 0) := by decide +kernel
theorem k210_10 : mj_look (mj_prog 210) 10 = some (.aload_n 0, 1, 0, 0) := by decide +kernel
theorem k210_11 : mj_look (mj_prog 210) 11 = some (.getfield 61, 3, 12, 27) := by decide +kernel
theorem k210_14 : mj_look (mj_prog 210) 14 = some (.iload_n 1, 1, 0, 0) := by decide +kernel
theorem k210_15 : mj_look (mj_prog 210) 15 = some (.iaload, 1, 0, 0) := by decide +kernel
theorem k210_16 : mj_look (mj_prog 210) 16 = some (.ifCond .ne 6, 3, 22, 0) := by decide +kernel
theorem k210_19 : mj_look (mj_prog 210) 19 = some (.ldc 172, 2, 3294967285, 0) := by decide +kernel
theorem k210_21 : mj_look (mj_prog 210) 21 = some (.ireturn, 1, 0, 0) := by decide +kernel
theorem k210_22 : mj_look (mj_prog 210) 22 = some (.aload_n 0, 1, 0, 0) := by decide +kernel
theorem k210_23 : mj_look (mj_prog 210) 23 = some (.getfield 61, 3, 12, 27) := by decide +kernel
theorem k210_26 : mj_look (mj_prog 210) 26 = some (.iload_n 1, 1, 0, 0) := by decide +kernel
theorem k210_27 : mj_look (mj_prog 210) 27 = some (.iaload, 1, 0, 0) := by decide +kernel
theorem k210_28 : mj_look (mj_prog 210) 28 = some (.iconst 2, 1, 0, 0) := by decide +kernel
theorem k210_29 : mj_look (mj_prog 210) 29 = some (.if_icmp .eq 6, 3, 35, 0) := by decide +kernel
theorem k210_32 : mj_look (mj_prog 210) 32 = some (.ldc 126, 2, 3294967284, 0) := by decide +kernel
theorem k210_34 : mj_look (mj_prog 210) 34 = some (.ireturn, 1, 0, 0) := by decide +kernel
theorem k210_35 : mj_look (mj_prog 210) 35 = some (.iload_n 2, 1, 0, 0) := by decide +kernel
theorem k210_36 : mj_look (mj_prog 210) 36 = some (.iconst 0, 1, 0, 0) := by decide +kernel
theorem k210_37 : mj_look (mj_prog 210) 37 = some (.aload_n 0, 1, 0, 0) := by decide +kernel
theorem k210_38 : mj_look (mj_prog 210) 38 = some (.getfield 64, 3, 12, 28) := by decide +kernel
theorem k210_41 : mj_look (mj_prog 210) 41 = some (.iload_n 1, 1, 0, 0) := by decide +kernel
theorem k210_42 : mj_look (mj_prog 210) 42 = some (.iaload, 1, 0, 0) := by decide +kernel
theorem k210_43 : mj_look (mj_prog 210) 43 = some (.iconst 1, 1, 0, 0) := by decide +kernel
theorem k210_44 : mj_look (mj_prog 210) 44 = some (.isub, 1, 0, 0) := by decide +kernel
theorem k210_45 : mj_look (mj_prog 210) 45 = some (.invokestatic 79, 3, 134, 3) := by decide +kernel
theorem k210_48 : mj_look (mj_prog 210) 48 = some (.ifCond .ne 6, 3, 54, 0) := by decide +kernel
theorem k210_51 : mj_look (mj_prog 210) 51 = some (.ldc 245, 2, 3294967283, 0) := by decide +kernel
theorem k210_53 : mj_look (mj_prog 210) 53 = some (.ireturn, 1, 0, 0) := by decide +kernel
theorem k210_54 : mj_look (mj_prog 210) 54 = some (.aload_n 0, 1, 0, 0) := by decide +kernel
theorem k210_55 : mj_look (mj_prog 210) 55 = some (.getfield 70, 3, 12, 30) := by decide +kernel
theorem k210_58 : mj_look (mj_prog 210) 58 = some (.bipush 24, 2, 0, 0) := by decide +kernel
theorem k210_60 : mj_look (mj_prog 210) 60 = some (.iload_n 1, 1, 0, 0) := by decide +kernel
theorem k210_61 : mj_look (mj_prog 210) 61 = some (.imul, 1, 0, 0) := by decide +kernel
theorem k210_62 : mj_look (mj_prog 210) 62 = some (.iload_n 2, 1, 0, 0) := by decide +kernel
theorem k210_63 : mj_look (mj_prog 210) 63 = some (.iadd, 1, 0, 0) := by decide +kernel
theorem k210_64 : mj_look (mj_prog 210) 64 = some (.iaload, 1, 0, 0) := by decide +kernel
theorem k210_65 : mj_look (mj_prog 210) 65 = some (.istore_n 3, 1, 0, 0) := by decide +kernel
theorem k210_66 : mj_look (mj_prog 210) 66 = some (.iload_n 3, 1, 0, 0) := by decide +kernel
theorem k210_67 : mj_look (mj_prog 210) 67 = some (.ldc 165, 2, 3294967291, 0) := by decide +kernel
theorem k210_69 : mj_look (mj_prog 210) 69 = some (.if_icmp .ne 8, 3, 77, 0) := by decide +kernel
theorem k210_72 : mj_look (mj_prog 210) 72 = some (.ldc 126, 2, 3294967284, 0) := by decide +kernel
theorem k210_74 : mj_look (mj_prog 210) 74 = some (.goto 4, 3, 78, 0) := by decide +kernel
theorem k210_77 : mj_look (mj_prog 210) 77 = some (.iload_n 3, 1, 0, 0) := by decide +kernel
theorem k210_78 : mj_look (mj_prog 210) 78 = some (.ireturn, 1, 0, 0) := by decide +kernel
theorem mx_211 : (mj_m 211).2.2.1 = 3 := by decide +kernel
theorem rt_211 : (mj_m 211).2.2.2.1 = (some FieldType.int) := by decide +kernel
theorem dp_211 : mj_disp 211 12 = some 211 := by decide +kernel
theorem pq_211 : mj_prog 211 = mj_p211 := rfl
theorem k211_0 : mj_look (mj_prog 211) 0 = some (.iload_n 1, 1, 0, 0) := by decide +kernel
theorem k211_1 : mj_look (mj_prog 211) 1 = some (.invokestatic 248, 3, 208, 1) := by decide +kernel
theorem k211_4 : mj_look (mj_prog 211) 4 = some (.ifCond .ne 6, 3, 10, 0) := by decide +kernel
theorem k211_7 : mj_look (mj_prog 211) 7 = some (.ldc 83, 2, 3294967295, 0) := by decide +kernel
theorem k211_9 : mj_look (mj_prog 211) 9 = some (.ireturn, 1, 0, 0) := by decide +kernel
theorem k211_10 : mj_look (mj_prog 211) 10 = some (.aload_n 0, 1, 0, 0) := by decide +kernel
theorem k211_11 : mj_look (mj_prog 211) 11 = some (.getfield 61, 3, 12, 27) := by decide +kernel
theorem k211_14 : mj_look (mj_prog 211) 14 = some (.iload_n 1, 1, 0, 0) := by decide +kernel
theorem k211_15 : mj_look (mj_prog 211) 15 = some (.iaload, 1, 0, 0) := by decide +kernel
theorem k211_16 : mj_look (mj_prog 211) 16 = some (.ifCond .ne 6, 3, 22, 0) := by decide +kernel
theorem k211_19 : mj_look (mj_prog 211) 19 = some (.ldc 172, 2, 3294967285, 0) := by decide +kernel
theorem k211_21 : mj_look (mj_prog 211) 21 = some (.ireturn, 1, 0, 0) := by decide +kernel
theorem k211_22 : mj_look (mj_prog 211) 22 = some (.aload_n 0, 1, 0, 0) := by decide +kernel
theorem k211_23 : mj_look (mj_prog 211) 23 = some (.getfield 61, 3, 12, 27) := by decide +kernel
theorem k211_26 : mj_look (mj_prog 211) 26 = some (.iload_n 1, 1, 0, 0) := by decide +kernel
theorem k211_27 : mj_look (mj_prog 211) 27 = some (.iaload, 1, 0, 0) := by decide +kernel
theorem k211_28 : mj_look (mj_prog 211) 28 = some (.iconst 3, 1, 0, 0) := by decide +kernel
theorem k211_29 : mj_look (mj_prog 211) 29 = some (.if_icmp .eq 6, 3, 35, 0) := by decide +kernel
theorem k211_32 : mj_look (mj_prog 211) 32 = some (.ldc 126, 2, 3294967284, 0) := by decide +kernel
theorem k211_34 : mj_look (mj_prog 211) 34 = some (.ireturn, 1, 0, 0) := by decide +kernel
theorem k211_35 : mj_look (mj_prog 211) 35 = some (.iload_n 2, 1, 0, 0) := by decide +kernel
theorem k211_36 : mj_look (mj_prog 211) 36 = some (.ifCond .ne 8, 3, 44, 0) := by decide +kernel
theorem k211_39 : mj_look (mj_prog 211) 39 = some (.ldc 251, 2, 3294967294, 0) := by decide +kernel
theorem k211_41 : mj_look (mj_prog 211) 41 = some (.goto 20, 3, 61, 0) := by decide +kernel
theorem k211_44 : mj_look (mj_prog 211) 44 = some (.iload_n 2, 1, 0, 0) := by decide +kernel
theorem k211_45 : mj_look (mj_prog 211) 45 = some (.iconst (-1), 1, 0, 0) := by decide +kernel
theorem k211_46 : mj_look (mj_prog 211) 46 = some (.if_icmp .ne 7, 3, 53, 0) := by decide +kernel
theorem k211_49 : mj_look (mj_prog 211) 49 = some (.iconst 0, 1, 0, 0) := by decide +kernel
theorem k211_50 : mj_look (mj_prog 211) 50 = some (.goto 11, 3, 61, 0) := by decide +kernel
theorem k211_53 : mj_look (mj_prog 211) 53 = some (.aload_n 0, 1, 0, 0) := by decide +kernel
theorem k211_54 : mj_look (mj_prog 211) 54 = some (.getfield 64, 3, 12, 28) := by decide +kernel
theorem k211_57 : mj_look (mj_prog 211) 57 = some (.iload_n 1, 1, 0, 0) := by decide +kernel
theorem k211_58 : mj_look (mj_prog 211) 58 = some (.iaload, 1, 0, 0) := by decide +kernel
theorem k211_59 : mj_look (mj_prog 211) 59 = some (.iload_n 2, 1, 0, 0) := by decide +kernel
theorem k211_60 : mj_look (mj_prog 211) 60 = some (.irem, 1, 0, 0) := by decide +kernel
theorem k211_61 : mj_look (mj_prog 211) 61 = some (.ireturn, 1, 0, 0) := by decide +kernel
theorem mx_212 : (mj_m 212).2.2.1 = 2 := by decide +kernel
theorem rt_212 : (mj_m 212).2.2.2.1 = (some FieldType.int) := by decide +kernel
theorem dp_212 : mj_disp 212 12 = some 212 := by decide +kernel
theorem pq_212 : mj_prog 212 = mj_p212 := rfl
theorem k212_0 : mj_look (mj_prog 212) 0 = some (.aload_n 0, 1, 0, 0) := by decide +kernel
theorem k212_1 : mj_look (mj_prog 212) 1 = some (.getfield 252, 3, 12, 33) := by decide +kernel
theorem k212_4 : mj_look (mj_prog 212) 4 = some (.bipush 60, 2, 0, 0) := by decide +kernel
theorem k212_6 : mj_look (mj_prog 212) 6 = some (.if_icmp .ne 6, 3, 12, 0) := by decide +kernel
theorem k212_9 : mj_look (mj_prog 212) 9 = some (.ldc 84, 2, 3294967293, 0) := by decide +kernel
theorem k212_11 : mj_look (mj_prog 212) 11 = some (.ireturn, 1, 0, 0) := by decide +kernel
theorem k212_12 : mj_look (mj_prog 212) 12 = some (.aload_n 0, 1, 0, 0) := by decide +kernel
theorem k212_13 : mj_look (mj_prog 212) 13 = some (.getfield 76, 3, 12, 32) := by decide +kernel
theorem k212_16 : mj_look (mj_prog 212) 16 = some (.aload_n 0, 1, 0, 0) := by decide +kernel
theorem k212_17 : mj_look (mj_prog 212) 17 = some (.getfield 252, 3, 12, 33) := by decide +kernel
theorem k212_20 : mj_look (mj_prog 212) 20 = some (.iload_n 1, 1, 0, 0) := by decide +kernel
theorem k212_21 : mj_look (mj_prog 212) 21 = some (.iastore, 1, 0, 0) := by decide +kernel
theorem k212_22 : mj_look (mj_prog 212) 22 = some (.aload_n 0, 1, 0, 0) := by decide +kernel
theorem k212_23 : mj_look (mj_prog 212) 23 = some (.dup, 1, 0, 0) := by decide +kernel
theorem k212_24 : mj_look (mj_prog 212) 24 = some (.getfield 252, 3, 12, 33) := by decide +kernel
theorem k212_27 : mj_look (mj_prog 212) 27 = some (.iconst 1, 1, 0, 0) := by decide +kernel
theorem k212_28 : mj_look (mj_prog 212) 28 = some (.iadd, 1, 0, 0) := by decide +kernel
theorem k212_29 : mj_look (mj_prog 212) 29 = some (.putfield 252, 3, 12, 33) := by decide +kernel
theorem k212_32 : mj_look (mj_prog 212) 32 = some (.aload_n 0, 1, 0, 0) := by decide +kernel
theorem k212_33 : mj_look (mj_prog 212) 33 = some (.getfield 252, 3, 12, 33) := by decide +kernel
theorem k212_36 : mj_look (mj_prog 212) 36 = some (.ireturn, 1, 0, 0) := by decide +kernel
theorem mx_213 : (mj_m 213).2.2.1 = 6 := by decide +kernel
theorem rt_213 : (mj_m 213).2.2.2.1 = (some FieldType.int) := by decide +kernel
theorem dp_213 : mj_disp 213 12 = some 213 := by decide +kernel
theorem pq_213 : mj_prog 213 = mj_p213 := rfl
theorem k213_0 : mj_look (mj_prog 213) 0 = some (.aload_n 0, 1, 0, 0) := by decide +kernel
theorem k213_1 : mj_look (mj_prog 213) 1 = some (.getfield 252, 3, 12, 33) := by decide +kernel
theorem k213_4 : mj_look (mj_prog 213) 4 = some (.istore_n 2, 1, 0, 0) := by decide +kernel
theorem k213_5 : mj_look (mj_prog 213) 5 = some (.aload_n 0, 1, 0, 0) := by decide +kernel
theorem k213_6 : mj_look (mj_prog 213) 6 = some (.iconst 0, 1, 0, 0) := by decide +kernel
theorem k213_7 : mj_look (mj_prog 213) 7 = some (.putfield 252, 3, 12, 33) := by decide +kernel
theorem k213_10 : mj_look (mj_prog 213) 10 = some (.iload_n 1, 1, 0, 0) := by decide +kernel
theorem k213_11 : mj_look (mj_prog 213) 11 = some (.iconst 1, 1, 0, 0) := by decide +kernel
theorem k213_12 : mj_look (mj_prog 213) 12 = some (.bipush 30, 2, 0, 0) := by decide +kernel
theorem k213_14 : mj_look (mj_prog 213) 14 = some (.invokestatic 79, 3, 134, 3) := by decide +kernel
theorem k213_17 : mj_look (mj_prog 213) 17 = some (.ifCond .ne 6, 3, 23, 0) := by decide +kernel
theorem k213_20 : mj_look (mj_prog 213) 20 = some (.ldc 83, 2, 3294967295, 0) := by decide +kernel
theorem k213_22 : mj_look (mj_prog 213) 22 = some (.ireturn, 1, 0, 0) := by decide +kernel
theorem k213_23 : mj_look (mj_prog 213) 23 = some (.aload_n 0, 1, 0, 0) := by decide +kernel
theorem k213_24 : mj_look (mj_prog 213) 24 = some (.getfield 255, 3, 12, 3) := by decide +kernel
theorem k213_27 : mj_look (mj_prog 213) 27 = some (.ifCond .ne 6, 3, 33, 0) := by decide +kernel
theorem k213_30 : mj_look (mj_prog 213) 30 = some (.ldc 251, 2, 3294967294, 0) := by decide +kernel
theorem k213_32 : mj_look (mj_prog 213) 32 = some (.ireturn, 1, 0, 0) := by decide +kernel
theorem k213_33 : mj_look (mj_prog 213) 33 = some (.aload_n 0, 1, 0, 0) := by decide +kernel
theorem k213_34 : mj_look (mj_prog 213) 34 = some (.getfield 9, 3, 12, 0) := by decide +kernel
theorem k213_37 : mj_look (mj_prog 213) 37 = some (.aload_n 0, 1, 0, 0) := by decide +kernel
theorem k213_38 : mj_look (mj_prog 213) 38 = some (.getfield 16, 3, 12, 2) := by decide +kernel
theorem k213_41 : mj_look (mj_prog 213) 41 = some (.invokestatic 259, 3, 214, 2) := by decide +kernel
theorem k213_44 : mj_look (mj_prog 213) 44 = some (.aload_n 0, 1, 0, 0) := by decide +kernel
theorem k213_45 : mj_look (mj_prog 213) 45 = some (.getfield 13, 3, 12, 1) := by decide +kernel
theorem k213_48 : mj_look (mj_prog 213) 48 = some (.aload_n 0, 1, 0, 0) := by decide +kernel
theorem k213_49 : mj_look (mj_prog 213) 49 = some (.getfield 9, 3, 12, 0) := by decide +kernel
theorem k213_52 : mj_look (mj_prog 213) 52 = some (.invokestatic 259, 3, 214, 2) := by decide +kernel
theorem k213_55 : mj_look (mj_prog 213) 55 = some (.iconst 2, 1, 0, 0) := by decide +kernel
theorem k213_56 : mj_look (mj_prog 213) 56 = some (.sipush 9999, 3, 0, 0) := by decide +kernel
theorem k213_59 : mj_look (mj_prog 213) 59 = some (.aload_n 0, 1, 0, 0) := by decide +kernel
theorem k213_60 : mj_look (mj_prog 213) 60 = some (.getfield 9, 3, 12, 0) := by decide +kernel
theorem k213_63 : mj_look (mj_prog 213) 63 = some (.iconst 2, 1, 0, 0) := by decide +kernel
theorem k213_64 : mj_look (mj_prog 213) 64 = some (.iaload, 1, 0, 0) := by decide +kernel
theorem k213_65 : mj_look (mj_prog 213) 65 = some (.isub, 1, 0, 0) := by decide +kernel
theorem k213_66 : mj_look (mj_prog 213) 66 = some (.iconst 0, 1, 0, 0) := by decide +kernel
theorem k213_67 : mj_look (mj_prog 213) 67 = some (.iload_n 1, 1, 0, 0) := by decide +kernel
theorem k213_68 : mj_look (mj_prog 213) 68 = some (.invokestatic 100, 3, 144, 3) := by decide +kernel
theorem k213_71 : mj_look (mj_prog 213) 71 = some (.imul, 1, 0, 0) := by decide +kernel
theorem k213_72 : mj_look (mj_prog 213) 72 = some (.istore_n 3, 1, 0, 0) := by decide +kernel
theorem k213_73 : mj_look (mj_prog 213) 73 = some (.iconst 0, 1, 0, 0) := by decide +kernel
theorem k213_74 : mj_look (mj_prog 213) 74 = some (.istore 4, 2, 0, 0) := by decide +kernel
theorem k213_76 : mj_look (mj_prog 213) 76 = some (.iconst 0, 1, 0, 0) := by decide +kernel
theorem k213_77 : mj_look (mj_prog 213) 77 = some (.istore 5, 2, 0, 0) := by decide +kernel
theorem k213_79 : mj_look (mj_prog 213) 79 = some (.iconst 2, 1, 0, 0) := by decide +kernel
theorem k213_80 : mj_look (mj_prog 213) 80 = some (.iload 5, 2, 0, 0) := by decide +kernel
theorem k213_82 : mj_look (mj_prog 213) 82 = some (.imul, 1, 0, 0) := by decide +kernel
theorem k213_83 : mj_look (mj_prog 213) 83 = some (.iload_n 3, 1, 0, 0) := by decide +kernel
theorem k213_84 : mj_look (mj_prog 213) 84 = some (.if_icmp .ge 95, 3, 179, 0) := by decide +kernel
theorem k213_87 : mj_look (mj_prog 213) 87 = some (.iload 4, 2, 0, 0) := by decide +kernel
theorem k213_89 : mj_look (mj_prog 213) 89 = some (.iconst 2, 1, 0, 0) := by decide +kernel
theorem k213_90 : mj_look (mj_prog 213) 90 = some (.iload 5, 2, 0, 0) := by decide +kernel
theorem k213_92 : mj_look (mj_prog 213) 92 = some (.imul, 1, 0, 0) := by decide +kernel
theorem k213_93 : mj_look (mj_prog 213) 93 = some (.if_icmp .ne 86, 3, 179, 0) := by decide +kernel
theorem k213_96 : mj_look (mj_prog 213) 96 = some (.aload_n 0, 1, 0, 0) := by decide +kernel
theorem k213_97 : mj_look (mj_prog 213) 97 = some (.invokevirtual 147, 3, 163, 0) := by decide +kernel
theorem k213_100 : mj_look (mj_prog 213) 100 = some (.iload 4, 2, 0, 0) := by decide +kernel
theorem k213_102 : mj_look (mj_prog 213) 102 = some (.iload 4, 2, 0, 0) := by decide +kernel
theorem k213_104 : mj_look (mj_prog 213) 104 = some (.iload_n 2, 1, 0, 0) := by decide +kernel
theorem k213_105 : mj_look (mj_prog 213) 105 = some (.if_icmp .ge 22, 3, 127, 0) := by decide +kernel
theorem k213_108 : mj_look (mj_prog 213) 108 = some (.aload_n 0, 1, 0, 0) := by decide +kernel
theorem k213_109 : mj_look (mj_prog 213) 109 = some (.getfield 76, 3, 12, 32) := by decide +kernel
theorem k213_112 : mj_look (mj_prog 213) 112 = some (.iload 4, 2, 0, 0) := by decide +kernel
theorem k213_114 : mj_look (mj_prog 213) 114 = some (.iaload, 1, 0, 0) := by decide +kernel
theorem k213_115 : mj_look (mj_prog 213) 115 = some (.aload_n 0, 1, 0, 0) := by decide +kernel
theorem k213_116 : mj_look (mj_prog 213) 116 = some (.iconst 1, 1, 0, 0) := by decide +kernel
theorem k213_117 : mj_look (mj_prog 213) 117 = some (.invokevirtual 150, 3, 161, 1) := by decide +kernel
theorem k213_120 : mj_look (mj_prog 213) 120 = some (.if_icmp .ne 7, 3, 127, 0) := by decide +kernel
theorem k213_123 : mj_look (mj_prog 213) 123 = some (.iconst 1, 1, 0, 0) := by decide +kernel
theorem k213_124 : mj_look (mj_prog 213) 124 = some (.goto 4, 3, 128, 0) := by decide +kernel
theorem k213_127 : mj_look (mj_prog 213) 127 = some (.iconst 0, 1, 0, 0) := by decide +kernel
theorem k213_128 : mj_look (mj_prog 213) 128 = some (.iadd, 1, 0, 0) := by decide +kernel
theorem k213_129 : mj_look (mj_prog 213) 129 = some (.istore 4, 2, 0, 0) := by decide +kernel
theorem k213_131 : mj_look (mj_prog 213) 131 = some (.iload 4, 2, 0, 0) := by decide +kernel
theorem k213_133 : mj_look (mj_prog 213) 133 = some (.iload 4, 2, 0, 0) := by decide +kernel
theorem k213_135 : mj_look (mj_prog 213) 135 = some (.iconst 2, 1, 0, 0) := by decide +kernel
theorem k213_136 : mj_look (mj_prog 213) 136 = some (.iload 5, 2, 0, 0) := by decide +kernel
theorem k213_138 : mj_look (mj_prog 213) 138 = some (.imul, 1, 0, 0) := by decide +kernel
theorem k213_139 : mj_look (mj_prog 213) 139 = some (.iconst 1, 1, 0, 0) := by decide +kernel
theorem k213_140 : mj_look (mj_prog 213) 140 = some (.iadd, 1, 0, 0) := by decide +kernel
theorem k213_141 : mj_look (mj_prog 213) 141 = some (.if_icmp .ne 28, 3, 169, 0) := by decide +kernel
theorem k213_144 : mj_look (mj_prog 213) 144 = some (.iload 4, 2, 0, 0) := by decide +kernel
theorem k213_146 : mj_look (mj_prog 213) 146 = some (.iload_n 2, 1, 0, 0) := by decide +kernel
theorem k213_147 : mj_look (mj_prog 213) 147 = some (.if_icmp .ge 22, 3, 169, 0) := by decide +kernel
theorem k213_150 : mj_look (mj_prog 213) 150 = some (.aload_n 0, 1, 0, 0) := by decide +kernel
theorem k213_151 : mj_look (mj_prog 213) 151 = some (.getfield 76, 3, 12, 32) := by decide +kernel
theorem k213_154 : mj_look (mj_prog 213) 154 = some (.iload 4, 2, 0, 0) := by decide +kernel
theorem k213_156 : mj_look (mj_prog 213) 156 = some (.iaload, 1, 0, 0) := by decide +kernel
theorem k213_157 : mj_look (mj_prog 213) 157 = some (.aload_n 0, 1, 0, 0) := by decide +kernel
theorem k213_158 : mj_look (mj_prog 213) 158 = some (.iconst 3, 1, 0, 0) := by decide +kernel
theorem k213_159 : mj_look (mj_prog 213) 159 = some (.invokevirtual 150, 3, 161, 1) := by decide +kernel
theorem k213_162 : mj_look (mj_prog 213) 162 = some (.if_icmp .ne 7, 3, 169, 0) := by decide +kernel
theorem k213_165 : mj_look (mj_prog 213) 165 = some (.iconst 1, 1, 0, 0) := by decide +kernel
theorem k213_166 : mj_look (mj_prog 213) 166 = some (.goto 4, 3, 170, 0) := by decide +kernel
theorem k213_169 : mj_look (mj_prog 213) 169 = some (.iconst 0, 1, 0, 0) := by decide +kernel
theorem k213_170 : mj_look (mj_prog 213) 170 = some (.iadd, 1, 0, 0) := by decide +kernel
theorem k213_171 : mj_look (mj_prog 213) 171 = some (.istore 4, 2, 0, 0) := by decide +kernel
theorem k213_173 : mj_look (mj_prog 213) 173 = some (.iinc 5 1, 3, 0, 0) := by decide +kernel
theorem k213_176 : mj_look (mj_prog 213) 176 = some (.goto (-97), 3, 79, 0) := by decide +kernel
theorem k213_179 : mj_look (mj_prog 213) 179 = some (.aload_n 0, 1, 0, 0) := by decide +kernel
theorem k213_180 : mj_look (mj_prog 213) 180 = some (.getfield 16, 3, 12, 2) := by decide +kernel
theorem k213_183 : mj_look (mj_prog 213) 183 = some (.aload_n 0, 1, 0, 0) := by decide +kernel
theorem k213_184 : mj_look (mj_prog 213) 184 = some (.getfield 9, 3, 12, 0) := by decide +kernel
theorem k213_187 : mj_look (mj_prog 213) 187 = some (.invokestatic 259, 3, 214, 2) := by decide +kernel
theorem k213_190 : mj_look (mj_prog 213) 190 = some (.iload 4, 2, 0, 0) := by decide +kernel
theorem k213_192 : mj_look (mj_prog 213) 192 = some (.iload_n 2, 1, 0, 0) := by decide +kernel
theorem k213_193 : mj_look (mj_prog 213) 193 = some (.if_icmp .ne 13, 3, 206, 0) := by decide +kernel
theorem k213_196 : mj_look (mj_prog 213) 196 = some (.iload 4, 2, 0, 0) := by decide +kernel
theorem k213_198 : mj_look (mj_prog 213) 198 = some (.iload_n 3, 1, 0, 0) := by decide +kernel
theorem k213_199 : mj_look (mj_prog 213) 199 = some (.if_icmp .ne 7, 3, 206, 0) := by decide +kernel
theorem k213_202 : mj_look (mj_prog 213) 202 = some (.iconst 0, 1, 0, 0) := by decide +kernel
theorem k213_203 : mj_look (mj_prog 213) 203 = some (.goto 7, 3, 210, 0) := by decide +kernel
theorem k213_206 : mj_look (mj_prog 213) 206 = some (.iconst 1, 1, 0, 0) := by decide +kernel
theorem k213_207 : mj_look (mj_prog 213) 207 = some (.iload 4, 2, 0, 0) := by decide +kernel
theorem k213_209 : mj_look (mj_prog 213) 209 = some (.iadd, 1, 0, 0) := by decide +kernel
theorem k213_210 : mj_look (mj_prog 213) 210 = some (.ireturn, 1, 0, 0) := by decide +kernel
theorem mx_214 : (mj_m 214).2.2.1 = 3 := by decide +kernel
theorem rt_214 : (mj_m 214).2.2.2.1 = none := by decide +kernel
theorem dp_214 : mj_disp 214 12 = some 214 := by decide +kernel
theorem pq_214 : mj_prog 214 = mj_p214 := rfl
theorem k214_0 : mj_look (mj_prog 214) 0 = some (.iconst 0, 1, 0, 0) := by decide +kernel
theorem k214_1 : mj_look (mj_prog 214) 1 = some (.istore_n 2, 1, 0, 0) := by decide +kernel
theorem k214_2 : mj_look (mj_prog 214) 2 = some (.iload_n 2, 1, 0, 0) := by decide +kernel
theorem k214_3 : mj_look (mj_prog 214) 3 = some (.sipush 1481, 3, 0, 0) := by decide +kernel
theorem k214_6 : mj_look (mj_prog 214) 6 = some (.if_icmp .ge 15, 3, 21, 0) := by decide +kernel
theorem k214_9 : mj_look (mj_prog 214) 9 = some (.aload_n 1, 1, 0, 0) := by decide +kernel
theorem k214_10 : mj_look (mj_prog 214) 10 = some (.iload_n 2, 1, 0, 0) := by decide +kernel
theorem k214_11 : mj_look (mj_prog 214) 11 = some (.aload_n 0, 1, 0, 0) := by decide +kernel
theorem k214_12 : mj_look (mj_prog 214) 12 = some (.iload_n 2, 1, 0, 0) := by decide +kernel
theorem k214_13 : mj_look (mj_prog 214) 13 = some (.iaload, 1, 0, 0) := by decide +kernel
theorem k214_14 : mj_look (mj_prog 214) 14 = some (.iastore, 1, 0, 0) := by decide +kernel
theorem k214_15 : mj_look (mj_prog 214) 15 = some (.iinc 2 1, 3, 0, 0) := by decide +kernel
theorem k214_18 : mj_look (mj_prog 214) 18 = some (.goto (-16), 3, 2, 0) := by decide +kernel
theorem k214_21 : mj_look (mj_prog 214) 21 = some (.return_, 1, 0, 0) := by decide +kernel
theorem mx_215 : (mj_m 215).2.2.1 = 1 := by decide +kernel
theorem rt_215 : (mj_m 215).2.2.2.1 = (some FieldType.int) := by decide +kernel
theorem dp_215 : mj_disp 215 12 = some 215 := by decide +kernel
theorem pq_215 : mj_prog 215 = mj_p215 := rfl
theorem k215_0 : mj_look (mj_prog 215) 0 = some (.aload_n 0, 1, 0, 0) := by decide +kernel
theorem k215_1 : mj_look (mj_prog 215) 1 = some (.getfield 9, 3, 12, 0) := by decide +kernel
theorem k215_4 : mj_look (mj_prog 215) 4 = some (.aload_n 0, 1, 0, 0) := by decide +kernel
theorem k215_5 : mj_look (mj_prog 215) 5 = some (.getfield 13, 3, 12, 1) := by decide +kernel
theorem k215_8 : mj_look (mj_prog 215) 8 = some (.invokestatic 259, 3, 214, 2) := by decide +kernel
theorem k215_11 : mj_look (mj_prog 215) 11 = some (.aload_n 0, 1, 0, 0) := by decide +kernel
theorem k215_12 : mj_look (mj_prog 215) 12 = some (.iconst 1, 1, 0, 0) := by decide +kernel
theorem k215_13 : mj_look (mj_prog 215) 13 = some (.putfield 255, 3, 12, 3) := by decide +kernel
theorem k215_16 : mj_look (mj_prog 215) 16 = some (.aload_n 0, 1, 0, 0) := by decide +kernel
theorem k215_17 : mj_look (mj_prog 215) 17 = some (.getfield 9, 3, 12, 0) := by decide +kernel
theorem k215_20 : mj_look (mj_prog 215) 20 = some (.iconst 1, 1, 0, 0) := by decide +kernel
theorem k215_21 : mj_look (mj_prog 215) 21 = some (.iaload, 1, 0, 0) := by decide +kernel
theorem k215_22 : mj_look (mj_prog 215) 22 = some (.ireturn, 1, 0, 0) := by decide +kernel
theorem mx_216 : (mj_m 216).2.2.1 = 1 := by decide +kernel
theorem rt_216 : (mj_m 216).2.2.2.1 = (some FieldType.int) := by decide +kernel
theorem dp_216 : mj_disp 216 12 = some 216 := by decide +kernel
theorem pq_216 : mj_prog 216 = mj_p216 := rfl
theorem k216_0 : mj_look (mj_prog 216) 0 = some (.aload_n 0, 1, 0, 0) := by decide +kernel
theorem k216_1 : mj_look (mj_prog 216) 1 = some (.getfield 255, 3, 12, 3) := by decide +kernel
theorem k216_4 : mj_look (mj_prog 216) 4 = some (.ifCond .ne 6, 3, 10, 0) := by decide +kernel
theorem k216_7 : mj_look (mj_prog 216) 7 = some (.ldc 251, 2, 3294967294, 0) := by decide +kernel
theorem k216_9 : mj_look (mj_prog 216) 9 = some (.ireturn, 1, 0, 0) := by decide +kernel
theorem k216_10 : mj_look (mj_prog 216) 10 = some (.aload_n 0, 1, 0, 0) := by decide +kernel
theorem k216_11 : mj_look (mj_prog 216) 11 = some (.getfield 13, 3, 12, 1) := by decide +kernel
theorem k216_14 : mj_look (mj_prog 216) 14 = some (.aload_n 0, 1, 0, 0) := by decide +kernel
theorem k216_15 : mj_look (mj_prog 216) 15 = some (.getfield 9, 3, 12, 0) := by decide +kernel
theorem k216_18 : mj_look (mj_prog 216) 18 = some (.invokestatic 259, 3, 214, 2) := by decide +kernel
theorem k216_21 : mj_look (mj_prog 216) 21 = some (.aload_n 0, 1, 0, 0) := by decide +kernel
theorem k216_22 : mj_look (mj_prog 216) 22 = some (.getfield 9, 3, 12, 0) := by decide +kernel
theorem k216_25 : mj_look (mj_prog 216) 25 = some (.iconst 1, 1, 0, 0) := by decide +kernel
theorem k216_26 : mj_look (mj_prog 216) 26 = some (.iaload, 1, 0, 0) := by decide +kernel
theorem k216_27 : mj_look (mj_prog 216) 27 = some (.ireturn, 1, 0, 0) := by decide +kernel
theorem mx_217 : (mj_m 217).2.2.1 = 2 := by decide +kernel
theorem rt_217 : (mj_m 217).2.2.2.1 = (some FieldType.int) := by decide +kernel
theorem dp_217 : mj_disp 217 12 = some 217 := by decide +kernel
theorem pq_217 : mj_prog 217 = mj_p217 := rfl
theorem k217_0 : mj_look (mj_prog 217) 0 = some (.iload_n 1, 1, 0, 0) := by decide +kernel
theorem k217_1 : mj_look (mj_prog 217) 1 = some (.tableswitch 97 0 7 #[47, 54, 61, 68, 73, 80, 85, 90], 47, 0, 0) := by decide +kernel
theorem k217_48 : mj_look (mj_prog 217) 48 = some (.aload_n 0, 1, 0, 0) := by decide +kernel
theorem k217_49 : mj_look (mj_prog 217) 49 = some (.getfield 9, 3, 12, 0) := by decide +kernel
theorem k217_52 : mj_look (mj_prog 217) 52 = some (.iconst 1, 1, 0, 0) := by decide +kernel
theorem k217_53 : mj_look (mj_prog 217) 53 = some (.iaload, 1, 0, 0) := by decide +kernel
theorem k217_54 : mj_look (mj_prog 217) 54 = some (.ireturn, 1, 0, 0) := by decide +kernel
theorem k217_55 : mj_look (mj_prog 217) 55 = some (.aload_n 0, 1, 0, 0) := by decide +kernel
theorem k217_56 : mj_look (mj_prog 217) 56 = some (.getfield 9, 3, 12, 0) := by decide +kernel
theorem k217_59 : mj_look (mj_prog 217) 59 = some (.iconst 2, 1, 0, 0) := by decide +kernel
theorem k217_60 : mj_look (mj_prog 217) 60 = some (.iaload, 1, 0, 0) := by decide +kernel
theorem k217_61 : mj_look (mj_prog 217) 61 = some (.ireturn, 1, 0, 0) := by decide +kernel
theorem k217_62 : mj_look (mj_prog 217) 62 = some (.aload_n 0, 1, 0, 0) := by decide +kernel
theorem k217_63 : mj_look (mj_prog 217) 63 = some (.getfield 9, 3, 12, 0) := by decide +kernel
theorem k217_66 : mj_look (mj_prog 217) 66 = some (.iconst 3, 1, 0, 0) := by decide +kernel
theorem k217_67 : mj_look (mj_prog 217) 67 = some (.iaload, 1, 0, 0) := by decide +kernel
theorem k217_68 : mj_look (mj_prog 217) 68 = some (.ireturn, 1, 0, 0) := by decide +kernel
theorem k217_69 : mj_look (mj_prog 217) 69 = some (.aload_n 0, 1, 0, 0) := by decide +kernel
theorem k217_70 : mj_look (mj_prog 217) 70 = some (.invokevirtual 263, 3, 218, 0) := by decide +kernel
theorem k217_73 : mj_look (mj_prog 217) 73 = some (.ireturn, 1, 0, 0) := by decide +kernel
theorem k217_74 : mj_look (mj_prog 217) 74 = some (.aload_n 0, 1, 0, 0) := by decide +kernel
theorem k217_75 : mj_look (mj_prog 217) 75 = some (.getfield 9, 3, 12, 0) := by decide +kernel
theorem k217_78 : mj_look (mj_prog 217) 78 = some (.iconst 4, 1, 0, 0) := by decide +kernel
theorem k217_79 : mj_look (mj_prog 217) 79 = some (.iaload, 1, 0, 0) := by decide +kernel
theorem k217_80 : mj_look (mj_prog 217) 80 = some (.ireturn, 1, 0, 0) := by decide +kernel
theorem k217_81 : mj_look (mj_prog 217) 81 = some (.aload_n 0, 1, 0, 0) := by decide +kernel
theorem k217_82 : mj_look (mj_prog 217) 82 = some (.getfield 252, 3, 12, 33) := by decide +kernel
theorem k217_85 : mj_look (mj_prog 217) 85 = some (.ireturn, 1, 0, 0) := by decide +kernel
theorem k217_86 : mj_look (mj_prog 217) 86 = some (.aload_n 0, 1, 0, 0) := by decide +kernel
theorem k217_87 : mj_look (mj_prog 217) 87 = some (.getfield 177, 3, 12, 7) := by decide +kernel
theorem k217_90 : mj_look (mj_prog 217) 90 = some (.ireturn, 1, 0, 0) := by decide +kernel
theorem k217_91 : mj_look (mj_prog 217) 91 = some (.aload_n 0, 1, 0, 0) := by decide +kernel
theorem k217_92 : mj_look (mj_prog 217) 92 = some (.getfield 9, 3, 12, 0) := by decide +kernel
theorem k217_95 : mj_look (mj_prog 217) 95 = some (.iconst 0, 1, 0, 0) := by decide +kernel
theorem k217_96 : mj_look (mj_prog 217) 96 = some (.iaload, 1, 0, 0) := by decide +kernel
theorem k217_97 : mj_look (mj_prog 217) 97 = some (.ireturn, 1, 0, 0) := by decide +kernel
theorem k217_98 : mj_look (mj_prog 217) 98 = some (.ldc 83, 2, 3294967295, 0) := by decide +kernel
theorem k217_100 : mj_look (mj_prog 217) 100 = some (.ireturn, 1, 0, 0) := by decide +kernel
theorem mx_218 : (mj_m 218).2.2.1 = 3 := by decide +kernel
theorem rt_218 : (mj_m 218).2.2.2.1 = (some FieldType.int) := by decide +kernel
theorem dp_218 : mj_disp 218 12 = some 218 := by decide +kernel
theorem pq_218 : mj_prog 218 = mj_p218 := rfl
theorem k218_0 : mj_look (mj_prog 218) 0 = some (.iconst 0, 1, 0, 0) := by decide +kernel
theorem k218_1 : mj_look (mj_prog 218) 1 = some (.istore_n 1, 1, 0, 0) := by decide +kernel
theorem k218_2 : mj_look (mj_prog 218) 2 = some (.iconst 0, 1, 0, 0) := by decide +kernel
theorem k218_3 : mj_look (mj_prog 218) 3 = some (.istore_n 2, 1, 0, 0) := by decide +kernel
theorem k218_4 : mj_look (mj_prog 218) 4 = some (.iload_n 2, 1, 0, 0) := by decide +kernel
theorem k218_5 : mj_look (mj_prog 218) 5 = some (.bipush 12, 2, 0, 0) := by decide +kernel
theorem k218_7 : mj_look (mj_prog 218) 7 = some (.if_icmp .ge 29, 3, 36, 0) := by decide +kernel
theorem k218_10 : mj_look (mj_prog 218) 10 = some (.iload_n 1, 1, 0, 0) := by decide +kernel
theorem k218_11 : mj_look (mj_prog 218) 11 = some (.aload_n 0, 1, 0, 0) := by decide +kernel
theorem k218_12 : mj_look (mj_prog 218) 12 = some (.getfield 9, 3, 12, 0) := by decide +kernel
theorem k218_15 : mj_look (mj_prog 218) 15 = some (.bipush 29, 2, 0, 0) := by decide +kernel
theorem k218_17 : mj_look (mj_prog 218) 17 = some (.iload_n 2, 1, 0, 0) := by decide +kernel
theorem k218_18 : mj_look (mj_prog 218) 18 = some (.iadd, 1, 0, 0) := by decide +kernel
theorem k218_19 : mj_look (mj_prog 218) 19 = some (.iaload, 1, 0, 0) := by decide +kernel
theorem k218_20 : mj_look (mj_prog 218) 20 = some (.ifCond .le 7, 3, 27, 0) := by decide +kernel
theorem k218_23 : mj_look (mj_prog 218) 23 = some (.iconst 1, 1, 0, 0) := by decide +kernel
theorem k218_24 : mj_look (mj_prog 218) 24 = some (.goto 4, 3, 28, 0) := by decide +kernel
theorem k218_27 : mj_look (mj_prog 218) 27 = some (.iconst 0, 1, 0, 0) := by decide +kernel
theorem k218_28 : mj_look (mj_prog 218) 28 = some (.iadd, 1, 0, 0) := by decide +kernel
theorem k218_29 : mj_look (mj_prog 218) 29 = some (.istore_n 1, 1, 0, 0) := by decide +kernel
theorem k218_30 : mj_look (mj_prog 218) 30 = some (.iinc 2 1, 3, 0, 0) := by decide +kernel
theorem k218_33 : mj_look (mj_prog 218) 33 = some (.goto (-29), 3, 4, 0) := by decide +kernel
theorem k218_36 : mj_look (mj_prog 218) 36 = some (.iload_n 1, 1, 0, 0) := by decide +kernel
theorem k218_37 : mj_look (mj_prog 218) 37 = some (.ireturn, 1, 0, 0) := by decide +kernel
theorem mx_219 : (mj_m 219).2.2.1 = 4 := by decide +kernel
theorem rt_219 : (mj_m 219).2.2.2.1 = (some FieldType.boolean) := by decide +kernel
theorem pq_219 : mj_prog 219 = mj_p219 := rfl
