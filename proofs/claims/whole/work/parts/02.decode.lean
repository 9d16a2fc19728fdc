theorem dX0_init_0 : decode cX0_init 0 = .ok (.aload_n 0, 1) := by decide +kernel
theorem dX0_init_1 : decode cX0_init 1 = .ok (.invokespecial 1, 3) := by decide +kernel
theorem dX0_init_4 : decode cX0_init 4 = .ok (.return_, 1) := by decide +kernel
theorem dX0_rated_0 : decode cX0_rated 0 = .ok (.aload_n 1, 1) := by decide +kernel
theorem dX0_rated_1 : decode cX0_rated 1 = .ok (.dup, 1) := by decide +kernel
theorem dX0_rated_2 : decode cX0_rated 2 = .ok (.getfield 7, 3) := by decide +kernel
theorem dX0_rated_5 : decode cX0_rated 5 = .ok (.ldc2_w 13, 3) := by decide +kernel
theorem dX0_rated_8 : decode cX0_rated 8 = .ok (.ladd, 1) := by decide +kernel
theorem dX0_rated_9 : decode cX0_rated 9 = .ok (.putfield 7, 3) := by decide +kernel
theorem dX0_rated_12 : decode cX0_rated 12 = .ok (.aload_n 0, 1) := by decide +kernel
theorem dX0_rated_13 : decode cX0_rated 13 = .ok (.aload_n 1, 1) := by decide +kernel
theorem dX0_rated_14 : decode cX0_rated 14 = .ok (.iload_n 2, 1) := by decide +kernel
theorem dX0_rated_15 : decode cX0_rated 15 = .ok (.invokespecial 15, 3) := by decide +kernel
theorem dX0_rated_18 : decode cX0_rated 18 = .ok (.aload_n 1, 1) := by decide +kernel
theorem dX0_rated_19 : decode cX0_rated 19 = .ok (.getfield 19, 3) := by decide +kernel
theorem dX0_rated_22 : decode cX0_rated 22 = .ok (.iload_n 2, 1) := by decide +kernel
theorem dX0_rated_23 : decode cX0_rated 23 = .ok (.invokevirtual 23, 3) := by decide +kernel
theorem dX0_rated_26 : decode cX0_rated 26 = .ok (.iadd, 1) := by decide +kernel
theorem dX0_rated_27 : decode cX0_rated 27 = .ok (.ireturn, 1) := by decide +kernel
theorem dX1_init_0 : decode cX1_init 0 = .ok (.aload_n 0, 1) := by decide +kernel
theorem dX1_init_1 : decode cX1_init 1 = .ok (.invokespecial 3, 3) := by decide +kernel
theorem dX1_init_4 : decode cX1_init 4 = .ok (.aload_n 0, 1) := by decide +kernel
theorem dX1_init_5 : decode cX1_init 5 = .ok (.bipush 6, 2) := by decide +kernel
theorem dX1_init_7 : decode cX1_init 7 = .ok (.newarray .int, 2) := by decide +kernel
theorem dX1_init_9 : decode cX1_init 9 = .ok (.putfield 9, 3) := by decide +kernel
theorem dX1_init_12 : decode cX1_init 12 = .ok (.aload_n 0, 1) := by decide +kernel
theorem dX1_init_13 : decode cX1_init 13 = .ok (.bipush 6, 2) := by decide +kernel
theorem dX1_init_15 : decode cX1_init 15 = .ok (.newarray .int, 2) := by decide +kernel
theorem dX1_init_17 : decode cX1_init 17 = .ok (.putfield 15, 3) := by decide +kernel
theorem dX1_init_20 : decode cX1_init 20 = .ok (.return_, 1) := by decide +kernel
theorem dX1_add_0 : decode cX1_add 0 = .ok (.aload_n 0, 1) := by decide +kernel
theorem dX1_add_1 : decode cX1_add 1 = .ok (.getfield 18, 3) := by decide +kernel
theorem dX1_add_4 : decode cX1_add 4 = .ok (.ifCond .lt 12, 3) := by decide +kernel
theorem dX1_add_7 : decode cX1_add 7 = .ok (.aload_n 0, 1) := by decide +kernel
theorem dX1_add_8 : decode cX1_add 8 = .ok (.getfield 18, 3) := by decide +kernel
theorem dX1_add_11 : decode cX1_add 11 = .ok (.bipush 6, 2) := by decide +kernel
theorem dX1_add_13 : decode cX1_add 13 = .ok (.if_icmp .lt 5, 3) := by decide +kernel
theorem dX1_add_16 : decode cX1_add 16 = .ok (.iconst 0, 1) := by decide +kernel
theorem dX1_add_17 : decode cX1_add 17 = .ok (.ireturn, 1) := by decide +kernel
theorem dX1_add_18 : decode cX1_add 18 = .ok (.aload_n 0, 1) := by decide +kernel
theorem dX1_add_19 : decode cX1_add 19 = .ok (.getfield 9, 3) := by decide +kernel
theorem dX1_add_22 : decode cX1_add 22 = .ok (.aload_n 0, 1) := by decide +kernel
theorem dX1_add_23 : decode cX1_add 23 = .ok (.getfield 18, 3) := by decide +kernel
theorem dX1_add_26 : decode cX1_add 26 = .ok (.iload_n 1, 1) := by decide +kernel
theorem dX1_add_27 : decode cX1_add 27 = .ok (.iastore, 1) := by decide +kernel
theorem dX1_add_28 : decode cX1_add 28 = .ok (.aload_n 0, 1) := by decide +kernel
theorem dX1_add_29 : decode cX1_add 29 = .ok (.getfield 15, 3) := by decide +kernel
theorem dX1_add_32 : decode cX1_add 32 = .ok (.aload_n 0, 1) := by decide +kernel
theorem dX1_add_33 : decode cX1_add 33 = .ok (.getfield 18, 3) := by decide +kernel
theorem dX1_add_36 : decode cX1_add 36 = .ok (.iload_n 2, 1) := by decide +kernel
theorem dX1_add_37 : decode cX1_add 37 = .ok (.iastore, 1) := by decide +kernel
theorem dX1_add_38 : decode cX1_add 38 = .ok (.aload_n 0, 1) := by decide +kernel
theorem dX1_add_39 : decode cX1_add 39 = .ok (.dup, 1) := by decide +kernel
theorem dX1_add_40 : decode cX1_add 40 = .ok (.getfield 18, 3) := by decide +kernel
theorem dX1_add_43 : decode cX1_add 43 = .ok (.iconst 1, 1) := by decide +kernel
theorem dX1_add_44 : decode cX1_add 44 = .ok (.iadd, 1) := by decide +kernel
theorem dX1_add_45 : decode cX1_add 45 = .ok (.putfield 18, 3) := by decide +kernel
theorem dX1_add_48 : decode cX1_add 48 = .ok (.iconst 1, 1) := by decide +kernel
theorem dX1_add_49 : decode cX1_add 49 = .ok (.ireturn, 1) := by decide +kernel
theorem dX1_fit_0 : decode cX1_fit 0 = .ok (.iconst 0, 1) := by decide +kernel
theorem dX1_fit_1 : decode cX1_fit 1 = .ok (.istore_n 3, 1) := by decide +kernel
theorem dX1_fit_2 : decode cX1_fit 2 = .ok (.iload_n 3, 1) := by decide +kernel
theorem dX1_fit_3 : decode cX1_fit 3 = .ok (.aload_n 0, 1) := by decide +kernel
theorem dX1_fit_4 : decode cX1_fit 4 = .ok (.getfield 18, 3) := by decide +kernel
theorem dX1_fit_7 : decode cX1_fit 7 = .ok (.if_icmp .ge 45, 3) := by decide +kernel
theorem dX1_fit_10 : decode cX1_fit 10 = .ok (.iload_n 3, 1) := by decide +kernel
theorem dX1_fit_11 : decode cX1_fit 11 = .ok (.bipush 6, 2) := by decide +kernel
theorem dX1_fit_13 : decode cX1_fit 13 = .ok (.if_icmp .ge 39, 3) := by decide +kernel
theorem dX1_fit_16 : decode cX1_fit 16 = .ok (.bipush 9, 2) := by decide +kernel
theorem dX1_fit_18 : decode cX1_fit 18 = .ok (.aload_n 1, 1) := by decide +kernel
theorem dX1_fit_19 : decode cX1_fit 19 = .ok (.iload_n 2, 1) := by decide +kernel
theorem dX1_fit_20 : decode cX1_fit 20 = .ok (.aload_n 0, 1) := by decide +kernel
theorem dX1_fit_21 : decode cX1_fit 21 = .ok (.getfield 9, 3) := by decide +kernel
theorem dX1_fit_24 : decode cX1_fit 24 = .ok (.iload_n 3, 1) := by decide +kernel
theorem dX1_fit_25 : decode cX1_fit 25 = .ok (.iaload, 1) := by decide +kernel
theorem dX1_fit_26 : decode cX1_fit 26 = .ok (.iconst (-1), 1) := by decide +kernel
theorem dX1_fit_27 : decode cX1_fit 27 = .ok (.ixor, 1) := by decide +kernel
theorem dX1_fit_28 : decode cX1_fit 28 = .ok (.iand, 1) := by decide +kernel
theorem dX1_fit_29 : decode cX1_fit 29 = .ok (.invokevirtual 22, 3) := by decide +kernel
theorem dX1_fit_32 : decode cX1_fit 32 = .ok (.invokestatic 28, 3) := by decide +kernel
theorem dX1_fit_35 : decode cX1_fit 35 = .ok (.aload_n 0, 1) := by decide +kernel
theorem dX1_fit_36 : decode cX1_fit 36 = .ok (.getfield 15, 3) := by decide +kernel
theorem dX1_fit_39 : decode cX1_fit 39 = .ok (.iload_n 3, 1) := by decide +kernel
theorem dX1_fit_40 : decode cX1_fit 40 = .ok (.iaload, 1) := by decide +kernel
theorem dX1_fit_41 : decode cX1_fit 41 = .ok (.if_icmp .eq 5, 3) := by decide +kernel
theorem dX1_fit_44 : decode cX1_fit 44 = .ok (.iconst 0, 1) := by decide +kernel
theorem dX1_fit_45 : decode cX1_fit 45 = .ok (.ireturn, 1) := by decide +kernel
theorem dX1_fit_46 : decode cX1_fit 46 = .ok (.iinc 3 1, 3) := by decide +kernel
theorem dX1_fit_49 : decode cX1_fit 49 = .ok (.goto (-47), 3) := by decide +kernel
theorem dX1_fit_52 : decode cX1_fit 52 = .ok (.iconst 1, 1) := by decide +kernel
theorem dX1_fit_53 : decode cX1_fit 53 = .ok (.ireturn, 1) := by decide +kernel
theorem dX2_init_0 : decode cX2_init 0 = .ok (.aload_n 0, 1) := by decide +kernel
theorem dX2_init_1 : decode cX2_init 1 = .ok (.invokespecial 1, 3) := by decide +kernel
theorem dX2_init_4 : decode cX2_init 4 = .ok (.return_, 1) := by decide +kernel
theorem dX2_rated_0 : decode cX2_rated 0 = .ok (.aload_n 1, 1) := by decide +kernel
theorem dX2_rated_1 : decode cX2_rated 1 = .ok (.dup, 1) := by decide +kernel
theorem dX2_rated_2 : decode cX2_rated 2 = .ok (.getfield 7, 3) := by decide +kernel
theorem dX2_rated_5 : decode cX2_rated 5 = .ok (.ldc2_w 13, 3) := by decide +kernel
theorem dX2_rated_8 : decode cX2_rated 8 = .ok (.ladd, 1) := by decide +kernel
theorem dX2_rated_9 : decode cX2_rated 9 = .ok (.putfield 7, 3) := by decide +kernel
theorem dX2_rated_12 : decode cX2_rated 12 = .ok (.aload_n 0, 1) := by decide +kernel
theorem dX2_rated_13 : decode cX2_rated 13 = .ok (.aload_n 1, 1) := by decide +kernel
theorem dX2_rated_14 : decode cX2_rated 14 = .ok (.iload_n 2, 1) := by decide +kernel
theorem dX2_rated_15 : decode cX2_rated 15 = .ok (.invokespecial 15, 3) := by decide +kernel
theorem dX2_rated_18 : decode cX2_rated 18 = .ok (.aload_n 1, 1) := by decide +kernel
theorem dX2_rated_19 : decode cX2_rated 19 = .ok (.getfield 19, 3) := by decide +kernel
theorem dX2_rated_22 : decode cX2_rated 22 = .ok (.aload_n 1, 1) := by decide +kernel
theorem dX2_rated_23 : decode cX2_rated 23 = .ok (.getfield 19, 3) := by decide +kernel
theorem dX2_rated_26 : decode cX2_rated 26 = .ok (.iload_n 2, 1) := by decide +kernel
theorem dX2_rated_27 : decode cX2_rated 27 = .ok (.invokevirtual 23, 3) := by decide +kernel
theorem dX2_rated_30 : decode cX2_rated 30 = .ok (.invokevirtual 29, 3) := by decide +kernel
theorem dX2_rated_33 : decode cX2_rated 33 = .ok (.isub, 1) := by decide +kernel
theorem dX2_rated_34 : decode cX2_rated 34 = .ok (.ireturn, 1) := by decide +kernel
theorem dX3_init_0 : decode cX3_init 0 = .ok (.aload_n 0, 1) := by decide +kernel
theorem dX3_init_1 : decode cX3_init 1 = .ok (.invokespecial 3, 3) := by decide +kernel
theorem dX3_init_4 : decode cX3_init 4 = .ok (.aload_n 0, 1) := by decide +kernel
theorem dX3_init_5 : decode cX3_init 5 = .ok (.iconst 5, 1) := by decide +kernel
theorem dX3_init_6 : decode cX3_init 6 = .ok (.newarray .int, 2) := by decide +kernel
theorem dX3_init_8 : decode cX3_init 8 = .ok (.putfield 9, 3) := by decide +kernel
theorem dX3_init_11 : decode cX3_init 11 = .ok (.aload_n 0, 1) := by decide +kernel
theorem dX3_init_12 : decode cX3_init 12 = .ok (.bipush 36, 2) := by decide +kernel
theorem dX3_init_14 : decode cX3_init 14 = .ok (.newarray .int, 2) := by decide +kernel
theorem dX3_init_16 : decode cX3_init 16 = .ok (.putfield 15, 3) := by decide +kernel
theorem dX3_init_19 : decode cX3_init 19 = .ok (.aload_n 0, 1) := by decide +kernel
theorem dX3_init_20 : decode cX3_init 20 = .ok (.bipush 36, 2) := by decide +kernel
theorem dX3_init_22 : decode cX3_init 22 = .ok (.newarray .int, 2) := by decide +kernel
theorem dX3_init_24 : decode cX3_init 24 = .ok (.putfield 18, 3) := by decide +kernel
theorem dX3_init_27 : decode cX3_init 27 = .ok (.aload_n 0, 1) := by decide +kernel
theorem dX3_init_28 : decode cX3_init 28 = .ok (.invokevirtual 21, 3) := by decide +kernel
theorem dX3_init_31 : decode cX3_init 31 = .ok (.return_, 1) := by decide +kernel
theorem dX3_reset_0 : decode cX3_reset 0 = .ok (.aload_n 0, 1) := by decide +kernel
theorem dX3_reset_1 : decode cX3_reset 1 = .ok (.getfield 9, 3) := by decide +kernel
theorem dX3_reset_4 : decode cX3_reset 4 = .ok (.iconst 0, 1) := by decide +kernel
theorem dX3_reset_5 : decode cX3_reset 5 = .ok (.invokestatic 24, 3) := by decide +kernel
theorem dX3_reset_8 : decode cX3_reset 8 = .ok (.aload_n 0, 1) := by decide +kernel
theorem dX3_reset_9 : decode cX3_reset 9 = .ok (.getfield 15, 3) := by decide +kernel
theorem dX3_reset_12 : decode cX3_reset 12 = .ok (.iconst 0, 1) := by decide +kernel
theorem dX3_reset_13 : decode cX3_reset 13 = .ok (.invokestatic 24, 3) := by decide +kernel
theorem dX3_reset_16 : decode cX3_reset 16 = .ok (.aload_n 0, 1) := by decide +kernel
theorem dX3_reset_17 : decode cX3_reset 17 = .ok (.getfield 18, 3) := by decide +kernel
theorem dX3_reset_20 : decode cX3_reset 20 = .ok (.bipush (-9), 2) := by decide +kernel
theorem dX3_reset_22 : decode cX3_reset 22 = .ok (.invokestatic 24, 3) := by decide +kernel
theorem dX3_reset_25 : decode cX3_reset 25 = .ok (.aload_n 0, 1) := by decide +kernel
theorem dX3_reset_26 : decode cX3_reset 26 = .ok (.iconst 0, 1) := by decide +kernel
theorem dX3_reset_27 : decode cX3_reset 27 = .ok (.putfield 30, 3) := by decide +kernel
theorem dX3_reset_30 : decode cX3_reset 30 = .ok (.aload_n 0, 1) := by decide +kernel
theorem dX3_reset_31 : decode cX3_reset 31 = .ok (.iconst 0, 1) := by decide +kernel
theorem dX3_reset_32 : decode cX3_reset 32 = .ok (.putfield 34, 3) := by decide +kernel
theorem dX3_reset_35 : decode cX3_reset 35 = .ok (.aload_n 0, 1) := by decide +kernel
theorem dX3_reset_36 : decode cX3_reset 36 = .ok (.iconst 0, 1) := by decide +kernel
theorem dX3_reset_37 : decode cX3_reset 37 = .ok (.putfield 37, 3) := by decide +kernel
theorem dX3_reset_40 : decode cX3_reset 40 = .ok (.return_, 1) := by decide +kernel
theorem dX3_copyFrom_0 : decode cX3_copyFrom 0 = .ok (.aload_n 1, 1) := by decide +kernel
theorem dX3_copyFrom_1 : decode cX3_copyFrom 1 = .ok (.getfield 9, 3) := by decide +kernel
theorem dX3_copyFrom_4 : decode cX3_copyFrom 4 = .ok (.iconst 0, 1) := by decide +kernel
theorem dX3_copyFrom_5 : decode cX3_copyFrom 5 = .ok (.aload_n 0, 1) := by decide +kernel
theorem dX3_copyFrom_6 : decode cX3_copyFrom 6 = .ok (.getfield 9, 3) := by decide +kernel
theorem dX3_copyFrom_9 : decode cX3_copyFrom 9 = .ok (.iconst 0, 1) := by decide +kernel
theorem dX3_copyFrom_10 : decode cX3_copyFrom 10 = .ok (.iconst 5, 1) := by decide +kernel
theorem dX3_copyFrom_11 : decode cX3_copyFrom 11 = .ok (.invokestatic 40, 3) := by decide +kernel
theorem dX3_copyFrom_14 : decode cX3_copyFrom 14 = .ok (.aload_n 1, 1) := by decide +kernel
theorem dX3_copyFrom_15 : decode cX3_copyFrom 15 = .ok (.getfield 15, 3) := by decide +kernel
theorem dX3_copyFrom_18 : decode cX3_copyFrom 18 = .ok (.iconst 0, 1) := by decide +kernel
theorem dX3_copyFrom_19 : decode cX3_copyFrom 19 = .ok (.aload_n 0, 1) := by decide +kernel
theorem dX3_copyFrom_20 : decode cX3_copyFrom 20 = .ok (.getfield 15, 3) := by decide +kernel
theorem dX3_copyFrom_23 : decode cX3_copyFrom 23 = .ok (.iconst 0, 1) := by decide +kernel
theorem dX3_copyFrom_24 : decode cX3_copyFrom 24 = .ok (.bipush 36, 2) := by decide +kernel
theorem dX3_copyFrom_26 : decode cX3_copyFrom 26 = .ok (.invokestatic 40, 3) := by decide +kernel
theorem dX3_copyFrom_29 : decode cX3_copyFrom 29 = .ok (.aload_n 1, 1) := by decide +kernel
theorem dX3_copyFrom_30 : decode cX3_copyFrom 30 = .ok (.getfield 18, 3) := by decide +kernel
theorem dX3_copyFrom_33 : decode cX3_copyFrom 33 = .ok (.iconst 0, 1) := by decide +kernel
theorem dX3_copyFrom_34 : decode cX3_copyFrom 34 = .ok (.aload_n 0, 1) := by decide +kernel
theorem dX3_copyFrom_35 : decode cX3_copyFrom 35 = .ok (.getfield 18, 3) := by decide +kernel
theorem dX3_copyFrom_38 : decode cX3_copyFrom 38 = .ok (.iconst 0, 1) := by decide +kernel
theorem dX3_copyFrom_39 : decode cX3_copyFrom 39 = .ok (.bipush 36, 2) := by decide +kernel
theorem dX3_copyFrom_41 : decode cX3_copyFrom 41 = .ok (.invokestatic 40, 3) := by decide +kernel
theorem dX3_copyFrom_44 : decode cX3_copyFrom 44 = .ok (.aload_n 0, 1) := by decide +kernel
theorem dX3_copyFrom_45 : decode cX3_copyFrom 45 = .ok (.aload_n 1, 1) := by decide +kernel
theorem dX3_copyFrom_46 : decode cX3_copyFrom 46 = .ok (.getfield 30, 3) := by decide +kernel
theorem dX3_copyFrom_49 : decode cX3_copyFrom 49 = .ok (.putfield 30, 3) := by decide +kernel
theorem dX3_copyFrom_52 : decode cX3_copyFrom 52 = .ok (.aload_n 0, 1) := by decide +kernel
theorem dX3_copyFrom_53 : decode cX3_copyFrom 53 = .ok (.aload_n 1, 1) := by decide +kernel
theorem dX3_copyFrom_54 : decode cX3_copyFrom 54 = .ok (.getfield 34, 3) := by decide +kernel
theorem dX3_copyFrom_57 : decode cX3_copyFrom 57 = .ok (.putfield 34, 3) := by decide +kernel
theorem dX3_copyFrom_60 : decode cX3_copyFrom 60 = .ok (.aload_n 0, 1) := by decide +kernel
theorem dX3_copyFrom_61 : decode cX3_copyFrom 61 = .ok (.aload_n 1, 1) := by decide +kernel
theorem dX3_copyFrom_62 : decode cX3_copyFrom 62 = .ok (.getfield 37, 3) := by decide +kernel
theorem dX3_copyFrom_65 : decode cX3_copyFrom 65 = .ok (.putfield 37, 3) := by decide +kernel
theorem dX3_copyFrom_68 : decode cX3_copyFrom 68 = .ok (.return_, 1) := by decide +kernel
theorem dX3_placeOf_0 : decode cX3_placeOf 0 = .ok (.iload_n 1, 1) := by decide +kernel
theorem dX3_placeOf_1 : decode cX3_placeOf 1 = .ok (.ifCond .lt 21, 3) := by decide +kernel
theorem dX3_placeOf_4 : decode cX3_placeOf 4 = .ok (.iload_n 1, 1) := by decide +kernel
theorem dX3_placeOf_5 : decode cX3_placeOf 5 = .ok (.aload_n 0, 1) := by decide +kernel
theorem dX3_placeOf_6 : decode cX3_placeOf 6 = .ok (.getfield 9, 3) := by decide +kernel
theorem dX3_placeOf_9 : decode cX3_placeOf 9 = .ok (.arraylength, 1) := by decide +kernel
theorem dX3_placeOf_10 : decode cX3_placeOf 10 = .ok (.if_icmp .ge 12, 3) := by decide +kernel
theorem dX3_placeOf_13 : decode cX3_placeOf 13 = .ok (.aload_n 0, 1) := by decide +kernel
theorem dX3_placeOf_14 : decode cX3_placeOf 14 = .ok (.getfield 9, 3) := by decide +kernel
theorem dX3_placeOf_17 : decode cX3_placeOf 17 = .ok (.iload_n 1, 1) := by decide +kernel
theorem dX3_placeOf_18 : decode cX3_placeOf 18 = .ok (.iaload, 1) := by decide +kernel
theorem dX3_placeOf_19 : decode cX3_placeOf 19 = .ok (.goto 4, 3) := by decide +kernel
theorem dX3_placeOf_22 : decode cX3_placeOf 22 = .ok (.iconst 0, 1) := by decide +kernel
theorem dX3_placeOf_23 : decode cX3_placeOf 23 = .ok (.ireturn, 1) := by decide +kernel
theorem dX3_put_0 : decode cX3_put 0 = .ok (.iload_n 1, 1) := by decide +kernel
theorem dX3_put_1 : decode cX3_put 1 = .ok (.ifCond .lt 19, 3) := by decide +kernel
theorem dX3_put_4 : decode cX3_put 4 = .ok (.iload_n 1, 1) := by decide +kernel
theorem dX3_put_5 : decode cX3_put 5 = .ok (.aload_n 0, 1) := by decide +kernel
theorem dX3_put_6 : decode cX3_put 6 = .ok (.getfield 9, 3) := by decide +kernel
theorem dX3_put_9 : decode cX3_put 9 = .ok (.arraylength, 1) := by decide +kernel
theorem dX3_put_10 : decode cX3_put 10 = .ok (.if_icmp .ge 10, 3) := by decide +kernel
theorem dX3_put_13 : decode cX3_put 13 = .ok (.aload_n 0, 1) := by decide +kernel
theorem dX3_put_14 : decode cX3_put 14 = .ok (.getfield 9, 3) := by decide +kernel
theorem dX3_put_17 : decode cX3_put 17 = .ok (.iload_n 1, 1) := by decide +kernel
theorem dX3_put_18 : decode cX3_put 18 = .ok (.iload_n 2, 1) := by decide +kernel
theorem dX3_put_19 : decode cX3_put 19 = .ok (.iastore, 1) := by decide +kernel
theorem dX3_put_20 : decode cX3_put 20 = .ok (.return_, 1) := by decide +kernel
theorem dX3_deepAt_0 : decode cX3_deepAt 0 = .ok (.iload_n 1, 1) := by decide +kernel
theorem dX3_deepAt_1 : decode cX3_deepAt 1 = .ok (.ifCond .lt 21, 3) := by decide +kernel
theorem dX3_deepAt_4 : decode cX3_deepAt 4 = .ok (.iload_n 1, 1) := by decide +kernel
theorem dX3_deepAt_5 : decode cX3_deepAt 5 = .ok (.aload_n 0, 1) := by decide +kernel
theorem dX3_deepAt_6 : decode cX3_deepAt 6 = .ok (.getfield 15, 3) := by decide +kernel
theorem dX3_deepAt_9 : decode cX3_deepAt 9 = .ok (.arraylength, 1) := by decide +kernel
theorem dX3_deepAt_10 : decode cX3_deepAt 10 = .ok (.if_icmp .ge 12, 3) := by decide +kernel
theorem dX3_deepAt_13 : decode cX3_deepAt 13 = .ok (.aload_n 0, 1) := by decide +kernel
theorem dX3_deepAt_14 : decode cX3_deepAt 14 = .ok (.getfield 15, 3) := by decide +kernel
theorem dX3_deepAt_17 : decode cX3_deepAt 17 = .ok (.iload_n 1, 1) := by decide +kernel
theorem dX3_deepAt_18 : decode cX3_deepAt 18 = .ok (.iaload, 1) := by decide +kernel
theorem dX3_deepAt_19 : decode cX3_deepAt 19 = .ok (.goto 4, 3) := by decide +kernel
theorem dX3_deepAt_22 : decode cX3_deepAt 22 = .ok (.iconst 0, 1) := by decide +kernel
theorem dX3_deepAt_23 : decode cX3_deepAt 23 = .ok (.ireturn, 1) := by decide +kernel
theorem dX3_toesAt_0 : decode cX3_toesAt 0 = .ok (.iload_n 1, 1) := by decide +kernel
theorem dX3_toesAt_1 : decode cX3_toesAt 1 = .ok (.ifCond .lt 21, 3) := by decide +kernel
theorem dX3_toesAt_4 : decode cX3_toesAt 4 = .ok (.iload_n 1, 1) := by decide +kernel
theorem dX3_toesAt_5 : decode cX3_toesAt 5 = .ok (.aload_n 0, 1) := by decide +kernel
theorem dX3_toesAt_6 : decode cX3_toesAt 6 = .ok (.getfield 18, 3) := by decide +kernel
theorem dX3_toesAt_9 : decode cX3_toesAt 9 = .ok (.arraylength, 1) := by decide +kernel
theorem dX3_toesAt_10 : decode cX3_toesAt 10 = .ok (.if_icmp .ge 12, 3) := by decide +kernel
theorem dX3_toesAt_13 : decode cX3_toesAt 13 = .ok (.aload_n 0, 1) := by decide +kernel
theorem dX3_toesAt_14 : decode cX3_toesAt 14 = .ok (.getfield 18, 3) := by decide +kernel
theorem dX3_toesAt_17 : decode cX3_toesAt 17 = .ok (.iload_n 1, 1) := by decide +kernel
theorem dX3_toesAt_18 : decode cX3_toesAt 18 = .ok (.iaload, 1) := by decide +kernel
theorem dX3_toesAt_19 : decode cX3_toesAt 19 = .ok (.goto 5, 3) := by decide +kernel
theorem dX3_toesAt_22 : decode cX3_toesAt 22 = .ok (.bipush (-9), 2) := by decide +kernel
theorem dX3_toesAt_24 : decode cX3_toesAt 24 = .ok (.ireturn, 1) := by decide +kernel
theorem dX3_setDeep_0 : decode cX3_setDeep 0 = .ok (.iload_n 1, 1) := by decide +kernel
theorem dX3_setDeep_1 : decode cX3_setDeep 1 = .ok (.ifCond .lt 19, 3) := by decide +kernel
theorem dX3_setDeep_4 : decode cX3_setDeep 4 = .ok (.iload_n 1, 1) := by decide +kernel
theorem dX3_setDeep_5 : decode cX3_setDeep 5 = .ok (.aload_n 0, 1) := by decide +kernel
theorem dX3_setDeep_6 : decode cX3_setDeep 6 = .ok (.getfield 15, 3) := by decide +kernel
theorem dX3_setDeep_9 : decode cX3_setDeep 9 = .ok (.arraylength, 1) := by decide +kernel
theorem dX3_setDeep_10 : decode cX3_setDeep 10 = .ok (.if_icmp .ge 10, 3) := by decide +kernel
theorem dX3_setDeep_13 : decode cX3_setDeep 13 = .ok (.aload_n 0, 1) := by decide +kernel
theorem dX3_setDeep_14 : decode cX3_setDeep 14 = .ok (.getfield 15, 3) := by decide +kernel
theorem dX3_setDeep_17 : decode cX3_setDeep 17 = .ok (.iload_n 1, 1) := by decide +kernel
theorem dX3_setDeep_18 : decode cX3_setDeep 18 = .ok (.iload_n 2, 1) := by decide +kernel
theorem dX3_setDeep_19 : decode cX3_setDeep 19 = .ok (.iastore, 1) := by decide +kernel
theorem dX3_setDeep_20 : decode cX3_setDeep 20 = .ok (.return_, 1) := by decide +kernel
theorem dX3_deepTogether_0 : decode cX3_deepTogether 0 = .ok (.iconst 0, 1) := by decide +kernel
theorem dX3_deepTogether_1 : decode cX3_deepTogether 1 = .ok (.istore_n 1, 1) := by decide +kernel
theorem dX3_deepTogether_2 : decode cX3_deepTogether 2 = .ok (.iconst 0, 1) := by decide +kernel
theorem dX3_deepTogether_3 : decode cX3_deepTogether 3 = .ok (.istore_n 2, 1) := by decide +kernel
theorem dX3_deepTogether_4 : decode cX3_deepTogether 4 = .ok (.iload_n 2, 1) := by decide +kernel
theorem dX3_deepTogether_5 : decode cX3_deepTogether 5 = .ok (.aload_n 0, 1) := by decide +kernel
theorem dX3_deepTogether_6 : decode cX3_deepTogether 6 = .ok (.getfield 15, 3) := by decide +kernel
theorem dX3_deepTogether_9 : decode cX3_deepTogether 9 = .ok (.arraylength, 1) := by decide +kernel
theorem dX3_deepTogether_10 : decode cX3_deepTogether 10 = .ok (.if_icmp .ge 18, 3) := by decide +kernel
theorem dX3_deepTogether_13 : decode cX3_deepTogether 13 = .ok (.iload_n 1, 1) := by decide +kernel
theorem dX3_deepTogether_14 : decode cX3_deepTogether 14 = .ok (.aload_n 0, 1) := by decide +kernel
theorem dX3_deepTogether_15 : decode cX3_deepTogether 15 = .ok (.getfield 15, 3) := by decide +kernel
theorem dX3_deepTogether_18 : decode cX3_deepTogether 18 = .ok (.iload_n 2, 1) := by decide +kernel
theorem dX3_deepTogether_19 : decode cX3_deepTogether 19 = .ok (.iaload, 1) := by decide +kernel
theorem dX3_deepTogether_20 : decode cX3_deepTogether 20 = .ok (.iadd, 1) := by decide +kernel
theorem dX3_deepTogether_21 : decode cX3_deepTogether 21 = .ok (.istore_n 1, 1) := by decide +kernel
theorem dX3_deepTogether_22 : decode cX3_deepTogether 22 = .ok (.iinc 2 1, 3) := by decide +kernel
theorem dX3_deepTogether_25 : decode cX3_deepTogether 25 = .ok (.goto (-21), 3) := by decide +kernel
theorem dX3_deepTogether_28 : decode cX3_deepTogether 28 = .ok (.iload_n 1, 1) := by decide +kernel
theorem dX3_deepTogether_29 : decode cX3_deepTogether 29 = .ok (.ireturn, 1) := by decide +kernel
theorem dX3_print_0 : decode cX3_print 0 = .ok (.iload_n 1, 1) := by decide +kernel
theorem dX3_print_1 : decode cX3_print 1 = .ok (.ifCond .lt 9, 3) := by decide +kernel
theorem dX3_print_4 : decode cX3_print 4 = .ok (.iload_n 1, 1) := by decide +kernel
theorem dX3_print_5 : decode cX3_print 5 = .ok (.bipush 36, 2) := by decide +kernel
theorem dX3_print_7 : decode cX3_print 7 = .ok (.if_icmp .lt 5, 3) := by decide +kernel
theorem dX3_print_10 : decode cX3_print 10 = .ok (.iconst (-1), 1) := by decide +kernel
theorem dX3_print_11 : decode cX3_print 11 = .ok (.ireturn, 1) := by decide +kernel
theorem dX3_print_12 : decode cX3_print 12 = .ok (.aload_n 0, 1) := by decide +kernel
theorem dX3_print_13 : decode cX3_print 13 = .ok (.getfield 15, 3) := by decide +kernel
theorem dX3_print_16 : decode cX3_print 16 = .ok (.iload_n 1, 1) := by decide +kernel
theorem dX3_print_17 : decode cX3_print 17 = .ok (.bipush 9, 2) := by decide +kernel
theorem dX3_print_19 : decode cX3_print 19 = .ok (.aload_n 0, 1) := by decide +kernel
theorem dX3_print_20 : decode cX3_print 20 = .ok (.getfield 15, 3) := by decide +kernel
theorem dX3_print_23 : decode cX3_print 23 = .ok (.iload_n 1, 1) := by decide +kernel
theorem dX3_print_24 : decode cX3_print 24 = .ok (.iaload, 1) := by decide +kernel
theorem dX3_print_25 : decode cX3_print 25 = .ok (.iload_n 2, 1) := by decide +kernel
theorem dX3_print_26 : decode cX3_print 26 = .ok (.iadd, 1) := by decide +kernel
theorem dX3_print_27 : decode cX3_print 27 = .ok (.invokestatic 46, 3) := by decide +kernel
theorem dX3_print_30 : decode cX3_print 30 = .ok (.iastore, 1) := by decide +kernel
theorem dX3_print_31 : decode cX3_print 31 = .ok (.aload_n 0, 1) := by decide +kernel
theorem dX3_print_32 : decode cX3_print 32 = .ok (.getfield 18, 3) := by decide +kernel
theorem dX3_print_35 : decode cX3_print 35 = .ok (.iload_n 1, 1) := by decide +kernel
theorem dX3_print_36 : decode cX3_print 36 = .ok (.iload_n 3, 1) := by decide +kernel
theorem dX3_print_37 : decode cX3_print 37 = .ok (.iastore, 1) := by decide +kernel
theorem dX3_print_38 : decode cX3_print 38 = .ok (.aload_n 0, 1) := by decide +kernel
theorem dX3_print_39 : decode cX3_print 39 = .ok (.getfield 15, 3) := by decide +kernel
theorem dX3_print_42 : decode cX3_print 42 = .ok (.iload_n 1, 1) := by decide +kernel
theorem dX3_print_43 : decode cX3_print 43 = .ok (.iaload, 1) := by decide +kernel
theorem dX3_print_44 : decode cX3_print 44 = .ok (.ireturn, 1) := by decide +kernel
theorem dX3_soak_0 : decode cX3_soak 0 = .ok (.iconst 0, 1) := by decide +kernel
theorem dX3_soak_1 : decode cX3_soak 1 = .ok (.istore_n 2, 1) := by decide +kernel
theorem dX3_soak_2 : decode cX3_soak 2 = .ok (.iconst 0, 1) := by decide +kernel
theorem dX3_soak_3 : decode cX3_soak 3 = .ok (.istore_n 3, 1) := by decide +kernel
theorem dX3_soak_4 : decode cX3_soak 4 = .ok (.iload_n 3, 1) := by decide +kernel
theorem dX3_soak_5 : decode cX3_soak 5 = .ok (.bipush 36, 2) := by decide +kernel
theorem dX3_soak_7 : decode cX3_soak 7 = .ok (.if_icmp .ge 49, 3) := by decide +kernel
theorem dX3_soak_10 : decode cX3_soak 10 = .ok (.aload_n 0, 1) := by decide +kernel
theorem dX3_soak_11 : decode cX3_soak 11 = .ok (.getfield 15, 3) := by decide +kernel
theorem dX3_soak_14 : decode cX3_soak 14 = .ok (.iload_n 3, 1) := by decide +kernel
theorem dX3_soak_15 : decode cX3_soak 15 = .ok (.iaload, 1) := by decide +kernel
theorem dX3_soak_16 : decode cX3_soak 16 = .ok (.iload_n 1, 1) := by decide +kernel
theorem dX3_soak_17 : decode cX3_soak 17 = .ok (.if_icmp .le 16, 3) := by decide +kernel
theorem dX3_soak_20 : decode cX3_soak 20 = .ok (.aload_n 0, 1) := by decide +kernel
theorem dX3_soak_21 : decode cX3_soak 21 = .ok (.getfield 15, 3) := by decide +kernel
theorem dX3_soak_24 : decode cX3_soak 24 = .ok (.iload_n 3, 1) := by decide +kernel
theorem dX3_soak_25 : decode cX3_soak 25 = .ok (.dup2, 1) := by decide +kernel
theorem dX3_soak_26 : decode cX3_soak 26 = .ok (.iaload, 1) := by decide +kernel
theorem dX3_soak_27 : decode cX3_soak 27 = .ok (.iload_n 1, 1) := by decide +kernel
theorem dX3_soak_28 : decode cX3_soak 28 = .ok (.isub, 1) := by decide +kernel
theorem dX3_soak_29 : decode cX3_soak 29 = .ok (.iastore, 1) := by decide +kernel
theorem dX3_soak_30 : decode cX3_soak 30 = .ok (.goto 20, 3) := by decide +kernel
theorem dX3_soak_33 : decode cX3_soak 33 = .ok (.aload_n 0, 1) := by decide +kernel
theorem dX3_soak_34 : decode cX3_soak 34 = .ok (.getfield 15, 3) := by decide +kernel
theorem dX3_soak_37 : decode cX3_soak 37 = .ok (.iload_n 3, 1) := by decide +kernel
theorem dX3_soak_38 : decode cX3_soak 38 = .ok (.iaload, 1) := by decide +kernel
theorem dX3_soak_39 : decode cX3_soak 39 = .ok (.ifCond .le 11, 3) := by decide +kernel
theorem dX3_soak_42 : decode cX3_soak 42 = .ok (.aload_n 0, 1) := by decide +kernel
theorem dX3_soak_43 : decode cX3_soak 43 = .ok (.iload_n 3, 1) := by decide +kernel
theorem dX3_soak_44 : decode cX3_soak 44 = .ok (.invokevirtual 52, 3) := by decide +kernel
theorem dX3_soak_47 : decode cX3_soak 47 = .ok (.iinc 2 1, 3) := by decide +kernel
theorem dX3_soak_50 : decode cX3_soak 50 = .ok (.iinc 3 1, 3) := by decide +kernel
theorem dX3_soak_53 : decode cX3_soak 53 = .ok (.goto (-49), 3) := by decide +kernel
theorem dX3_soak_56 : decode cX3_soak 56 = .ok (.iload_n 2, 1) := by decide +kernel
theorem dX3_soak_57 : decode cX3_soak 57 = .ok (.ireturn, 1) := by decide +kernel
theorem dX3_dry_0 : decode cX3_dry 0 = .ok (.iload_n 1, 1) := by decide +kernel
theorem dX3_dry_1 : decode cX3_dry 1 = .ok (.ifCond .lt 24, 3) := by decide +kernel
theorem dX3_dry_4 : decode cX3_dry 4 = .ok (.iload_n 1, 1) := by decide +kernel
theorem dX3_dry_5 : decode cX3_dry 5 = .ok (.bipush 36, 2) := by decide +kernel
theorem dX3_dry_7 : decode cX3_dry 7 = .ok (.if_icmp .ge 18, 3) := by decide +kernel
theorem dX3_dry_10 : decode cX3_dry 10 = .ok (.aload_n 0, 1) := by decide +kernel
theorem dX3_dry_11 : decode cX3_dry 11 = .ok (.getfield 15, 3) := by decide +kernel
theorem dX3_dry_14 : decode cX3_dry 14 = .ok (.iload_n 1, 1) := by decide +kernel
theorem dX3_dry_15 : decode cX3_dry 15 = .ok (.iconst 0, 1) := by decide +kernel
theorem dX3_dry_16 : decode cX3_dry 16 = .ok (.iastore, 1) := by decide +kernel
theorem dX3_dry_17 : decode cX3_dry 17 = .ok (.aload_n 0, 1) := by decide +kernel
theorem dX3_dry_18 : decode cX3_dry 18 = .ok (.getfield 18, 3) := by decide +kernel
theorem dX3_dry_21 : decode cX3_dry 21 = .ok (.iload_n 1, 1) := by decide +kernel
theorem dX3_dry_22 : decode cX3_dry 22 = .ok (.bipush (-9), 2) := by decide +kernel
theorem dX3_dry_24 : decode cX3_dry 24 = .ok (.iastore, 1) := by decide +kernel
theorem dX3_dry_25 : decode cX3_dry 25 = .ok (.return_, 1) := by decide +kernel
theorem dX3_trayDeep_0 : decode cX3_trayDeep 0 = .ok (.aload_n 0, 1) := by decide +kernel
theorem dX3_trayDeep_1 : decode cX3_trayDeep 1 = .ok (.iload_n 1, 1) := by decide +kernel
theorem dX3_trayDeep_2 : decode cX3_trayDeep 2 = .ok (.iload_n 2, 1) := by decide +kernel
theorem dX3_trayDeep_3 : decode cX3_trayDeep 3 = .ok (.invokestatic 56, 3) := by decide +kernel
theorem dX3_trayDeep_6 : decode cX3_trayDeep 6 = .ok (.invokevirtual 59, 3) := by decide +kernel
theorem dX3_trayDeep_9 : decode cX3_trayDeep 9 = .ok (.aload_n 0, 1) := by decide +kernel
theorem dX3_trayDeep_10 : decode cX3_trayDeep 10 = .ok (.iload_n 1, 1) := by decide +kernel
theorem dX3_trayDeep_11 : decode cX3_trayDeep 11 = .ok (.iconst 1, 1) := by decide +kernel
theorem dX3_trayDeep_12 : decode cX3_trayDeep 12 = .ok (.iadd, 1) := by decide +kernel
theorem dX3_trayDeep_13 : decode cX3_trayDeep 13 = .ok (.iload_n 2, 1) := by decide +kernel
theorem dX3_trayDeep_14 : decode cX3_trayDeep 14 = .ok (.invokestatic 56, 3) := by decide +kernel
theorem dX3_trayDeep_17 : decode cX3_trayDeep 17 = .ok (.invokevirtual 59, 3) := by decide +kernel
theorem dX3_trayDeep_20 : decode cX3_trayDeep 20 = .ok (.iadd, 1) := by decide +kernel
theorem dX3_trayDeep_21 : decode cX3_trayDeep 21 = .ok (.aload_n 0, 1) := by decide +kernel
theorem dX3_trayDeep_22 : decode cX3_trayDeep 22 = .ok (.iload_n 1, 1) := by decide +kernel
theorem dX3_trayDeep_23 : decode cX3_trayDeep 23 = .ok (.iload_n 2, 1) := by decide +kernel
theorem dX3_trayDeep_24 : decode cX3_trayDeep 24 = .ok (.iconst 1, 1) := by decide +kernel
theorem dX3_trayDeep_25 : decode cX3_trayDeep 25 = .ok (.iadd, 1) := by decide +kernel
theorem dX3_trayDeep_26 : decode cX3_trayDeep 26 = .ok (.invokestatic 56, 3) := by decide +kernel
theorem dX3_trayDeep_29 : decode cX3_trayDeep 29 = .ok (.invokevirtual 59, 3) := by decide +kernel
theorem dX3_trayDeep_32 : decode cX3_trayDeep 32 = .ok (.iadd, 1) := by decide +kernel
theorem dX3_trayDeep_33 : decode cX3_trayDeep 33 = .ok (.aload_n 0, 1) := by decide +kernel
theorem dX3_trayDeep_34 : decode cX3_trayDeep 34 = .ok (.iload_n 1, 1) := by decide +kernel
theorem dX3_trayDeep_35 : decode cX3_trayDeep 35 = .ok (.iconst 1, 1) := by decide +kernel
theorem dX3_trayDeep_36 : decode cX3_trayDeep 36 = .ok (.iadd, 1) := by decide +kernel
theorem dX3_trayDeep_37 : decode cX3_trayDeep 37 = .ok (.iload_n 2, 1) := by decide +kernel
theorem dX3_trayDeep_38 : decode cX3_trayDeep 38 = .ok (.iconst 1, 1) := by decide +kernel
theorem dX3_trayDeep_39 : decode cX3_trayDeep 39 = .ok (.iadd, 1) := by decide +kernel
theorem dX3_trayDeep_40 : decode cX3_trayDeep 40 = .ok (.invokestatic 56, 3) := by decide +kernel
theorem dX3_trayDeep_43 : decode cX3_trayDeep 43 = .ok (.invokevirtual 59, 3) := by decide +kernel
theorem dX3_trayDeep_46 : decode cX3_trayDeep 46 = .ok (.iadd, 1) := by decide +kernel
theorem dX3_trayDeep_47 : decode cX3_trayDeep 47 = .ok (.ireturn, 1) := by decide +kernel
theorem dX3_lift_0 : decode cX3_lift 0 = .ok (.aload_n 0, 1) := by decide +kernel
theorem dX3_lift_1 : decode cX3_lift 1 = .ok (.sipush 999, 3) := by decide +kernel
theorem dX3_lift_4 : decode cX3_lift 4 = .ok (.aload_n 0, 1) := by decide +kernel
theorem dX3_lift_5 : decode cX3_lift 5 = .ok (.getfield 30, 3) := by decide +kernel
theorem dX3_lift_8 : decode cX3_lift 8 = .ok (.aload_n 0, 1) := by decide +kernel
theorem dX3_lift_9 : decode cX3_lift 9 = .ok (.iload_n 1, 1) := by decide +kernel
theorem dX3_lift_10 : decode cX3_lift 10 = .ok (.iload_n 2, 1) := by decide +kernel
theorem dX3_lift_11 : decode cX3_lift 11 = .ok (.invokevirtual 63, 3) := by decide +kernel
theorem dX3_lift_14 : decode cX3_lift 14 = .ok (.iadd, 1) := by decide +kernel
theorem dX3_lift_15 : decode cX3_lift 15 = .ok (.invokestatic 46, 3) := by decide +kernel
theorem dX3_lift_18 : decode cX3_lift 18 = .ok (.putfield 30, 3) := by decide +kernel
theorem dX3_lift_21 : decode cX3_lift 21 = .ok (.aload_n 0, 1) := by decide +kernel
theorem dX3_lift_22 : decode cX3_lift 22 = .ok (.iload_n 1, 1) := by decide +kernel
theorem dX3_lift_23 : decode cX3_lift 23 = .ok (.iload_n 2, 1) := by decide +kernel
theorem dX3_lift_24 : decode cX3_lift 24 = .ok (.invokestatic 56, 3) := by decide +kernel
theorem dX3_lift_27 : decode cX3_lift 27 = .ok (.invokevirtual 52, 3) := by decide +kernel
theorem dX3_lift_30 : decode cX3_lift 30 = .ok (.aload_n 0, 1) := by decide +kernel
theorem dX3_lift_31 : decode cX3_lift 31 = .ok (.iload_n 1, 1) := by decide +kernel
theorem dX3_lift_32 : decode cX3_lift 32 = .ok (.iconst 1, 1) := by decide +kernel
theorem dX3_lift_33 : decode cX3_lift 33 = .ok (.iadd, 1) := by decide +kernel
theorem dX3_lift_34 : decode cX3_lift 34 = .ok (.iload_n 2, 1) := by decide +kernel
theorem dX3_lift_35 : decode cX3_lift 35 = .ok (.invokestatic 56, 3) := by decide +kernel
theorem dX3_lift_38 : decode cX3_lift 38 = .ok (.invokevirtual 52, 3) := by decide +kernel
theorem dX3_lift_41 : decode cX3_lift 41 = .ok (.aload_n 0, 1) := by decide +kernel
theorem dX3_lift_42 : decode cX3_lift 42 = .ok (.iload_n 1, 1) := by decide +kernel
theorem dX3_lift_43 : decode cX3_lift 43 = .ok (.iload_n 2, 1) := by decide +kernel
theorem dX3_lift_44 : decode cX3_lift 44 = .ok (.iconst 1, 1) := by decide +kernel
theorem dX3_lift_45 : decode cX3_lift 45 = .ok (.iadd, 1) := by decide +kernel
theorem dX3_lift_46 : decode cX3_lift 46 = .ok (.invokestatic 56, 3) := by decide +kernel
theorem dX3_lift_49 : decode cX3_lift 49 = .ok (.invokevirtual 52, 3) := by decide +kernel
theorem dX3_lift_52 : decode cX3_lift 52 = .ok (.aload_n 0, 1) := by decide +kernel
theorem dX3_lift_53 : decode cX3_lift 53 = .ok (.iload_n 1, 1) := by decide +kernel
theorem dX3_lift_54 : decode cX3_lift 54 = .ok (.iconst 1, 1) := by decide +kernel
theorem dX3_lift_55 : decode cX3_lift 55 = .ok (.iadd, 1) := by decide +kernel
theorem dX3_lift_56 : decode cX3_lift 56 = .ok (.iload_n 2, 1) := by decide +kernel
theorem dX3_lift_57 : decode cX3_lift 57 = .ok (.iconst 1, 1) := by decide +kernel
theorem dX3_lift_58 : decode cX3_lift 58 = .ok (.iadd, 1) := by decide +kernel
theorem dX3_lift_59 : decode cX3_lift 59 = .ok (.invokestatic 56, 3) := by decide +kernel
theorem dX3_lift_62 : decode cX3_lift 62 = .ok (.invokevirtual 52, 3) := by decide +kernel
theorem dX3_lift_65 : decode cX3_lift 65 = .ok (.return_, 1) := by decide +kernel
theorem dX3_isClear_0 : decode cX3_isClear 0 = .ok (.iload_n 1, 1) := by decide +kernel
theorem dX3_isClear_1 : decode cX3_isClear 1 = .ok (.istore 4, 2) := by decide +kernel
theorem dX3_isClear_3 : decode cX3_isClear 3 = .ok (.iload 4, 2) := by decide +kernel
theorem dX3_isClear_5 : decode cX3_isClear 5 = .ok (.iload_n 1, 1) := by decide +kernel
theorem dX3_isClear_6 : decode cX3_isClear 6 = .ok (.iload_n 3, 1) := by decide +kernel
theorem dX3_isClear_7 : decode cX3_isClear 7 = .ok (.iadd, 1) := by decide +kernel
theorem dX3_isClear_8 : decode cX3_isClear 8 = .ok (.if_icmp .ge 42, 3) := by decide +kernel
theorem dX3_isClear_11 : decode cX3_isClear 11 = .ok (.iload_n 2, 1) := by decide +kernel
theorem dX3_isClear_12 : decode cX3_isClear 12 = .ok (.istore 5, 2) := by decide +kernel
theorem dX3_isClear_14 : decode cX3_isClear 14 = .ok (.iload 5, 2) := by decide +kernel
theorem dX3_isClear_16 : decode cX3_isClear 16 = .ok (.iload_n 2, 1) := by decide +kernel
theorem dX3_isClear_17 : decode cX3_isClear 17 = .ok (.iload_n 3, 1) := by decide +kernel
theorem dX3_isClear_18 : decode cX3_isClear 18 = .ok (.iadd, 1) := by decide +kernel
theorem dX3_isClear_19 : decode cX3_isClear 19 = .ok (.if_icmp .ge 25, 3) := by decide +kernel
theorem dX3_isClear_22 : decode cX3_isClear 22 = .ok (.aload_n 0, 1) := by decide +kernel
theorem dX3_isClear_23 : decode cX3_isClear 23 = .ok (.iload 4, 2) := by decide +kernel
theorem dX3_isClear_25 : decode cX3_isClear 25 = .ok (.iload 5, 2) := by decide +kernel
theorem dX3_isClear_27 : decode cX3_isClear 27 = .ok (.invokestatic 56, 3) := by decide +kernel
theorem dX3_isClear_30 : decode cX3_isClear 30 = .ok (.invokevirtual 59, 3) := by decide +kernel
theorem dX3_isClear_33 : decode cX3_isClear 33 = .ok (.ifCond .eq 5, 3) := by decide +kernel
theorem dX3_isClear_36 : decode cX3_isClear 36 = .ok (.iconst 0, 1) := by decide +kernel
theorem dX3_isClear_37 : decode cX3_isClear 37 = .ok (.ireturn, 1) := by decide +kernel
theorem dX3_isClear_38 : decode cX3_isClear 38 = .ok (.iinc 5 1, 3) := by decide +kernel
theorem dX3_isClear_41 : decode cX3_isClear 41 = .ok (.goto (-27), 3) := by decide +kernel
theorem dX3_isClear_44 : decode cX3_isClear 44 = .ok (.iinc 4 1, 3) := by decide +kernel
theorem dX3_isClear_47 : decode cX3_isClear 47 = .ok (.goto (-44), 3) := by decide +kernel
theorem dX3_isClear_50 : decode cX3_isClear 50 = .ok (.iconst 1, 1) := by decide +kernel
theorem dX3_isClear_51 : decode cX3_isClear 51 = .ok (.ireturn, 1) := by decide +kernel
theorem dX4_init_0 : decode cX4_init 0 = .ok (.aload_n 0, 1) := by decide +kernel
theorem dX4_init_1 : decode cX4_init 1 = .ok (.invokespecial 1, 3) := by decide +kernel
theorem dX4_init_4 : decode cX4_init 4 = .ok (.return_, 1) := by decide +kernel
theorem dX4_rated_0 : decode cX4_rated 0 = .ok (.aload_n 1, 1) := by decide +kernel
theorem dX4_rated_1 : decode cX4_rated 1 = .ok (.dup, 1) := by decide +kernel
theorem dX4_rated_2 : decode cX4_rated 2 = .ok (.getfield 7, 3) := by decide +kernel
theorem dX4_rated_5 : decode cX4_rated 5 = .ok (.lconst 1, 1) := by decide +kernel
theorem dX4_rated_6 : decode cX4_rated 6 = .ok (.ladd, 1) := by decide +kernel
theorem dX4_rated_7 : decode cX4_rated 7 = .ok (.putfield 7, 3) := by decide +kernel
theorem dX4_rated_10 : decode cX4_rated 10 = .ok (.aload_n 1, 1) := by decide +kernel
theorem dX4_rated_11 : decode cX4_rated 11 = .ok (.getfield 13, 3) := by decide +kernel
theorem dX4_rated_14 : decode cX4_rated 14 = .ok (.iload_n 2, 1) := by decide +kernel
theorem dX4_rated_15 : decode cX4_rated 15 = .ok (.invokevirtual 17, 3) := by decide +kernel
theorem dX4_rated_18 : decode cX4_rated 18 = .ok (.ireturn, 1) := by decide +kernel
theorem dX5_init_0 : decode cX5_init 0 = .ok (.aload_n 0, 1) := by decide +kernel
theorem dX5_init_1 : decode cX5_init 1 = .ok (.invokespecial 3, 3) := by decide +kernel
theorem dX5_init_4 : decode cX5_init 4 = .ok (.aload_n 0, 1) := by decide +kernel
theorem dX5_init_5 : decode cX5_init 5 = .ok (.bipush 10, 2) := by decide +kernel
theorem dX5_init_7 : decode cX5_init 7 = .ok (.anewarray 9, 3) := by decide +kernel
theorem dX5_init_10 : decode cX5_init 10 = .ok (.putfield 11, 3) := by decide +kernel
theorem dX5_init_13 : decode cX5_init 13 = .ok (.iconst 0, 1) := by decide +kernel
theorem dX5_init_14 : decode cX5_init 14 = .ok (.istore_n 1, 1) := by decide +kernel
theorem dX5_init_15 : decode cX5_init 15 = .ok (.iload_n 1, 1) := by decide +kernel
theorem dX5_init_16 : decode cX5_init 16 = .ok (.aload_n 0, 1) := by decide +kernel
theorem dX5_init_17 : decode cX5_init 17 = .ok (.getfield 11, 3) := by decide +kernel
theorem dX5_init_20 : decode cX5_init 20 = .ok (.arraylength, 1) := by decide +kernel
theorem dX5_init_21 : decode cX5_init 21 = .ok (.if_icmp .ge 22, 3) := by decide +kernel
theorem dX5_init_24 : decode cX5_init 24 = .ok (.aload_n 0, 1) := by decide +kernel
theorem dX5_init_25 : decode cX5_init 25 = .ok (.getfield 11, 3) := by decide +kernel
theorem dX5_init_28 : decode cX5_init 28 = .ok (.iload_n 1, 1) := by decide +kernel
theorem dX5_init_29 : decode cX5_init 29 = .ok (.new 9, 3) := by decide +kernel
theorem dX5_init_32 : decode cX5_init 32 = .ok (.dup, 1) := by decide +kernel
theorem dX5_init_33 : decode cX5_init 33 = .ok (.invokespecial 17, 3) := by decide +kernel
theorem dX5_init_36 : decode cX5_init 36 = .ok (.aastore, 1) := by decide +kernel
theorem dX5_init_37 : decode cX5_init 37 = .ok (.iinc 1 1, 3) := by decide +kernel
theorem dX5_init_40 : decode cX5_init 40 = .ok (.goto (-25), 3) := by decide +kernel
theorem dX5_init_43 : decode cX5_init 43 = .ok (.return_, 1) := by decide +kernel
theorem dX5_lose_0 : decode cX5_lose 0 = .ok (.aload_n 0, 1) := by decide +kernel
theorem dX5_lose_1 : decode cX5_lose 1 = .ok (.iconst 0, 1) := by decide +kernel
theorem dX5_lose_2 : decode cX5_lose 2 = .ok (.putfield 18, 3) := by decide +kernel
theorem dX5_lose_5 : decode cX5_lose 5 = .ok (.return_, 1) := by decide +kernel
theorem dX5_remember_0 : decode cX5_remember 0 = .ok (.aload_n 0, 1) := by decide +kernel
theorem dX5_remember_1 : decode cX5_remember 1 = .ok (.getfield 22, 3) := by decide +kernel
theorem dX5_remember_4 : decode cX5_remember 4 = .ok (.ifCond .lt 27, 3) := by decide +kernel
theorem dX5_remember_7 : decode cX5_remember 7 = .ok (.aload_n 0, 1) := by decide +kernel
theorem dX5_remember_8 : decode cX5_remember 8 = .ok (.getfield 22, 3) := by decide +kernel
theorem dX5_remember_11 : decode cX5_remember 11 = .ok (.aload_n 0, 1) := by decide +kernel
theorem dX5_remember_12 : decode cX5_remember 12 = .ok (.getfield 11, 3) := by decide +kernel
theorem dX5_remember_15 : decode cX5_remember 15 = .ok (.arraylength, 1) := by decide +kernel
theorem dX5_remember_16 : decode cX5_remember 16 = .ok (.if_icmp .ge 15, 3) := by decide +kernel
theorem dX5_remember_19 : decode cX5_remember 19 = .ok (.aload_n 0, 1) := by decide +kernel
theorem dX5_remember_20 : decode cX5_remember 20 = .ok (.getfield 11, 3) := by decide +kernel
theorem dX5_remember_23 : decode cX5_remember 23 = .ok (.aload_n 0, 1) := by decide +kernel
theorem dX5_remember_24 : decode cX5_remember 24 = .ok (.getfield 22, 3) := by decide +kernel
theorem dX5_remember_27 : decode cX5_remember 27 = .ok (.aaload, 1) := by decide +kernel
theorem dX5_remember_28 : decode cX5_remember 28 = .ok (.goto 4, 3) := by decide +kernel
theorem dX5_remember_31 : decode cX5_remember 31 = .ok (.aconst_null, 1) := by decide +kernel
theorem dX5_remember_32 : decode cX5_remember 32 = .ok (.astore_n 2, 1) := by decide +kernel
theorem dX5_remember_33 : decode cX5_remember 33 = .ok (.aload_n 2, 1) := by decide +kernel
theorem dX5_remember_34 : decode cX5_remember 34 = .ok (.ifnull 36, 3) := by decide +kernel
theorem dX5_remember_37 : decode cX5_remember 37 = .ok (.aload_n 2, 1) := by decide +kernel
theorem dX5_remember_38 : decode cX5_remember 38 = .ok (.aload_n 1, 1) := by decide +kernel
theorem dX5_remember_39 : decode cX5_remember 39 = .ok (.invokevirtual 25, 3) := by decide +kernel
theorem dX5_remember_42 : decode cX5_remember 42 = .ok (.aload_n 0, 1) := by decide +kernel
theorem dX5_remember_43 : decode cX5_remember 43 = .ok (.aload_n 0, 1) := by decide +kernel
theorem dX5_remember_44 : decode cX5_remember 44 = .ok (.getfield 22, 3) := by decide +kernel
theorem dX5_remember_47 : decode cX5_remember 47 = .ok (.iconst 1, 1) := by decide +kernel
theorem dX5_remember_48 : decode cX5_remember 48 = .ok (.iadd, 1) := by decide +kernel
theorem dX5_remember_49 : decode cX5_remember 49 = .ok (.bipush 10, 2) := by decide +kernel
theorem dX5_remember_51 : decode cX5_remember 51 = .ok (.irem, 1) := by decide +kernel
theorem dX5_remember_52 : decode cX5_remember 52 = .ok (.putfield 22, 3) := by decide +kernel
theorem dX5_remember_55 : decode cX5_remember 55 = .ok (.aload_n 0, 1) := by decide +kernel
theorem dX5_remember_56 : decode cX5_remember 56 = .ok (.bipush 10, 2) := by decide +kernel
theorem dX5_remember_58 : decode cX5_remember 58 = .ok (.aload_n 0, 1) := by decide +kernel
theorem dX5_remember_59 : decode cX5_remember 59 = .ok (.getfield 18, 3) := by decide +kernel
theorem dX5_remember_62 : decode cX5_remember 62 = .ok (.iconst 1, 1) := by decide +kernel
theorem dX5_remember_63 : decode cX5_remember 63 = .ok (.iadd, 1) := by decide +kernel
theorem dX5_remember_64 : decode cX5_remember 64 = .ok (.invokestatic 29, 3) := by decide +kernel
theorem dX5_remember_67 : decode cX5_remember 67 = .ok (.putfield 18, 3) := by decide +kernel
theorem dX5_remember_70 : decode cX5_remember 70 = .ok (.return_, 1) := by decide +kernel
theorem dX5_recall_0 : decode cX5_recall 0 = .ok (.aload_n 0, 1) := by decide +kernel
theorem dX5_recall_1 : decode cX5_recall 1 = .ok (.getfield 22, 3) := by decide +kernel
theorem dX5_recall_4 : decode cX5_recall 4 = .ok (.bipush 10, 2) := by decide +kernel
theorem dX5_recall_6 : decode cX5_recall 6 = .ok (.iadd, 1) := by decide +kernel
theorem dX5_recall_7 : decode cX5_recall 7 = .ok (.iconst 1, 1) := by decide +kernel
theorem dX5_recall_8 : decode cX5_recall 8 = .ok (.isub, 1) := by decide +kernel
theorem dX5_recall_9 : decode cX5_recall 9 = .ok (.bipush 10, 2) := by decide +kernel
theorem dX5_recall_11 : decode cX5_recall 11 = .ok (.irem, 1) := by decide +kernel
theorem dX5_recall_12 : decode cX5_recall 12 = .ok (.istore_n 2, 1) := by decide +kernel
theorem dX5_recall_13 : decode cX5_recall 13 = .ok (.iload_n 2, 1) := by decide +kernel
theorem dX5_recall_14 : decode cX5_recall 14 = .ok (.ifCond .lt 21, 3) := by decide +kernel
theorem dX5_recall_17 : decode cX5_recall 17 = .ok (.iload_n 2, 1) := by decide +kernel
theorem dX5_recall_18 : decode cX5_recall 18 = .ok (.aload_n 0, 1) := by decide +kernel
theorem dX5_recall_19 : decode cX5_recall 19 = .ok (.getfield 11, 3) := by decide +kernel
theorem dX5_recall_22 : decode cX5_recall 22 = .ok (.arraylength, 1) := by decide +kernel
theorem dX5_recall_23 : decode cX5_recall 23 = .ok (.if_icmp .ge 12, 3) := by decide +kernel
theorem dX5_recall_26 : decode cX5_recall 26 = .ok (.aload_n 0, 1) := by decide +kernel
theorem dX5_recall_27 : decode cX5_recall 27 = .ok (.getfield 11, 3) := by decide +kernel
theorem dX5_recall_30 : decode cX5_recall 30 = .ok (.iload_n 2, 1) := by decide +kernel
theorem dX5_recall_31 : decode cX5_recall 31 = .ok (.aaload, 1) := by decide +kernel
theorem dX5_recall_32 : decode cX5_recall 32 = .ok (.goto 4, 3) := by decide +kernel
theorem dX5_recall_35 : decode cX5_recall 35 = .ok (.aconst_null, 1) := by decide +kernel
theorem dX5_recall_36 : decode cX5_recall 36 = .ok (.astore_n 3, 1) := by decide +kernel
theorem dX5_recall_37 : decode cX5_recall 37 = .ok (.aload_n 3, 1) := by decide +kernel
theorem dX5_recall_38 : decode cX5_recall 38 = .ok (.ifnull 30, 3) := by decide +kernel
theorem dX5_recall_41 : decode cX5_recall 41 = .ok (.aload_n 0, 1) := by decide +kernel
theorem dX5_recall_42 : decode cX5_recall 42 = .ok (.getfield 18, 3) := by decide +kernel
theorem dX5_recall_45 : decode cX5_recall 45 = .ok (.ifCond .le 23, 3) := by decide +kernel
theorem dX5_recall_48 : decode cX5_recall 48 = .ok (.aload_n 1, 1) := by decide +kernel
theorem dX5_recall_49 : decode cX5_recall 49 = .ok (.aload_n 3, 1) := by decide +kernel
theorem dX5_recall_50 : decode cX5_recall 50 = .ok (.invokevirtual 25, 3) := by decide +kernel
theorem dX5_recall_53 : decode cX5_recall 53 = .ok (.aload_n 0, 1) := by decide +kernel
theorem dX5_recall_54 : decode cX5_recall 54 = .ok (.iload_n 2, 1) := by decide +kernel
theorem dX5_recall_55 : decode cX5_recall 55 = .ok (.putfield 22, 3) := by decide +kernel
theorem dX5_recall_58 : decode cX5_recall 58 = .ok (.aload_n 0, 1) := by decide +kernel
theorem dX5_recall_59 : decode cX5_recall 59 = .ok (.dup, 1) := by decide +kernel
theorem dX5_recall_60 : decode cX5_recall 60 = .ok (.getfield 18, 3) := by decide +kernel
theorem dX5_recall_63 : decode cX5_recall 63 = .ok (.iconst 1, 1) := by decide +kernel
theorem dX5_recall_64 : decode cX5_recall 64 = .ok (.isub, 1) := by decide +kernel
theorem dX5_recall_65 : decode cX5_recall 65 = .ok (.putfield 18, 3) := by decide +kernel
theorem dX5_recall_68 : decode cX5_recall 68 = .ok (.return_, 1) := by decide +kernel
theorem dX6_init_0 : decode cX6_init 0 = .ok (.aload_n 0, 1) := by decide +kernel
theorem dX6_init_1 : decode cX6_init 1 = .ok (.invokespecial 3, 3) := by decide +kernel
theorem dX6_init_4 : decode cX6_init 4 = .ok (.aload_n 0, 1) := by decide +kernel
theorem dX6_init_5 : decode cX6_init 5 = .ok (.bipush 100, 2) := by decide +kernel
theorem dX6_init_7 : decode cX6_init 7 = .ok (.newarray .char, 2) := by decide +kernel
theorem dX6_init_9 : decode cX6_init 9 = .ok (.putfield 9, 3) := by decide +kernel
theorem dX6_init_12 : decode cX6_init 12 = .ok (.aload_n 0, 1) := by decide +kernel
theorem dX6_init_13 : decode cX6_init 13 = .ok (.new 15, 3) := by decide +kernel
theorem dX6_init_16 : decode cX6_init 16 = .ok (.dup, 1) := by decide +kernel
theorem dX6_init_17 : decode cX6_init 17 = .ok (.invokespecial 17, 3) := by decide +kernel
theorem dX6_init_20 : decode cX6_init 20 = .ok (.putfield 18, 3) := by decide +kernel
theorem dX6_init_23 : decode cX6_init 23 = .ok (.aload_n 0, 1) := by decide +kernel
theorem dX6_init_24 : decode cX6_init 24 = .ok (.new 22, 3) := by decide +kernel
theorem dX6_init_27 : decode cX6_init 27 = .ok (.dup, 1) := by decide +kernel
theorem dX6_init_28 : decode cX6_init 28 = .ok (.invokespecial 24, 3) := by decide +kernel
theorem dX6_init_31 : decode cX6_init 31 = .ok (.putfield 25, 3) := by decide +kernel
theorem dX6_init_34 : decode cX6_init 34 = .ok (.aload_n 0, 1) := by decide +kernel
theorem dX6_init_35 : decode cX6_init 35 = .ok (.iconst 4, 1) := by decide +kernel
theorem dX6_init_36 : decode cX6_init 36 = .ok (.newarray .int, 2) := by decide +kernel
theorem dX6_init_38 : decode cX6_init 38 = .ok (.putfield 29, 3) := by decide +kernel
theorem dX6_init_41 : decode cX6_init 41 = .ok (.return_, 1) := by decide +kernel
theorem dX6_add_0 : decode cX6_add 0 = .ok (.aload_n 0, 1) := by decide +kernel
theorem dX6_add_1 : decode cX6_add 1 = .ok (.getfield 33, 3) := by decide +kernel
theorem dX6_add_4 : decode cX6_add 4 = .ok (.ifCond .lt 15, 3) := by decide +kernel
theorem dX6_add_7 : decode cX6_add 7 = .ok (.aload_n 0, 1) := by decide +kernel
theorem dX6_add_8 : decode cX6_add 8 = .ok (.getfield 33, 3) := by decide +kernel
theorem dX6_add_11 : decode cX6_add 11 = .ok (.aload_n 0, 1) := by decide +kernel
theorem dX6_add_12 : decode cX6_add 12 = .ok (.getfield 9, 3) := by decide +kernel
theorem dX6_add_15 : decode cX6_add 15 = .ok (.arraylength, 1) := by decide +kernel
theorem dX6_add_16 : decode cX6_add 16 = .ok (.if_icmp .lt 5, 3) := by decide +kernel
theorem dX6_add_19 : decode cX6_add 19 = .ok (.iconst 0, 1) := by decide +kernel
theorem dX6_add_20 : decode cX6_add 20 = .ok (.ireturn, 1) := by decide +kernel
theorem dX6_add_21 : decode cX6_add 21 = .ok (.aload_n 0, 1) := by decide +kernel
theorem dX6_add_22 : decode cX6_add 22 = .ok (.getfield 9, 3) := by decide +kernel
theorem dX6_add_25 : decode cX6_add 25 = .ok (.aload_n 0, 1) := by decide +kernel
theorem dX6_add_26 : decode cX6_add 26 = .ok (.getfield 33, 3) := by decide +kernel
theorem dX6_add_29 : decode cX6_add 29 = .ok (.iload_n 1, 1) := by decide +kernel
theorem dX6_add_30 : decode cX6_add 30 = .ok (.castore, 1) := by decide +kernel
theorem dX6_add_31 : decode cX6_add 31 = .ok (.aload_n 0, 1) := by decide +kernel
theorem dX6_add_32 : decode cX6_add 32 = .ok (.dup, 1) := by decide +kernel
theorem dX6_add_33 : decode cX6_add 33 = .ok (.getfield 33, 3) := by decide +kernel
theorem dX6_add_36 : decode cX6_add 36 = .ok (.iconst 1, 1) := by decide +kernel
theorem dX6_add_37 : decode cX6_add 37 = .ok (.iadd, 1) := by decide +kernel
theorem dX6_add_38 : decode cX6_add 38 = .ok (.putfield 33, 3) := by decide +kernel
theorem dX6_add_41 : decode cX6_add 41 = .ok (.iconst 1, 1) := by decide +kernel
theorem dX6_add_42 : decode cX6_add 42 = .ok (.ireturn, 1) := by decide +kernel
theorem dX6_readAll_0 : decode cX6_readAll 0 = .ok (.aload_n 0, 1) := by decide +kernel
theorem dX6_readAll_1 : decode cX6_readAll 1 = .ok (.getfield 18, 3) := by decide +kernel
theorem dX6_readAll_4 : decode cX6_readAll 4 = .ok (.invokevirtual 37, 3) := by decide +kernel
theorem dX6_readAll_7 : decode cX6_readAll 7 = .ok (.aload_n 0, 1) := by decide +kernel
theorem dX6_readAll_8 : decode cX6_readAll 8 = .ok (.getfield 25, 3) := by decide +kernel
theorem dX6_readAll_11 : decode cX6_readAll 11 = .ok (.invokevirtual 40, 3) := by decide +kernel
theorem dX6_readAll_14 : decode cX6_readAll 14 = .ok (.aload_n 0, 1) := by decide +kernel
theorem dX6_readAll_15 : decode cX6_readAll 15 = .ok (.iconst 0, 1) := by decide +kernel
theorem dX6_readAll_16 : decode cX6_readAll 16 = .ok (.putfield 41, 3) := by decide +kernel
theorem dX6_readAll_19 : decode cX6_readAll 19 = .ok (.aload_n 0, 1) := by decide +kernel
theorem dX6_readAll_20 : decode cX6_readAll 20 = .ok (.iconst 0, 1) := by decide +kernel
theorem dX6_readAll_21 : decode cX6_readAll 21 = .ok (.putfield 45, 3) := by decide +kernel
theorem dX6_readAll_24 : decode cX6_readAll 24 = .ok (.iconst 0, 1) := by decide +kernel
theorem dX6_readAll_25 : decode cX6_readAll 25 = .ok (.istore_n 1, 1) := by decide +kernel
theorem dX6_readAll_26 : decode cX6_readAll 26 = .ok (.iload_n 1, 1) := by decide +kernel
theorem dX6_readAll_27 : decode cX6_readAll 27 = .ok (.bipush 100, 2) := by decide +kernel
theorem dX6_readAll_29 : decode cX6_readAll 29 = .ok (.if_icmp .gt 33, 3) := by decide +kernel
theorem dX6_readAll_32 : decode cX6_readAll 32 = .ok (.aload_n 0, 1) := by decide +kernel
theorem dX6_readAll_33 : decode cX6_readAll 33 = .ok (.invokevirtual 48, 3) := by decide +kernel
theorem dX6_readAll_36 : decode cX6_readAll 36 = .ok (.aload_n 0, 1) := by decide +kernel
theorem dX6_readAll_37 : decode cX6_readAll 37 = .ok (.getfield 51, 3) := by decide +kernel
theorem dX6_readAll_40 : decode cX6_readAll 40 = .ok (.iconst 3, 1) := by decide +kernel
theorem dX6_readAll_41 : decode cX6_readAll 41 = .ok (.if_icmp .ne 5, 3) := by decide +kernel
theorem dX6_readAll_44 : decode cX6_readAll 44 = .ok (.iload_n 1, 1) := by decide +kernel
theorem dX6_readAll_45 : decode cX6_readAll 45 = .ok (.ireturn, 1) := by decide +kernel
theorem dX6_readAll_46 : decode cX6_readAll 46 = .ok (.aload_n 0, 1) := by decide +kernel
theorem dX6_readAll_47 : decode cX6_readAll 47 = .ok (.invokevirtual 54, 3) := by decide +kernel
theorem dX6_readAll_50 : decode cX6_readAll 50 = .ok (.ifCond .ne 6, 3) := by decide +kernel
theorem dX6_readAll_53 : decode cX6_readAll 53 = .ok (.goto 9, 3) := by decide +kernel
theorem dX6_readAll_56 : decode cX6_readAll 56 = .ok (.iinc 1 1, 3) := by decide +kernel
theorem dX6_readAll_59 : decode cX6_readAll 59 = .ok (.goto (-33), 3) := by decide +kernel
theorem dX6_readAll_62 : decode cX6_readAll 62 = .ok (.bipush (-10), 2) := by decide +kernel
theorem dX6_readAll_64 : decode cX6_readAll 64 = .ok (.aload_n 0, 1) := by decide +kernel
theorem dX6_readAll_65 : decode cX6_readAll 65 = .ok (.getfield 58, 3) := by decide +kernel
theorem dX6_readAll_68 : decode cX6_readAll 68 = .ok (.isub, 1) := by decide +kernel
theorem dX6_readAll_69 : decode cX6_readAll 69 = .ok (.ireturn, 1) := by decide +kernel
theorem dX6_readItem_0 : decode cX6_readItem 0 = .ok (.aload_n 0, 1) := by decide +kernel
theorem dX6_readItem_1 : decode cX6_readItem 1 = .ok (.getfield 51, 3) := by decide +kernel
theorem dX6_readItem_4 : decode cX6_readItem 4 = .ok (.lookupswitch 132 #[(102, 106), (112, 36), (115, 73)], 36) := by decide +kernel
theorem dX6_readItem_40 : decode cX6_readItem 40 = .ok (.aload_n 0, 1) := by decide +kernel
theorem dX6_readItem_41 : decode cX6_readItem 41 = .ok (.getfield 18, 3) := by decide +kernel
theorem dX6_readItem_44 : decode cX6_readItem 44 = .ok (.getfield 61, 3) := by decide +kernel
theorem dX6_readItem_47 : decode cX6_readItem 47 = .ok (.iconst 5, 1) := by decide +kernel
theorem dX6_readItem_48 : decode cX6_readItem 48 = .ok (.if_icmp .ge 27, 3) := by decide +kernel
theorem dX6_readItem_51 : decode cX6_readItem 51 = .ok (.aload_n 0, 1) := by decide +kernel
theorem dX6_readItem_52 : decode cX6_readItem 52 = .ok (.getstatic 64, 3) := by decide +kernel
theorem dX6_readItem_55 : decode cX6_readItem 55 = .ok (.getstatic 67, 3) := by decide +kernel
theorem dX6_readItem_58 : decode cX6_readItem 58 = .ok (.invokevirtual 70, 3) := by decide +kernel
theorem dX6_readItem_61 : decode cX6_readItem 61 = .ok (.ifCond .eq 14, 3) := by decide +kernel
theorem dX6_readItem_64 : decode cX6_readItem 64 = .ok (.aload_n 0, 1) := by decide +kernel
theorem dX6_readItem_65 : decode cX6_readItem 65 = .ok (.invokevirtual 74, 3) := by decide +kernel
theorem dX6_readItem_68 : decode cX6_readItem 68 = .ok (.ifCond .eq 7, 3) := by decide +kernel
theorem dX6_readItem_71 : decode cX6_readItem 71 = .ok (.iconst 1, 1) := by decide +kernel
theorem dX6_readItem_72 : decode cX6_readItem 72 = .ok (.goto 4, 3) := by decide +kernel
theorem dX6_readItem_75 : decode cX6_readItem 75 = .ok (.iconst 0, 1) := by decide +kernel
theorem dX6_readItem_76 : decode cX6_readItem 76 = .ok (.ireturn, 1) := by decide +kernel
theorem dX6_readItem_77 : decode cX6_readItem 77 = .ok (.aload_n 0, 1) := by decide +kernel
theorem dX6_readItem_78 : decode cX6_readItem 78 = .ok (.getfield 41, 3) := by decide +kernel
theorem dX6_readItem_81 : decode cX6_readItem 81 = .ok (.ifCond .ne 27, 3) := by decide +kernel
theorem dX6_readItem_84 : decode cX6_readItem 84 = .ok (.aload_n 0, 1) := by decide +kernel
theorem dX6_readItem_85 : decode cX6_readItem 85 = .ok (.getstatic 77, 3) := by decide +kernel
theorem dX6_readItem_88 : decode cX6_readItem 88 = .ok (.getstatic 80, 3) := by decide +kernel
theorem dX6_readItem_91 : decode cX6_readItem 91 = .ok (.invokevirtual 70, 3) := by decide +kernel
theorem dX6_readItem_94 : decode cX6_readItem 94 = .ok (.ifCond .eq 14, 3) := by decide +kernel
theorem dX6_readItem_97 : decode cX6_readItem 97 = .ok (.aload_n 0, 1) := by decide +kernel
theorem dX6_readItem_98 : decode cX6_readItem 98 = .ok (.invokevirtual 83, 3) := by decide +kernel
theorem dX6_readItem_101 : decode cX6_readItem 101 = .ok (.ifCond .eq 7, 3) := by decide +kernel
theorem dX6_readItem_104 : decode cX6_readItem 104 = .ok (.iconst 1, 1) := by decide +kernel
theorem dX6_readItem_105 : decode cX6_readItem 105 = .ok (.goto 4, 3) := by decide +kernel
theorem dX6_readItem_108 : decode cX6_readItem 108 = .ok (.iconst 0, 1) := by decide +kernel
theorem dX6_readItem_109 : decode cX6_readItem 109 = .ok (.ireturn, 1) := by decide +kernel
theorem dX6_readItem_110 : decode cX6_readItem 110 = .ok (.aload_n 0, 1) := by decide +kernel
theorem dX6_readItem_111 : decode cX6_readItem 111 = .ok (.getstatic 86, 3) := by decide +kernel
theorem dX6_readItem_114 : decode cX6_readItem 114 = .ok (.getstatic 89, 3) := by decide +kernel
theorem dX6_readItem_117 : decode cX6_readItem 117 = .ok (.invokevirtual 70, 3) := by decide +kernel
theorem dX6_readItem_120 : decode cX6_readItem 120 = .ok (.ifCond .eq 14, 3) := by decide +kernel
theorem dX6_readItem_123 : decode cX6_readItem 123 = .ok (.aload_n 0, 1) := by decide +kernel
theorem dX6_readItem_124 : decode cX6_readItem 124 = .ok (.invokevirtual 92, 3) := by decide +kernel
theorem dX6_readItem_127 : decode cX6_readItem 127 = .ok (.ifCond .eq 7, 3) := by decide +kernel
theorem dX6_readItem_130 : decode cX6_readItem 130 = .ok (.iconst 1, 1) := by decide +kernel
theorem dX6_readItem_131 : decode cX6_readItem 131 = .ok (.goto 4, 3) := by decide +kernel
theorem dX6_readItem_134 : decode cX6_readItem 134 = .ok (.iconst 0, 1) := by decide +kernel
theorem dX6_readItem_135 : decode cX6_readItem 135 = .ok (.ireturn, 1) := by decide +kernel
theorem dX6_readItem_136 : decode cX6_readItem 136 = .ok (.iconst 0, 1) := by decide +kernel
theorem dX6_readItem_137 : decode cX6_readItem 137 = .ok (.ireturn, 1) := by decide +kernel
theorem dX6_readNumbers_0 : decode cX6_readNumbers 0 = .ok (.iconst 0, 1) := by decide +kernel
theorem dX6_readNumbers_1 : decode cX6_readNumbers 1 = .ok (.istore_n 3, 1) := by decide +kernel
theorem dX6_readNumbers_2 : decode cX6_readNumbers 2 = .ok (.iload_n 3, 1) := by decide +kernel
theorem dX6_readNumbers_3 : decode cX6_readNumbers 3 = .ok (.aload_n 1, 1) := by decide +kernel
theorem dX6_readNumbers_4 : decode cX6_readNumbers 4 = .ok (.arraylength, 1) := by decide +kernel
theorem dX6_readNumbers_5 : decode cX6_readNumbers 5 = .ok (.if_icmp .ge 68, 3) := by decide +kernel
theorem dX6_readNumbers_8 : decode cX6_readNumbers 8 = .ok (.iload_n 3, 1) := by decide +kernel
theorem dX6_readNumbers_9 : decode cX6_readNumbers 9 = .ok (.aload_n 2, 1) := by decide +kernel
theorem dX6_readNumbers_10 : decode cX6_readNumbers 10 = .ok (.arraylength, 1) := by decide +kernel
theorem dX6_readNumbers_11 : decode cX6_readNumbers 11 = .ok (.if_icmp .ge 62, 3) := by decide +kernel
theorem dX6_readNumbers_14 : decode cX6_readNumbers 14 = .ok (.iload_n 3, 1) := by decide +kernel
theorem dX6_readNumbers_15 : decode cX6_readNumbers 15 = .ok (.aload_n 0, 1) := by decide +kernel
theorem dX6_readNumbers_16 : decode cX6_readNumbers 16 = .ok (.getfield 29, 3) := by decide +kernel
theorem dX6_readNumbers_19 : decode cX6_readNumbers 19 = .ok (.arraylength, 1) := by decide +kernel
theorem dX6_readNumbers_20 : decode cX6_readNumbers 20 = .ok (.if_icmp .ge 53, 3) := by decide +kernel
theorem dX6_readNumbers_23 : decode cX6_readNumbers 23 = .ok (.aload_n 0, 1) := by decide +kernel
theorem dX6_readNumbers_24 : decode cX6_readNumbers 24 = .ok (.invokevirtual 48, 3) := by decide +kernel
theorem dX6_readNumbers_27 : decode cX6_readNumbers 27 = .ok (.aload_n 0, 1) := by decide +kernel
theorem dX6_readNumbers_28 : decode cX6_readNumbers 28 = .ok (.getfield 51, 3) := by decide +kernel
theorem dX6_readNumbers_31 : decode cX6_readNumbers 31 = .ok (.iconst 1, 1) := by decide +kernel
theorem dX6_readNumbers_32 : decode cX6_readNumbers 32 = .ok (.if_icmp .ne 23, 3) := by decide +kernel
theorem dX6_readNumbers_35 : decode cX6_readNumbers 35 = .ok (.aload_n 0, 1) := by decide +kernel
theorem dX6_readNumbers_36 : decode cX6_readNumbers 36 = .ok (.getfield 95, 3) := by decide +kernel
theorem dX6_readNumbers_39 : decode cX6_readNumbers 39 = .ok (.aload_n 1, 1) := by decide +kernel
theorem dX6_readNumbers_40 : decode cX6_readNumbers 40 = .ok (.iload_n 3, 1) := by decide +kernel
theorem dX6_readNumbers_41 : decode cX6_readNumbers 41 = .ok (.iaload, 1) := by decide +kernel
theorem dX6_readNumbers_42 : decode cX6_readNumbers 42 = .ok (.if_icmp .lt 13, 3) := by decide +kernel
theorem dX6_readNumbers_45 : decode cX6_readNumbers 45 = .ok (.aload_n 0, 1) := by decide +kernel
theorem dX6_readNumbers_46 : decode cX6_readNumbers 46 = .ok (.getfield 95, 3) := by decide +kernel
theorem dX6_readNumbers_49 : decode cX6_readNumbers 49 = .ok (.aload_n 2, 1) := by decide +kernel
theorem dX6_readNumbers_50 : decode cX6_readNumbers 50 = .ok (.iload_n 3, 1) := by decide +kernel
theorem dX6_readNumbers_51 : decode cX6_readNumbers 51 = .ok (.iaload, 1) := by decide +kernel
theorem dX6_readNumbers_52 : decode cX6_readNumbers 52 = .ok (.if_icmp .le 5, 3) := by decide +kernel
theorem dX6_readNumbers_55 : decode cX6_readNumbers 55 = .ok (.iconst 0, 1) := by decide +kernel
theorem dX6_readNumbers_56 : decode cX6_readNumbers 56 = .ok (.ireturn, 1) := by decide +kernel
theorem dX6_readNumbers_57 : decode cX6_readNumbers 57 = .ok (.aload_n 0, 1) := by decide +kernel
theorem dX6_readNumbers_58 : decode cX6_readNumbers 58 = .ok (.getfield 29, 3) := by decide +kernel
theorem dX6_readNumbers_61 : decode cX6_readNumbers 61 = .ok (.iload_n 3, 1) := by decide +kernel
theorem dX6_readNumbers_62 : decode cX6_readNumbers 62 = .ok (.aload_n 0, 1) := by decide +kernel
theorem dX6_readNumbers_63 : decode cX6_readNumbers 63 = .ok (.getfield 95, 3) := by decide +kernel
theorem dX6_readNumbers_66 : decode cX6_readNumbers 66 = .ok (.iastore, 1) := by decide +kernel
theorem dX6_readNumbers_67 : decode cX6_readNumbers 67 = .ok (.iinc 3 1, 3) := by decide +kernel
theorem dX6_readNumbers_70 : decode cX6_readNumbers 70 = .ok (.goto (-68), 3) := by decide +kernel
theorem dX6_readNumbers_73 : decode cX6_readNumbers 73 = .ok (.aload_n 0, 1) := by decide +kernel
theorem dX6_readNumbers_74 : decode cX6_readNumbers 74 = .ok (.invokevirtual 48, 3) := by decide +kernel
theorem dX6_readNumbers_77 : decode cX6_readNumbers 77 = .ok (.aload_n 0, 1) := by decide +kernel
theorem dX6_readNumbers_78 : decode cX6_readNumbers 78 = .ok (.getfield 51, 3) := by decide +kernel
theorem dX6_readNumbers_81 : decode cX6_readNumbers 81 = .ok (.bipush 59, 2) := by decide +kernel
theorem dX6_readNumbers_83 : decode cX6_readNumbers 83 = .ok (.if_icmp .ne 7, 3) := by decide +kernel
theorem dX6_readNumbers_86 : decode cX6_readNumbers 86 = .ok (.iconst 1, 1) := by decide +kernel
theorem dX6_readNumbers_87 : decode cX6_readNumbers 87 = .ok (.goto 4, 3) := by decide +kernel
theorem dX6_readNumbers_90 : decode cX6_readNumbers 90 = .ok (.iconst 0, 1) := by decide +kernel
theorem dX6_readNumbers_91 : decode cX6_readNumbers 91 = .ok (.ireturn, 1) := by decide +kernel
theorem dX6_tellPerson_0 : decode cX6_tellPerson 0 = .ok (.aload_n 0, 1) := by decide +kernel
theorem dX6_tellPerson_1 : decode cX6_tellPerson 1 = .ok (.getfield 25, 3) := by decide +kernel
theorem dX6_tellPerson_4 : decode cX6_tellPerson 4 = .ok (.aload_n 0, 1) := by decide +kernel
theorem dX6_tellPerson_5 : decode cX6_tellPerson 5 = .ok (.getfield 18, 3) := by decide +kernel
theorem dX6_tellPerson_8 : decode cX6_tellPerson 8 = .ok (.getfield 61, 3) := by decide +kernel
theorem dX6_tellPerson_11 : decode cX6_tellPerson 11 = .ok (.aload_n 0, 1) := by decide +kernel
theorem dX6_tellPerson_12 : decode cX6_tellPerson 12 = .ok (.getfield 29, 3) := by decide +kernel
theorem dX6_tellPerson_15 : decode cX6_tellPerson 15 = .ok (.iconst 0, 1) := by decide +kernel
theorem dX6_tellPerson_16 : decode cX6_tellPerson 16 = .ok (.iaload, 1) := by decide +kernel
theorem dX6_tellPerson_17 : decode cX6_tellPerson 17 = .ok (.aload_n 0, 1) := by decide +kernel
theorem dX6_tellPerson_18 : decode cX6_tellPerson 18 = .ok (.getfield 29, 3) := by decide +kernel
theorem dX6_tellPerson_21 : decode cX6_tellPerson 21 = .ok (.iconst 1, 1) := by decide +kernel
theorem dX6_tellPerson_22 : decode cX6_tellPerson 22 = .ok (.iaload, 1) := by decide +kernel
theorem dX6_tellPerson_23 : decode cX6_tellPerson 23 = .ok (.invokestatic 98, 3) := by decide +kernel
theorem dX6_tellPerson_26 : decode cX6_tellPerson 26 = .ok (.invokevirtual 102, 3) := by decide +kernel
theorem dX6_tellPerson_29 : decode cX6_tellPerson 29 = .ok (.aload_n 0, 1) := by decide +kernel
theorem dX6_tellPerson_30 : decode cX6_tellPerson 30 = .ok (.getfield 18, 3) := by decide +kernel
theorem dX6_tellPerson_33 : decode cX6_tellPerson 33 = .ok (.aload_n 0, 1) := by decide +kernel
theorem dX6_tellPerson_34 : decode cX6_tellPerson 34 = .ok (.getfield 29, 3) := by decide +kernel
theorem dX6_tellPerson_37 : decode cX6_tellPerson 37 = .ok (.iconst 2, 1) := by decide +kernel
theorem dX6_tellPerson_38 : decode cX6_tellPerson 38 = .ok (.iaload, 1) := by decide +kernel
theorem dX6_tellPerson_39 : decode cX6_tellPerson 39 = .ok (.aload_n 0, 1) := by decide +kernel
theorem dX6_tellPerson_40 : decode cX6_tellPerson 40 = .ok (.getfield 29, 3) := by decide +kernel
theorem dX6_tellPerson_43 : decode cX6_tellPerson 43 = .ok (.iconst 3, 1) := by decide +kernel
theorem dX6_tellPerson_44 : decode cX6_tellPerson 44 = .ok (.iaload, 1) := by decide +kernel
theorem dX6_tellPerson_45 : decode cX6_tellPerson 45 = .ok (.invokevirtual 106, 3) := by decide +kernel
theorem dX6_tellPerson_48 : decode cX6_tellPerson 48 = .ok (.iconst 1, 1) := by decide +kernel
theorem dX6_tellPerson_49 : decode cX6_tellPerson 49 = .ok (.ireturn, 1) := by decide +kernel
theorem dX6_tellSoaked_0 : decode cX6_tellSoaked 0 = .ok (.aload_n 0, 1) := by decide +kernel
theorem dX6_tellSoaked_1 : decode cX6_tellSoaked 1 = .ok (.iconst 1, 1) := by decide +kernel
theorem dX6_tellSoaked_2 : decode cX6_tellSoaked 2 = .ok (.putfield 41, 3) := by decide +kernel
theorem dX6_tellSoaked_5 : decode cX6_tellSoaked 5 = .ok (.aload_n 0, 1) := by decide +kernel
theorem dX6_tellSoaked_6 : decode cX6_tellSoaked 6 = .ok (.getfield 18, 3) := by decide +kernel
theorem dX6_tellSoaked_9 : decode cX6_tellSoaked 9 = .ok (.aload_n 0, 1) := by decide +kernel
theorem dX6_tellSoaked_10 : decode cX6_tellSoaked 10 = .ok (.getfield 29, 3) := by decide +kernel
theorem dX6_tellSoaked_13 : decode cX6_tellSoaked 13 = .ok (.iconst 0, 1) := by decide +kernel
theorem dX6_tellSoaked_14 : decode cX6_tellSoaked 14 = .ok (.iaload, 1) := by decide +kernel
theorem dX6_tellSoaked_15 : decode cX6_tellSoaked 15 = .ok (.putfield 109, 3) := by decide +kernel
theorem dX6_tellSoaked_18 : decode cX6_tellSoaked 18 = .ok (.iconst 1, 1) := by decide +kernel
theorem dX6_tellSoaked_19 : decode cX6_tellSoaked 19 = .ok (.ireturn, 1) := by decide +kernel
theorem dX6_tellDeep_0 : decode cX6_tellDeep 0 = .ok (.aload_n 0, 1) := by decide +kernel
theorem dX6_tellDeep_1 : decode cX6_tellDeep 1 = .ok (.getfield 25, 3) := by decide +kernel
theorem dX6_tellDeep_4 : decode cX6_tellDeep 4 = .ok (.aload_n 0, 1) := by decide +kernel
theorem dX6_tellDeep_5 : decode cX6_tellDeep 5 = .ok (.getfield 29, 3) := by decide +kernel
theorem dX6_tellDeep_8 : decode cX6_tellDeep 8 = .ok (.iconst 0, 1) := by decide +kernel
theorem dX6_tellDeep_9 : decode cX6_tellDeep 9 = .ok (.iaload, 1) := by decide +kernel
theorem dX6_tellDeep_10 : decode cX6_tellDeep 10 = .ok (.aload_n 0, 1) := by decide +kernel
theorem dX6_tellDeep_11 : decode cX6_tellDeep 11 = .ok (.getfield 29, 3) := by decide +kernel
theorem dX6_tellDeep_14 : decode cX6_tellDeep 14 = .ok (.iconst 1, 1) := by decide +kernel
theorem dX6_tellDeep_15 : decode cX6_tellDeep 15 = .ok (.iaload, 1) := by decide +kernel
theorem dX6_tellDeep_16 : decode cX6_tellDeep 16 = .ok (.invokestatic 98, 3) := by decide +kernel
theorem dX6_tellDeep_19 : decode cX6_tellDeep 19 = .ok (.aload_n 0, 1) := by decide +kernel
theorem dX6_tellDeep_20 : decode cX6_tellDeep 20 = .ok (.getfield 29, 3) := by decide +kernel
theorem dX6_tellDeep_23 : decode cX6_tellDeep 23 = .ok (.iconst 2, 1) := by decide +kernel
theorem dX6_tellDeep_24 : decode cX6_tellDeep 24 = .ok (.iaload, 1) := by decide +kernel
theorem dX6_tellDeep_25 : decode cX6_tellDeep 25 = .ok (.invokevirtual 112, 3) := by decide +kernel
theorem dX6_tellDeep_28 : decode cX6_tellDeep 28 = .ok (.iconst 1, 1) := by decide +kernel
theorem dX6_tellDeep_29 : decode cX6_tellDeep 29 = .ok (.ireturn, 1) := by decide +kernel
theorem dX6_letterAt_0 : decode cX6_letterAt 0 = .ok (.iload_n 1, 1) := by decide +kernel
theorem dX6_letterAt_1 : decode cX6_letterAt 1 = .ok (.ifCond .lt 29, 3) := by decide +kernel
theorem dX6_letterAt_4 : decode cX6_letterAt 4 = .ok (.iload_n 1, 1) := by decide +kernel
theorem dX6_letterAt_5 : decode cX6_letterAt 5 = .ok (.aload_n 0, 1) := by decide +kernel
theorem dX6_letterAt_6 : decode cX6_letterAt 6 = .ok (.getfield 33, 3) := by decide +kernel
theorem dX6_letterAt_9 : decode cX6_letterAt 9 = .ok (.if_icmp .ge 21, 3) := by decide +kernel
theorem dX6_letterAt_12 : decode cX6_letterAt 12 = .ok (.iload_n 1, 1) := by decide +kernel
theorem dX6_letterAt_13 : decode cX6_letterAt 13 = .ok (.aload_n 0, 1) := by decide +kernel
theorem dX6_letterAt_14 : decode cX6_letterAt 14 = .ok (.getfield 9, 3) := by decide +kernel
theorem dX6_letterAt_17 : decode cX6_letterAt 17 = .ok (.arraylength, 1) := by decide +kernel
theorem dX6_letterAt_18 : decode cX6_letterAt 18 = .ok (.if_icmp .ge 12, 3) := by decide +kernel
theorem dX6_letterAt_21 : decode cX6_letterAt 21 = .ok (.aload_n 0, 1) := by decide +kernel
theorem dX6_letterAt_22 : decode cX6_letterAt 22 = .ok (.getfield 9, 3) := by decide +kernel
theorem dX6_letterAt_25 : decode cX6_letterAt 25 = .ok (.iload_n 1, 1) := by decide +kernel
theorem dX6_letterAt_26 : decode cX6_letterAt 26 = .ok (.caload, 1) := by decide +kernel
theorem dX6_letterAt_27 : decode cX6_letterAt 27 = .ok (.goto 5, 3) := by decide +kernel
theorem dX6_letterAt_30 : decode cX6_letterAt 30 = .ok (.bipush 32, 2) := by decide +kernel
theorem dX6_letterAt_32 : decode cX6_letterAt 32 = .ok (.ireturn, 1) := by decide +kernel
theorem dX6_isDigit_0 : decode cX6_isDigit 0 = .ok (.iload_n 0, 1) := by decide +kernel
theorem dX6_isDigit_1 : decode cX6_isDigit 1 = .ok (.bipush 48, 2) := by decide +kernel
theorem dX6_isDigit_3 : decode cX6_isDigit 3 = .ok (.if_icmp .lt 13, 3) := by decide +kernel
theorem dX6_isDigit_6 : decode cX6_isDigit 6 = .ok (.iload_n 0, 1) := by decide +kernel
theorem dX6_isDigit_7 : decode cX6_isDigit 7 = .ok (.bipush 57, 2) := by decide +kernel
theorem dX6_isDigit_9 : decode cX6_isDigit 9 = .ok (.if_icmp .gt 7, 3) := by decide +kernel
theorem dX6_isDigit_12 : decode cX6_isDigit 12 = .ok (.iconst 1, 1) := by decide +kernel
theorem dX6_isDigit_13 : decode cX6_isDigit 13 = .ok (.goto 4, 3) := by decide +kernel
theorem dX6_isDigit_16 : decode cX6_isDigit 16 = .ok (.iconst 0, 1) := by decide +kernel
theorem dX6_isDigit_17 : decode cX6_isDigit 17 = .ok (.ireturn, 1) := by decide +kernel
theorem dX6_nextToken_0 : decode cX6_nextToken 0 = .ok (.aload_n 0, 1) := by decide +kernel
theorem dX6_nextToken_1 : decode cX6_nextToken 1 = .ok (.getfield 45, 3) := by decide +kernel
theorem dX6_nextToken_4 : decode cX6_nextToken 4 = .ok (.aload_n 0, 1) := by decide +kernel
theorem dX6_nextToken_5 : decode cX6_nextToken 5 = .ok (.getfield 33, 3) := by decide +kernel
theorem dX6_nextToken_8 : decode cX6_nextToken 8 = .ok (.if_icmp .ge 29, 3) := by decide +kernel
theorem dX6_nextToken_11 : decode cX6_nextToken 11 = .ok (.aload_n 0, 1) := by decide +kernel
theorem dX6_nextToken_12 : decode cX6_nextToken 12 = .ok (.aload_n 0, 1) := by decide +kernel
theorem dX6_nextToken_13 : decode cX6_nextToken 13 = .ok (.getfield 45, 3) := by decide +kernel
theorem dX6_nextToken_16 : decode cX6_nextToken 16 = .ok (.invokevirtual 115, 3) := by decide +kernel
theorem dX6_nextToken_19 : decode cX6_nextToken 19 = .ok (.bipush 32, 2) := by decide +kernel
theorem dX6_nextToken_21 : decode cX6_nextToken 21 = .ok (.if_icmp .ne 16, 3) := by decide +kernel
theorem dX6_nextToken_24 : decode cX6_nextToken 24 = .ok (.aload_n 0, 1) := by decide +kernel
theorem dX6_nextToken_25 : decode cX6_nextToken 25 = .ok (.dup, 1) := by decide +kernel
theorem dX6_nextToken_26 : decode cX6_nextToken 26 = .ok (.getfield 45, 3) := by decide +kernel
theorem dX6_nextToken_29 : decode cX6_nextToken 29 = .ok (.iconst 1, 1) := by decide +kernel
theorem dX6_nextToken_30 : decode cX6_nextToken 30 = .ok (.iadd, 1) := by decide +kernel
theorem dX6_nextToken_31 : decode cX6_nextToken 31 = .ok (.putfield 45, 3) := by decide +kernel
theorem dX6_nextToken_34 : decode cX6_nextToken 34 = .ok (.goto (-34), 3) := by decide +kernel
theorem dX6_nextToken_37 : decode cX6_nextToken 37 = .ok (.aload_n 0, 1) := by decide +kernel
theorem dX6_nextToken_38 : decode cX6_nextToken 38 = .ok (.aload_n 0, 1) := by decide +kernel
theorem dX6_nextToken_39 : decode cX6_nextToken 39 = .ok (.getfield 45, 3) := by decide +kernel
theorem dX6_nextToken_42 : decode cX6_nextToken 42 = .ok (.putfield 58, 3) := by decide +kernel
theorem dX6_nextToken_45 : decode cX6_nextToken 45 = .ok (.aload_n 0, 1) := by decide +kernel
theorem dX6_nextToken_46 : decode cX6_nextToken 46 = .ok (.getfield 45, 3) := by decide +kernel
theorem dX6_nextToken_49 : decode cX6_nextToken 49 = .ok (.aload_n 0, 1) := by decide +kernel
theorem dX6_nextToken_50 : decode cX6_nextToken 50 = .ok (.getfield 33, 3) := by decide +kernel
theorem dX6_nextToken_53 : decode cX6_nextToken 53 = .ok (.if_icmp .lt 11, 3) := by decide +kernel
theorem dX6_nextToken_56 : decode cX6_nextToken 56 = .ok (.aload_n 0, 1) := by decide +kernel
theorem dX6_nextToken_57 : decode cX6_nextToken 57 = .ok (.iconst 3, 1) := by decide +kernel
theorem dX6_nextToken_58 : decode cX6_nextToken 58 = .ok (.putfield 51, 3) := by decide +kernel
theorem dX6_nextToken_61 : decode cX6_nextToken 61 = .ok (.goto 76, 3) := by decide +kernel
theorem dX6_nextToken_64 : decode cX6_nextToken 64 = .ok (.aload_n 0, 1) := by decide +kernel
theorem dX6_nextToken_65 : decode cX6_nextToken 65 = .ok (.aload_n 0, 1) := by decide +kernel
theorem dX6_nextToken_66 : decode cX6_nextToken 66 = .ok (.getfield 45, 3) := by decide +kernel
theorem dX6_nextToken_69 : decode cX6_nextToken 69 = .ok (.invokevirtual 115, 3) := by decide +kernel
theorem dX6_nextToken_72 : decode cX6_nextToken 72 = .ok (.invokestatic 119, 3) := by decide +kernel
theorem dX6_nextToken_75 : decode cX6_nextToken 75 = .ok (.ifCond .eq 10, 3) := by decide +kernel
theorem dX6_nextToken_78 : decode cX6_nextToken 78 = .ok (.aload_n 0, 1) := by decide +kernel
theorem dX6_nextToken_79 : decode cX6_nextToken 79 = .ok (.invokevirtual 123, 3) := by decide +kernel
theorem dX6_nextToken_82 : decode cX6_nextToken 82 = .ok (.goto 55, 3) := by decide +kernel
theorem dX6_nextToken_85 : decode cX6_nextToken 85 = .ok (.aload_n 0, 1) := by decide +kernel
theorem dX6_nextToken_86 : decode cX6_nextToken 86 = .ok (.aload_n 0, 1) := by decide +kernel
theorem dX6_nextToken_87 : decode cX6_nextToken 87 = .ok (.getfield 45, 3) := by decide +kernel
theorem dX6_nextToken_90 : decode cX6_nextToken 90 = .ok (.invokevirtual 115, 3) := by decide +kernel
theorem dX6_nextToken_93 : decode cX6_nextToken 93 = .ok (.istore_n 1, 1) := by decide +kernel
theorem dX6_nextToken_94 : decode cX6_nextToken 94 = .ok (.aload_n 0, 1) := by decide +kernel
theorem dX6_nextToken_95 : decode cX6_nextToken 95 = .ok (.dup, 1) := by decide +kernel
theorem dX6_nextToken_96 : decode cX6_nextToken 96 = .ok (.getfield 45, 3) := by decide +kernel
theorem dX6_nextToken_99 : decode cX6_nextToken 99 = .ok (.iconst 1, 1) := by decide +kernel
theorem dX6_nextToken_100 : decode cX6_nextToken 100 = .ok (.iadd, 1) := by decide +kernel
theorem dX6_nextToken_101 : decode cX6_nextToken 101 = .ok (.putfield 45, 3) := by decide +kernel
theorem dX6_nextToken_104 : decode cX6_nextToken 104 = .ok (.aload_n 0, 1) := by decide +kernel
theorem dX6_nextToken_105 : decode cX6_nextToken 105 = .ok (.iload_n 1, 1) := by decide +kernel
theorem dX6_nextToken_106 : decode cX6_nextToken 106 = .ok (.bipush 112, 2) := by decide +kernel
theorem dX6_nextToken_108 : decode cX6_nextToken 108 = .ok (.if_icmp .eq 21, 3) := by decide +kernel
theorem dX6_nextToken_111 : decode cX6_nextToken 111 = .ok (.iload_n 1, 1) := by decide +kernel
theorem dX6_nextToken_112 : decode cX6_nextToken 112 = .ok (.bipush 115, 2) := by decide +kernel
theorem dX6_nextToken_114 : decode cX6_nextToken 114 = .ok (.if_icmp .eq 15, 3) := by decide +kernel
theorem dX6_nextToken_117 : decode cX6_nextToken 117 = .ok (.iload_n 1, 1) := by decide +kernel
theorem dX6_nextToken_118 : decode cX6_nextToken 118 = .ok (.bipush 102, 2) := by decide +kernel
theorem dX6_nextToken_120 : decode cX6_nextToken 120 = .ok (.if_icmp .eq 9, 3) := by decide +kernel
theorem dX6_nextToken_123 : decode cX6_nextToken 123 = .ok (.iload_n 1, 1) := by decide +kernel
theorem dX6_nextToken_124 : decode cX6_nextToken 124 = .ok (.bipush 59, 2) := by decide +kernel
theorem dX6_nextToken_126 : decode cX6_nextToken 126 = .ok (.if_icmp .ne 7, 3) := by decide +kernel
theorem dX6_nextToken_129 : decode cX6_nextToken 129 = .ok (.iload_n 1, 1) := by decide +kernel
theorem dX6_nextToken_130 : decode cX6_nextToken 130 = .ok (.goto 4, 3) := by decide +kernel
theorem dX6_nextToken_133 : decode cX6_nextToken 133 = .ok (.iconst 2, 1) := by decide +kernel
theorem dX6_nextToken_134 : decode cX6_nextToken 134 = .ok (.putfield 51, 3) := by decide +kernel
theorem dX6_nextToken_137 : decode cX6_nextToken 137 = .ok (.return_, 1) := by decide +kernel
theorem dX6_nextNumber_0 : decode cX6_nextNumber 0 = .ok (.aload_n 0, 1) := by decide +kernel
theorem dX6_nextNumber_1 : decode cX6_nextNumber 1 = .ok (.iconst 0, 1) := by decide +kernel
theorem dX6_nextNumber_2 : decode cX6_nextNumber 2 = .ok (.putfield 95, 3) := by decide +kernel
theorem dX6_nextNumber_5 : decode cX6_nextNumber 5 = .ok (.aload_n 0, 1) := by decide +kernel
theorem dX6_nextNumber_6 : decode cX6_nextNumber 6 = .ok (.getfield 45, 3) := by decide +kernel
theorem dX6_nextNumber_9 : decode cX6_nextNumber 9 = .ok (.aload_n 0, 1) := by decide +kernel
theorem dX6_nextNumber_10 : decode cX6_nextNumber 10 = .ok (.getfield 33, 3) := by decide +kernel
theorem dX6_nextNumber_13 : decode cX6_nextNumber 13 = .ok (.if_icmp .ge 58, 3) := by decide +kernel
theorem dX6_nextNumber_16 : decode cX6_nextNumber 16 = .ok (.aload_n 0, 1) := by decide +kernel
theorem dX6_nextNumber_17 : decode cX6_nextNumber 17 = .ok (.aload_n 0, 1) := by decide +kernel
theorem dX6_nextNumber_18 : decode cX6_nextNumber 18 = .ok (.getfield 45, 3) := by decide +kernel
theorem dX6_nextNumber_21 : decode cX6_nextNumber 21 = .ok (.invokevirtual 115, 3) := by decide +kernel
theorem dX6_nextNumber_24 : decode cX6_nextNumber 24 = .ok (.invokestatic 119, 3) := by decide +kernel
theorem dX6_nextNumber_27 : decode cX6_nextNumber 27 = .ok (.ifCond .eq 44, 3) := by decide +kernel
theorem dX6_nextNumber_30 : decode cX6_nextNumber 30 = .ok (.aload_n 0, 1) := by decide +kernel
theorem dX6_nextNumber_31 : decode cX6_nextNumber 31 = .ok (.bipush 100, 2) := by decide +kernel
theorem dX6_nextNumber_33 : decode cX6_nextNumber 33 = .ok (.bipush 10, 2) := by decide +kernel
theorem dX6_nextNumber_35 : decode cX6_nextNumber 35 = .ok (.aload_n 0, 1) := by decide +kernel
theorem dX6_nextNumber_36 : decode cX6_nextNumber 36 = .ok (.getfield 95, 3) := by decide +kernel
theorem dX6_nextNumber_39 : decode cX6_nextNumber 39 = .ok (.imul, 1) := by decide +kernel
theorem dX6_nextNumber_40 : decode cX6_nextNumber 40 = .ok (.aload_n 0, 1) := by decide +kernel
theorem dX6_nextNumber_41 : decode cX6_nextNumber 41 = .ok (.aload_n 0, 1) := by decide +kernel
theorem dX6_nextNumber_42 : decode cX6_nextNumber 42 = .ok (.getfield 45, 3) := by decide +kernel
theorem dX6_nextNumber_45 : decode cX6_nextNumber 45 = .ok (.invokevirtual 115, 3) := by decide +kernel
theorem dX6_nextNumber_48 : decode cX6_nextNumber 48 = .ok (.bipush 48, 2) := by decide +kernel
theorem dX6_nextNumber_50 : decode cX6_nextNumber 50 = .ok (.isub, 1) := by decide +kernel
theorem dX6_nextNumber_51 : decode cX6_nextNumber 51 = .ok (.iadd, 1) := by decide +kernel
theorem dX6_nextNumber_52 : decode cX6_nextNumber 52 = .ok (.invokestatic 126, 3) := by decide +kernel
theorem dX6_nextNumber_55 : decode cX6_nextNumber 55 = .ok (.putfield 95, 3) := by decide +kernel
theorem dX6_nextNumber_58 : decode cX6_nextNumber 58 = .ok (.aload_n 0, 1) := by decide +kernel
theorem dX6_nextNumber_59 : decode cX6_nextNumber 59 = .ok (.dup, 1) := by decide +kernel
theorem dX6_nextNumber_60 : decode cX6_nextNumber 60 = .ok (.getfield 45, 3) := by decide +kernel
theorem dX6_nextNumber_63 : decode cX6_nextNumber 63 = .ok (.iconst 1, 1) := by decide +kernel
theorem dX6_nextNumber_64 : decode cX6_nextNumber 64 = .ok (.iadd, 1) := by decide +kernel
theorem dX6_nextNumber_65 : decode cX6_nextNumber 65 = .ok (.putfield 45, 3) := by decide +kernel
theorem dX6_nextNumber_68 : decode cX6_nextNumber 68 = .ok (.goto (-63), 3) := by decide +kernel
theorem dX6_nextNumber_71 : decode cX6_nextNumber 71 = .ok (.aload_n 0, 1) := by decide +kernel
theorem dX6_nextNumber_72 : decode cX6_nextNumber 72 = .ok (.aload_n 0, 1) := by decide +kernel
theorem dX6_nextNumber_73 : decode cX6_nextNumber 73 = .ok (.getfield 58, 3) := by decide +kernel
theorem dX6_nextNumber_76 : decode cX6_nextNumber 76 = .ok (.invokevirtual 115, 3) := by decide +kernel
theorem dX6_nextNumber_79 : decode cX6_nextNumber 79 = .ok (.bipush 48, 2) := by decide +kernel
theorem dX6_nextNumber_81 : decode cX6_nextNumber 81 = .ok (.if_icmp .ne 20, 3) := by decide +kernel
theorem dX6_nextNumber_84 : decode cX6_nextNumber 84 = .ok (.aload_n 0, 1) := by decide +kernel
theorem dX6_nextNumber_85 : decode cX6_nextNumber 85 = .ok (.getfield 45, 3) := by decide +kernel
theorem dX6_nextNumber_88 : decode cX6_nextNumber 88 = .ok (.aload_n 0, 1) := by decide +kernel
theorem dX6_nextNumber_89 : decode cX6_nextNumber 89 = .ok (.getfield 58, 3) := by decide +kernel
theorem dX6_nextNumber_92 : decode cX6_nextNumber 92 = .ok (.isub, 1) := by decide +kernel
theorem dX6_nextNumber_93 : decode cX6_nextNumber 93 = .ok (.iconst 1, 1) := by decide +kernel
theorem dX6_nextNumber_94 : decode cX6_nextNumber 94 = .ok (.if_icmp .le 7, 3) := by decide +kernel
theorem dX6_nextNumber_97 : decode cX6_nextNumber 97 = .ok (.iconst 1, 1) := by decide +kernel
theorem dX6_nextNumber_98 : decode cX6_nextNumber 98 = .ok (.goto 4, 3) := by decide +kernel
theorem dX6_nextNumber_101 : decode cX6_nextNumber 101 = .ok (.iconst 0, 1) := by decide +kernel
theorem dX6_nextNumber_102 : decode cX6_nextNumber 102 = .ok (.istore_n 1, 1) := by decide +kernel
theorem dX6_nextNumber_103 : decode cX6_nextNumber 103 = .ok (.aload_n 0, 1) := by decide +kernel
theorem dX6_nextNumber_104 : decode cX6_nextNumber 104 = .ok (.iload_n 1, 1) := by decide +kernel
theorem dX6_nextNumber_105 : decode cX6_nextNumber 105 = .ok (.ifCond .ne 12, 3) := by decide +kernel
theorem dX6_nextNumber_108 : decode cX6_nextNumber 108 = .ok (.aload_n 0, 1) := by decide +kernel
theorem dX6_nextNumber_109 : decode cX6_nextNumber 109 = .ok (.getfield 95, 3) := by decide +kernel
theorem dX6_nextNumber_112 : decode cX6_nextNumber 112 = .ok (.bipush 99, 2) := by decide +kernel
theorem dX6_nextNumber_114 : decode cX6_nextNumber 114 = .ok (.if_icmp .le 7, 3) := by decide +kernel
theorem dX6_nextNumber_117 : decode cX6_nextNumber 117 = .ok (.iconst 2, 1) := by decide +kernel
theorem dX6_nextNumber_118 : decode cX6_nextNumber 118 = .ok (.goto 4, 3) := by decide +kernel
theorem dX6_nextNumber_121 : decode cX6_nextNumber 121 = .ok (.iconst 1, 1) := by decide +kernel
theorem dX6_nextNumber_122 : decode cX6_nextNumber 122 = .ok (.putfield 51, 3) := by decide +kernel
theorem dX6_nextNumber_125 : decode cX6_nextNumber 125 = .ok (.return_, 1) := by decide +kernel
theorem dX7_init_0 : decode cX7_init 0 = .ok (.aload_n 0, 1) := by decide +kernel
theorem dX7_init_1 : decode cX7_init 1 = .ok (.invokespecial 3, 3) := by decide +kernel
theorem dX7_init_4 : decode cX7_init 4 = .ok (.aload_n 0, 1) := by decide +kernel
theorem dX7_init_5 : decode cX7_init 5 = .ok (.iconst 5, 1) := by decide +kernel
theorem dX7_init_6 : decode cX7_init 6 = .ok (.newarray .int, 2) := by decide +kernel
theorem dX7_init_8 : decode cX7_init 8 = .ok (.putfield 9, 3) := by decide +kernel
theorem dX7_init_11 : decode cX7_init 11 = .ok (.aload_n 0, 1) := by decide +kernel
theorem dX7_init_12 : decode cX7_init 12 = .ok (.iconst 5, 1) := by decide +kernel
theorem dX7_init_13 : decode cX7_init 13 = .ok (.newarray .int, 2) := by decide +kernel
theorem dX7_init_15 : decode cX7_init 15 = .ok (.putfield 15, 3) := by decide +kernel
theorem dX7_init_18 : decode cX7_init 18 = .ok (.aload_n 0, 1) := by decide +kernel
theorem dX7_init_19 : decode cX7_init 19 = .ok (.iconst 1, 1) := by decide +kernel
theorem dX7_init_20 : decode cX7_init 20 = .ok (.putfield 18, 3) := by decide +kernel
theorem dX7_init_23 : decode cX7_init 23 = .ok (.return_, 1) := by decide +kernel
theorem dX7_reset_0 : decode cX7_reset 0 = .ok (.aload_n 0, 1) := by decide +kernel
theorem dX7_reset_1 : decode cX7_reset 1 = .ok (.iconst 0, 1) := by decide +kernel
theorem dX7_reset_2 : decode cX7_reset 2 = .ok (.putfield 22, 3) := by decide +kernel
theorem dX7_reset_5 : decode cX7_reset 5 = .ok (.aload_n 0, 1) := by decide +kernel
theorem dX7_reset_6 : decode cX7_reset 6 = .ok (.iconst 1, 1) := by decide +kernel
theorem dX7_reset_7 : decode cX7_reset 7 = .ok (.putfield 18, 3) := by decide +kernel
theorem dX7_reset_10 : decode cX7_reset 10 = .ok (.return_, 1) := by decide +kernel
theorem dX7_copyFrom_0 : decode cX7_copyFrom 0 = .ok (.aload_n 1, 1) := by decide +kernel
theorem dX7_copyFrom_1 : decode cX7_copyFrom 1 = .ok (.getfield 9, 3) := by decide +kernel
theorem dX7_copyFrom_4 : decode cX7_copyFrom 4 = .ok (.iconst 0, 1) := by decide +kernel
theorem dX7_copyFrom_5 : decode cX7_copyFrom 5 = .ok (.aload_n 0, 1) := by decide +kernel
theorem dX7_copyFrom_6 : decode cX7_copyFrom 6 = .ok (.getfield 9, 3) := by decide +kernel
theorem dX7_copyFrom_9 : decode cX7_copyFrom 9 = .ok (.iconst 0, 1) := by decide +kernel
theorem dX7_copyFrom_10 : decode cX7_copyFrom 10 = .ok (.iconst 5, 1) := by decide +kernel
theorem dX7_copyFrom_11 : decode cX7_copyFrom 11 = .ok (.invokestatic 25, 3) := by decide +kernel
theorem dX7_copyFrom_14 : decode cX7_copyFrom 14 = .ok (.aload_n 1, 1) := by decide +kernel
theorem dX7_copyFrom_15 : decode cX7_copyFrom 15 = .ok (.getfield 15, 3) := by decide +kernel
theorem dX7_copyFrom_18 : decode cX7_copyFrom 18 = .ok (.iconst 0, 1) := by decide +kernel
theorem dX7_copyFrom_19 : decode cX7_copyFrom 19 = .ok (.aload_n 0, 1) := by decide +kernel
theorem dX7_copyFrom_20 : decode cX7_copyFrom 20 = .ok (.getfield 15, 3) := by decide +kernel
theorem dX7_copyFrom_23 : decode cX7_copyFrom 23 = .ok (.iconst 0, 1) := by decide +kernel
theorem dX7_copyFrom_24 : decode cX7_copyFrom 24 = .ok (.iconst 5, 1) := by decide +kernel
theorem dX7_copyFrom_25 : decode cX7_copyFrom 25 = .ok (.invokestatic 25, 3) := by decide +kernel
theorem dX7_copyFrom_28 : decode cX7_copyFrom 28 = .ok (.aload_n 0, 1) := by decide +kernel
theorem dX7_copyFrom_29 : decode cX7_copyFrom 29 = .ok (.aload_n 1, 1) := by decide +kernel
theorem dX7_copyFrom_30 : decode cX7_copyFrom 30 = .ok (.getfield 22, 3) := by decide +kernel
theorem dX7_copyFrom_33 : decode cX7_copyFrom 33 = .ok (.putfield 22, 3) := by decide +kernel
theorem dX7_copyFrom_36 : decode cX7_copyFrom 36 = .ok (.aload_n 0, 1) := by decide +kernel
theorem dX7_copyFrom_37 : decode cX7_copyFrom 37 = .ok (.aload_n 1, 1) := by decide +kernel
theorem dX7_copyFrom_38 : decode cX7_copyFrom 38 = .ok (.getfield 18, 3) := by decide +kernel
theorem dX7_copyFrom_41 : decode cX7_copyFrom 41 = .ok (.putfield 18, 3) := by decide +kernel
theorem dX7_copyFrom_44 : decode cX7_copyFrom 44 = .ok (.return_, 1) := by decide +kernel
theorem dX7_add_0 : decode cX7_add 0 = .ok (.aload_n 0, 1) := by decide +kernel
theorem dX7_add_1 : decode cX7_add 1 = .ok (.getfield 22, 3) := by decide +kernel
theorem dX7_add_4 : decode cX7_add 4 = .ok (.ifCond .lt 41, 3) := by decide +kernel
theorem dX7_add_7 : decode cX7_add 7 = .ok (.aload_n 0, 1) := by decide +kernel
theorem dX7_add_8 : decode cX7_add 8 = .ok (.getfield 22, 3) := by decide +kernel
theorem dX7_add_11 : decode cX7_add 11 = .ok (.iconst 5, 1) := by decide +kernel
theorem dX7_add_12 : decode cX7_add 12 = .ok (.if_icmp .ge 33, 3) := by decide +kernel
theorem dX7_add_15 : decode cX7_add 15 = .ok (.aload_n 0, 1) := by decide +kernel
theorem dX7_add_16 : decode cX7_add 16 = .ok (.getfield 9, 3) := by decide +kernel
theorem dX7_add_19 : decode cX7_add 19 = .ok (.aload_n 0, 1) := by decide +kernel
theorem dX7_add_20 : decode cX7_add 20 = .ok (.getfield 22, 3) := by decide +kernel
theorem dX7_add_23 : decode cX7_add 23 = .ok (.iload_n 1, 1) := by decide +kernel
theorem dX7_add_24 : decode cX7_add 24 = .ok (.iastore, 1) := by decide +kernel
theorem dX7_add_25 : decode cX7_add 25 = .ok (.aload_n 0, 1) := by decide +kernel
theorem dX7_add_26 : decode cX7_add 26 = .ok (.getfield 15, 3) := by decide +kernel
theorem dX7_add_29 : decode cX7_add 29 = .ok (.aload_n 0, 1) := by decide +kernel
theorem dX7_add_30 : decode cX7_add 30 = .ok (.getfield 22, 3) := by decide +kernel
theorem dX7_add_33 : decode cX7_add 33 = .ok (.iload_n 2, 1) := by decide +kernel
theorem dX7_add_34 : decode cX7_add 34 = .ok (.iastore, 1) := by decide +kernel
theorem dX7_add_35 : decode cX7_add 35 = .ok (.aload_n 0, 1) := by decide +kernel
theorem dX7_add_36 : decode cX7_add 36 = .ok (.dup, 1) := by decide +kernel
theorem dX7_add_37 : decode cX7_add 37 = .ok (.getfield 22, 3) := by decide +kernel
theorem dX7_add_40 : decode cX7_add 40 = .ok (.iconst 1, 1) := by decide +kernel
theorem dX7_add_41 : decode cX7_add 41 = .ok (.iadd, 1) := by decide +kernel
theorem dX7_add_42 : decode cX7_add 42 = .ok (.putfield 22, 3) := by decide +kernel
theorem dX7_add_45 : decode cX7_add 45 = .ok (.return_, 1) := by decide +kernel
theorem dX7_has_0 : decode cX7_has 0 = .ok (.iload_n 1, 1) := by decide +kernel
theorem dX7_has_1 : decode cX7_has 1 = .ok (.ifCond .lt 15, 3) := by decide +kernel
theorem dX7_has_4 : decode cX7_has 4 = .ok (.iload_n 1, 1) := by decide +kernel
theorem dX7_has_5 : decode cX7_has 5 = .ok (.aload_n 0, 1) := by decide +kernel
theorem dX7_has_6 : decode cX7_has 6 = .ok (.getfield 22, 3) := by decide +kernel
theorem dX7_has_9 : decode cX7_has 9 = .ok (.if_icmp .ge 7, 3) := by decide +kernel
theorem dX7_has_12 : decode cX7_has 12 = .ok (.iconst 1, 1) := by decide +kernel
theorem dX7_has_13 : decode cX7_has 13 = .ok (.goto 4, 3) := by decide +kernel
theorem dX7_has_16 : decode cX7_has 16 = .ok (.iconst 0, 1) := by decide +kernel
theorem dX7_has_17 : decode cX7_has 17 = .ok (.ireturn, 1) := by decide +kernel
theorem dX7_sets_0 : decode cX7_sets 0 = .ok (.iconst 1, 1) := by decide +kernel
theorem dX7_sets_1 : decode cX7_sets 1 = .ok (.aload_n 0, 1) := by decide +kernel
theorem dX7_sets_2 : decode cX7_sets 2 = .ok (.getfield 22, 3) := by decide +kernel
theorem dX7_sets_5 : decode cX7_sets 5 = .ok (.ishl, 1) := by decide +kernel
theorem dX7_sets_6 : decode cX7_sets 6 = .ok (.ireturn, 1) := by decide +kernel
theorem dX7_weightOf_0 : decode cX7_weightOf 0 = .ok (.iload_n 1, 1) := by decide +kernel
theorem dX7_weightOf_1 : decode cX7_weightOf 1 = .ok (.ifCond .lt 21, 3) := by decide +kernel
theorem dX7_weightOf_4 : decode cX7_weightOf 4 = .ok (.iload_n 1, 1) := by decide +kernel
theorem dX7_weightOf_5 : decode cX7_weightOf 5 = .ok (.aload_n 0, 1) := by decide +kernel
theorem dX7_weightOf_6 : decode cX7_weightOf 6 = .ok (.getfield 9, 3) := by decide +kernel
theorem dX7_weightOf_9 : decode cX7_weightOf 9 = .ok (.arraylength, 1) := by decide +kernel
theorem dX7_weightOf_10 : decode cX7_weightOf 10 = .ok (.if_icmp .ge 12, 3) := by decide +kernel
theorem dX7_weightOf_13 : decode cX7_weightOf 13 = .ok (.aload_n 0, 1) := by decide +kernel
theorem dX7_weightOf_14 : decode cX7_weightOf 14 = .ok (.getfield 9, 3) := by decide +kernel
theorem dX7_weightOf_17 : decode cX7_weightOf 17 = .ok (.iload_n 1, 1) := by decide +kernel
theorem dX7_weightOf_18 : decode cX7_weightOf 18 = .ok (.iaload, 1) := by decide +kernel
theorem dX7_weightOf_19 : decode cX7_weightOf 19 = .ok (.goto 4, 3) := by decide +kernel
theorem dX7_weightOf_22 : decode cX7_weightOf 22 = .ok (.iconst 0, 1) := by decide +kernel
theorem dX7_weightOf_23 : decode cX7_weightOf 23 = .ok (.ireturn, 1) := by decide +kernel
theorem dX7_voicesOf_0 : decode cX7_voicesOf 0 = .ok (.iload_n 1, 1) := by decide +kernel
theorem dX7_voicesOf_1 : decode cX7_voicesOf 1 = .ok (.ifCond .lt 21, 3) := by decide +kernel
theorem dX7_voicesOf_4 : decode cX7_voicesOf 4 = .ok (.iload_n 1, 1) := by decide +kernel
theorem dX7_voicesOf_5 : decode cX7_voicesOf 5 = .ok (.aload_n 0, 1) := by decide +kernel
theorem dX7_voicesOf_6 : decode cX7_voicesOf 6 = .ok (.getfield 15, 3) := by decide +kernel
theorem dX7_voicesOf_9 : decode cX7_voicesOf 9 = .ok (.arraylength, 1) := by decide +kernel
theorem dX7_voicesOf_10 : decode cX7_voicesOf 10 = .ok (.if_icmp .ge 12, 3) := by decide +kernel
theorem dX7_voicesOf_13 : decode cX7_voicesOf 13 = .ok (.aload_n 0, 1) := by decide +kernel
theorem dX7_voicesOf_14 : decode cX7_voicesOf 14 = .ok (.getfield 15, 3) := by decide +kernel
theorem dX7_voicesOf_17 : decode cX7_voicesOf 17 = .ok (.iload_n 1, 1) := by decide +kernel
theorem dX7_voicesOf_18 : decode cX7_voicesOf 18 = .ok (.iaload, 1) := by decide +kernel
theorem dX7_voicesOf_19 : decode cX7_voicesOf 19 = .ok (.goto 4, 3) := by decide +kernel
theorem dX7_voicesOf_22 : decode cX7_voicesOf 22 = .ok (.iconst 0, 1) := by decide +kernel
theorem dX7_voicesOf_23 : decode cX7_voicesOf 23 = .ok (.ireturn, 1) := by decide +kernel
theorem dX7_weightTogether_0 : decode cX7_weightTogether 0 = .ok (.aload_n 0, 1) := by decide +kernel
theorem dX7_weightTogether_1 : decode cX7_weightTogether 1 = .ok (.aload_n 0, 1) := by decide +kernel
theorem dX7_weightTogether_2 : decode cX7_weightTogether 2 = .ok (.getfield 9, 3) := by decide +kernel
theorem dX7_weightTogether_5 : decode cX7_weightTogether 5 = .ok (.iload_n 1, 1) := by decide +kernel
theorem dX7_weightTogether_6 : decode cX7_weightTogether 6 = .ok (.invokevirtual 31, 3) := by decide +kernel
theorem dX7_weightTogether_9 : decode cX7_weightTogether 9 = .ok (.ireturn, 1) := by decide +kernel
theorem dX7_voicesTogether_0 : decode cX7_voicesTogether 0 = .ok (.aload_n 0, 1) := by decide +kernel
theorem dX7_voicesTogether_1 : decode cX7_voicesTogether 1 = .ok (.aload_n 0, 1) := by decide +kernel
theorem dX7_voicesTogether_2 : decode cX7_voicesTogether 2 = .ok (.getfield 15, 3) := by decide +kernel
theorem dX7_voicesTogether_5 : decode cX7_voicesTogether 5 = .ok (.iload_n 1, 1) := by decide +kernel
theorem dX7_voicesTogether_6 : decode cX7_voicesTogether 6 = .ok (.invokevirtual 31, 3) := by decide +kernel
theorem dX7_voicesTogether_9 : decode cX7_voicesTogether 9 = .ok (.ireturn, 1) := by decide +kernel
theorem dX7_together_0 : decode cX7_together 0 = .ok (.iconst 0, 1) := by decide +kernel
theorem dX7_together_1 : decode cX7_together 1 = .ok (.istore_n 3, 1) := by decide +kernel
theorem dX7_together_2 : decode cX7_together 2 = .ok (.iconst 0, 1) := by decide +kernel
theorem dX7_together_3 : decode cX7_together 3 = .ok (.istore 4, 2) := by decide +kernel
theorem dX7_together_5 : decode cX7_together 5 = .ok (.iload 4, 2) := by decide +kernel
theorem dX7_together_7 : decode cX7_together 7 = .ok (.aload_n 0, 1) := by decide +kernel
theorem dX7_together_8 : decode cX7_together 8 = .ok (.getfield 22, 3) := by decide +kernel
theorem dX7_together_11 : decode cX7_together 11 = .ok (.if_icmp .ge 32, 3) := by decide +kernel
theorem dX7_together_14 : decode cX7_together 14 = .ok (.iload 4, 2) := by decide +kernel
theorem dX7_together_16 : decode cX7_together 16 = .ok (.aload_n 1, 1) := by decide +kernel
theorem dX7_together_17 : decode cX7_together 17 = .ok (.arraylength, 1) := by decide +kernel
theorem dX7_together_18 : decode cX7_together 18 = .ok (.if_icmp .ge 25, 3) := by decide +kernel
theorem dX7_together_21 : decode cX7_together 21 = .ok (.iload_n 2, 1) := by decide +kernel
theorem dX7_together_22 : decode cX7_together 22 = .ok (.iconst 1, 1) := by decide +kernel
theorem dX7_together_23 : decode cX7_together 23 = .ok (.iload 4, 2) := by decide +kernel
theorem dX7_together_25 : decode cX7_together 25 = .ok (.ishl, 1) := by decide +kernel
theorem dX7_together_26 : decode cX7_together 26 = .ok (.iand, 1) := by decide +kernel
theorem dX7_together_27 : decode cX7_together 27 = .ok (.ifCond .eq 10, 3) := by decide +kernel
theorem dX7_together_30 : decode cX7_together 30 = .ok (.iload_n 3, 1) := by decide +kernel
theorem dX7_together_31 : decode cX7_together 31 = .ok (.aload_n 1, 1) := by decide +kernel
theorem dX7_together_32 : decode cX7_together 32 = .ok (.iload 4, 2) := by decide +kernel
theorem dX7_together_34 : decode cX7_together 34 = .ok (.iaload, 1) := by decide +kernel
theorem dX7_together_35 : decode cX7_together 35 = .ok (.iadd, 1) := by decide +kernel
theorem dX7_together_36 : decode cX7_together 36 = .ok (.istore_n 3, 1) := by decide +kernel
theorem dX7_together_37 : decode cX7_together 37 = .ok (.iinc 4 1, 3) := by decide +kernel
theorem dX7_together_40 : decode cX7_together 40 = .ok (.goto (-35), 3) := by decide +kernel
theorem dX7_together_43 : decode cX7_together 43 = .ok (.iload_n 3, 1) := by decide +kernel
theorem dX7_together_44 : decode cX7_together 44 = .ok (.ireturn, 1) := by decide +kernel
theorem dX8_init_0 : decode cX8_init 0 = .ok (.aload_n 0, 1) := by decide +kernel
theorem dX8_init_1 : decode cX8_init 1 = .ok (.invokespecial 1, 3) := by decide +kernel
theorem dX8_init_4 : decode cX8_init 4 = .ok (.return_, 1) := by decide +kernel
theorem dX8_rated_0 : decode cX8_rated 0 = .ok (.aload_n 1, 1) := by decide +kernel
theorem dX8_rated_1 : decode cX8_rated 1 = .ok (.dup, 1) := by decide +kernel
theorem dX8_rated_2 : decode cX8_rated 2 = .ok (.getfield 7, 3) := by decide +kernel
theorem dX8_rated_5 : decode cX8_rated 5 = .ok (.ldc2_w 13, 3) := by decide +kernel
theorem dX8_rated_8 : decode cX8_rated 8 = .ok (.ladd, 1) := by decide +kernel
theorem dX8_rated_9 : decode cX8_rated 9 = .ok (.putfield 7, 3) := by decide +kernel
theorem dX8_rated_12 : decode cX8_rated 12 = .ok (.iconst 2, 1) := by decide +kernel
theorem dX8_rated_13 : decode cX8_rated 13 = .ok (.aload_n 0, 1) := by decide +kernel
theorem dX8_rated_14 : decode cX8_rated 14 = .ok (.aload_n 1, 1) := by decide +kernel
theorem dX8_rated_15 : decode cX8_rated 15 = .ok (.iload_n 2, 1) := by decide +kernel
theorem dX8_rated_16 : decode cX8_rated 16 = .ok (.invokespecial 15, 3) := by decide +kernel
theorem dX8_rated_19 : decode cX8_rated 19 = .ok (.imul, 1) := by decide +kernel
theorem dX8_rated_20 : decode cX8_rated 20 = .ok (.ireturn, 1) := by decide +kernel
theorem dX9_init_0 : decode cX9_init 0 = .ok (.aload_n 0, 1) := by decide +kernel
theorem dX9_init_1 : decode cX9_init 1 = .ok (.invokespecial 1, 3) := by decide +kernel
theorem dX9_init_4 : decode cX9_init 4 = .ok (.return_, 1) := by decide +kernel
theorem dX9_rated_0 : decode cX9_rated 0 = .ok (.aload_n 1, 1) := by decide +kernel
theorem dX9_rated_1 : decode cX9_rated 1 = .ok (.dup, 1) := by decide +kernel
theorem dX9_rated_2 : decode cX9_rated 2 = .ok (.getfield 7, 3) := by decide +kernel
theorem dX9_rated_5 : decode cX9_rated 5 = .ok (.ldc2_w 13, 3) := by decide +kernel
theorem dX9_rated_8 : decode cX9_rated 8 = .ok (.ladd, 1) := by decide +kernel
theorem dX9_rated_9 : decode cX9_rated 9 = .ok (.putfield 7, 3) := by decide +kernel
theorem dX9_rated_12 : decode cX9_rated 12 = .ok (.aload_n 0, 1) := by decide +kernel
theorem dX9_rated_13 : decode cX9_rated 13 = .ok (.aload_n 1, 1) := by decide +kernel
theorem dX9_rated_14 : decode cX9_rated 14 = .ok (.iload_n 2, 1) := by decide +kernel
theorem dX9_rated_15 : decode cX9_rated 15 = .ok (.invokespecial 15, 3) := by decide +kernel
theorem dX9_rated_18 : decode cX9_rated 18 = .ok (.aload_n 1, 1) := by decide +kernel
theorem dX9_rated_19 : decode cX9_rated 19 = .ok (.getfield 19, 3) := by decide +kernel
theorem dX9_rated_22 : decode cX9_rated 22 = .ok (.getfield 23, 3) := by decide +kernel
theorem dX9_rated_25 : decode cX9_rated 25 = .ok (.iadd, 1) := by decide +kernel
theorem dX9_rated_26 : decode cX9_rated 26 = .ok (.ireturn, 1) := by decide +kernel
theorem dX10_init_0 : decode cX10_init 0 = .ok (.aload_n 0, 1) := by decide +kernel
theorem dX10_init_1 : decode cX10_init 1 = .ok (.invokespecial 1, 3) := by decide +kernel
theorem dX10_init_4 : decode cX10_init 4 = .ok (.return_, 1) := by decide +kernel
theorem dX10_rated_0 : decode cX10_rated 0 = .ok (.aload_n 1, 1) := by decide +kernel
theorem dX10_rated_1 : decode cX10_rated 1 = .ok (.dup, 1) := by decide +kernel
theorem dX10_rated_2 : decode cX10_rated 2 = .ok (.getfield 7, 3) := by decide +kernel
theorem dX10_rated_5 : decode cX10_rated 5 = .ok (.ldc2_w 13, 3) := by decide +kernel
theorem dX10_rated_8 : decode cX10_rated 8 = .ok (.ladd, 1) := by decide +kernel
theorem dX10_rated_9 : decode cX10_rated 9 = .ok (.putfield 7, 3) := by decide +kernel
theorem dX10_rated_12 : decode cX10_rated 12 = .ok (.aload_n 0, 1) := by decide +kernel
theorem dX10_rated_13 : decode cX10_rated 13 = .ok (.aload_n 1, 1) := by decide +kernel
theorem dX10_rated_14 : decode cX10_rated 14 = .ok (.iload_n 2, 1) := by decide +kernel
theorem dX10_rated_15 : decode cX10_rated 15 = .ok (.invokespecial 15, 3) := by decide +kernel
theorem dX10_rated_18 : decode cX10_rated 18 = .ok (.iload_n 2, 1) := by decide +kernel
theorem dX10_rated_19 : decode cX10_rated 19 = .ok (.iadd, 1) := by decide +kernel
theorem dX10_rated_20 : decode cX10_rated 20 = .ok (.ireturn, 1) := by decide +kernel
theorem dX11_init_0 : decode cX11_init 0 = .ok (.aload_n 0, 1) := by decide +kernel
theorem dX11_init_1 : decode cX11_init 1 = .ok (.invokespecial 3, 3) := by decide +kernel
theorem dX11_init_4 : decode cX11_init 4 = .ok (.aload_n 0, 1) := by decide +kernel
theorem dX11_init_5 : decode cX11_init 5 = .ok (.new 9, 3) := by decide +kernel
theorem dX11_init_8 : decode cX11_init 8 = .ok (.dup, 1) := by decide +kernel
theorem dX11_init_9 : decode cX11_init 9 = .ok (.invokespecial 11, 3) := by decide +kernel
theorem dX11_init_12 : decode cX11_init 12 = .ok (.putfield 12, 3) := by decide +kernel
theorem dX11_init_15 : decode cX11_init 15 = .ok (.aload_n 0, 1) := by decide +kernel
theorem dX11_init_16 : decode cX11_init 16 = .ok (.new 16, 3) := by decide +kernel
theorem dX11_init_19 : decode cX11_init 19 = .ok (.dup, 1) := by decide +kernel
theorem dX11_init_20 : decode cX11_init 20 = .ok (.invokespecial 18, 3) := by decide +kernel
theorem dX11_init_23 : decode cX11_init 23 = .ok (.putfield 19, 3) := by decide +kernel
theorem dX11_init_26 : decode cX11_init 26 = .ok (.aload_n 0, 1) := by decide +kernel
theorem dX11_init_27 : decode cX11_init 27 = .ok (.new 23, 3) := by decide +kernel
theorem dX11_init_30 : decode cX11_init 30 = .ok (.dup, 1) := by decide +kernel
theorem dX11_init_31 : decode cX11_init 31 = .ok (.invokespecial 25, 3) := by decide +kernel
theorem dX11_init_34 : decode cX11_init 34 = .ok (.putfield 26, 3) := by decide +kernel
theorem dX11_init_37 : decode cX11_init 37 = .ok (.aload_n 0, 1) := by decide +kernel
theorem dX11_init_38 : decode cX11_init 38 = .ok (.new 30, 3) := by decide +kernel
theorem dX11_init_41 : decode cX11_init 41 = .ok (.dup, 1) := by decide +kernel
theorem dX11_init_42 : decode cX11_init 42 = .ok (.invokespecial 32, 3) := by decide +kernel
theorem dX11_init_45 : decode cX11_init 45 = .ok (.putfield 33, 3) := by decide +kernel
theorem dX11_init_48 : decode cX11_init 48 = .ok (.aload_n 0, 1) := by decide +kernel
theorem dX11_init_49 : decode cX11_init 49 = .ok (.new 37, 3) := by decide +kernel
theorem dX11_init_52 : decode cX11_init 52 = .ok (.dup, 1) := by decide +kernel
theorem dX11_init_53 : decode cX11_init 53 = .ok (.invokespecial 39, 3) := by decide +kernel
theorem dX11_init_56 : decode cX11_init 56 = .ok (.putfield 40, 3) := by decide +kernel
theorem dX11_init_59 : decode cX11_init 59 = .ok (.aload_n 0, 1) := by decide +kernel
theorem dX11_init_60 : decode cX11_init 60 = .ok (.iconst 2, 1) := by decide +kernel
theorem dX11_init_61 : decode cX11_init 61 = .ok (.anewarray 23, 3) := by decide +kernel
theorem dX11_init_64 : decode cX11_init 64 = .ok (.putfield 44, 3) := by decide +kernel
theorem dX11_init_67 : decode cX11_init 67 = .ok (.aload_n 0, 1) := by decide +kernel
theorem dX11_init_68 : decode cX11_init 68 = .ok (.iconst 2, 1) := by decide +kernel
theorem dX11_init_69 : decode cX11_init 69 = .ok (.newarray .boolean, 2) := by decide +kernel
theorem dX11_init_71 : decode cX11_init 71 = .ok (.putfield 48, 3) := by decide +kernel
theorem dX11_init_74 : decode cX11_init 74 = .ok (.aload_n 0, 1) := by decide +kernel
theorem dX11_init_75 : decode cX11_init 75 = .ok (.bipush 6, 2) := by decide +kernel
theorem dX11_init_77 : decode cX11_init 77 = .ok (.anewarray 52, 3) := by decide +kernel
theorem dX11_init_80 : decode cX11_init 80 = .ok (.putfield 54, 3) := by decide +kernel
theorem dX11_init_83 : decode cX11_init 83 = .ok (.aload_n 0, 1) := by decide +kernel
theorem dX11_init_84 : decode cX11_init 84 = .ok (.bipush 25, 2) := by decide +kernel
theorem dX11_init_86 : decode cX11_init 86 = .ok (.newarray .int, 2) := by decide +kernel
theorem dX11_init_88 : decode cX11_init 88 = .ok (.putfield 58, 3) := by decide +kernel
theorem dX11_init_91 : decode cX11_init 91 = .ok (.aload_n 0, 1) := by decide +kernel
theorem dX11_init_92 : decode cX11_init 92 = .ok (.iconst 3, 1) := by decide +kernel
theorem dX11_init_93 : decode cX11_init 93 = .ok (.newarray .int, 2) := by decide +kernel
theorem dX11_init_95 : decode cX11_init 95 = .ok (.putfield 62, 3) := by decide +kernel
theorem dX11_init_98 : decode cX11_init 98 = .ok (.aload_n 0, 1) := by decide +kernel
theorem dX11_init_99 : decode cX11_init 99 = .ok (.bipush 36, 2) := by decide +kernel
theorem dX11_init_101 : decode cX11_init 101 = .ok (.newarray .int, 2) := by decide +kernel
theorem dX11_init_103 : decode cX11_init 103 = .ok (.putfield 65, 3) := by decide +kernel
theorem dX11_init_106 : decode cX11_init 106 = .ok (.aload_n 0, 1) := by decide +kernel
theorem dX11_init_107 : decode cX11_init 107 = .ok (.bipush 36, 2) := by decide +kernel
theorem dX11_init_109 : decode cX11_init 109 = .ok (.newarray .int, 2) := by decide +kernel
theorem dX11_init_111 : decode cX11_init 111 = .ok (.putfield 68, 3) := by decide +kernel
theorem dX11_init_114 : decode cX11_init 114 = .ok (.iconst 0, 1) := by decide +kernel
theorem dX11_init_115 : decode cX11_init 115 = .ok (.istore_n 1, 1) := by decide +kernel
theorem dX11_init_116 : decode cX11_init 116 = .ok (.iload_n 1, 1) := by decide +kernel
theorem dX11_init_117 : decode cX11_init 117 = .ok (.aload_n 0, 1) := by decide +kernel
theorem dX11_init_118 : decode cX11_init 118 = .ok (.getfield 44, 3) := by decide +kernel
theorem dX11_init_121 : decode cX11_init 121 = .ok (.arraylength, 1) := by decide +kernel
theorem dX11_init_122 : decode cX11_init 122 = .ok (.if_icmp .ge 22, 3) := by decide +kernel
theorem dX11_init_125 : decode cX11_init 125 = .ok (.aload_n 0, 1) := by decide +kernel
theorem dX11_init_126 : decode cX11_init 126 = .ok (.getfield 44, 3) := by decide +kernel
theorem dX11_init_129 : decode cX11_init 129 = .ok (.iload_n 1, 1) := by decide +kernel
theorem dX11_init_130 : decode cX11_init 130 = .ok (.new 23, 3) := by decide +kernel
theorem dX11_init_133 : decode cX11_init 133 = .ok (.dup, 1) := by decide +kernel
theorem dX11_init_134 : decode cX11_init 134 = .ok (.invokespecial 25, 3) := by decide +kernel
theorem dX11_init_137 : decode cX11_init 137 = .ok (.aastore, 1) := by decide +kernel
theorem dX11_init_138 : decode cX11_init 138 = .ok (.iinc 1 1, 3) := by decide +kernel
theorem dX11_init_141 : decode cX11_init 141 = .ok (.goto (-25), 3) := by decide +kernel
theorem dX11_init_144 : decode cX11_init 144 = .ok (.aload_n 0, 1) := by decide +kernel
theorem dX11_init_145 : decode cX11_init 145 = .ok (.getfield 54, 3) := by decide +kernel
theorem dX11_init_148 : decode cX11_init 148 = .ok (.iconst 0, 1) := by decide +kernel
theorem dX11_init_149 : decode cX11_init 149 = .ok (.new 52, 3) := by decide +kernel
theorem dX11_init_152 : decode cX11_init 152 = .ok (.dup, 1) := by decide +kernel
theorem dX11_init_153 : decode cX11_init 153 = .ok (.invokespecial 71, 3) := by decide +kernel
theorem dX11_init_156 : decode cX11_init 156 = .ok (.aastore, 1) := by decide +kernel
theorem dX11_init_157 : decode cX11_init 157 = .ok (.aload_n 0, 1) := by decide +kernel
theorem dX11_init_158 : decode cX11_init 158 = .ok (.getfield 54, 3) := by decide +kernel
theorem dX11_init_161 : decode cX11_init 161 = .ok (.iconst 1, 1) := by decide +kernel
theorem dX11_init_162 : decode cX11_init 162 = .ok (.new 72, 3) := by decide +kernel
theorem dX11_init_165 : decode cX11_init 165 = .ok (.dup, 1) := by decide +kernel
theorem dX11_init_166 : decode cX11_init 166 = .ok (.invokespecial 74, 3) := by decide +kernel
theorem dX11_init_169 : decode cX11_init 169 = .ok (.aastore, 1) := by decide +kernel
theorem dX11_init_170 : decode cX11_init 170 = .ok (.aload_n 0, 1) := by decide +kernel
theorem dX11_init_171 : decode cX11_init 171 = .ok (.getfield 54, 3) := by decide +kernel
theorem dX11_init_174 : decode cX11_init 174 = .ok (.iconst 2, 1) := by decide +kernel
theorem dX11_init_175 : decode cX11_init 175 = .ok (.new 75, 3) := by decide +kernel
theorem dX11_init_178 : decode cX11_init 178 = .ok (.dup, 1) := by decide +kernel
theorem dX11_init_179 : decode cX11_init 179 = .ok (.invokespecial 77, 3) := by decide +kernel
theorem dX11_init_182 : decode cX11_init 182 = .ok (.aastore, 1) := by decide +kernel
theorem dX11_init_183 : decode cX11_init 183 = .ok (.aload_n 0, 1) := by decide +kernel
theorem dX11_init_184 : decode cX11_init 184 = .ok (.getfield 54, 3) := by decide +kernel
theorem dX11_init_187 : decode cX11_init 187 = .ok (.iconst 3, 1) := by decide +kernel
theorem dX11_init_188 : decode cX11_init 188 = .ok (.new 78, 3) := by decide +kernel
theorem dX11_init_191 : decode cX11_init 191 = .ok (.dup, 1) := by decide +kernel
theorem dX11_init_192 : decode cX11_init 192 = .ok (.invokespecial 80, 3) := by decide +kernel
theorem dX11_init_195 : decode cX11_init 195 = .ok (.aastore, 1) := by decide +kernel
theorem dX11_init_196 : decode cX11_init 196 = .ok (.aload_n 0, 1) := by decide +kernel
theorem dX11_init_197 : decode cX11_init 197 = .ok (.getfield 54, 3) := by decide +kernel
theorem dX11_init_200 : decode cX11_init 200 = .ok (.iconst 4, 1) := by decide +kernel
theorem dX11_init_201 : decode cX11_init 201 = .ok (.new 81, 3) := by decide +kernel
theorem dX11_init_204 : decode cX11_init 204 = .ok (.dup, 1) := by decide +kernel
theorem dX11_init_205 : decode cX11_init 205 = .ok (.invokespecial 83, 3) := by decide +kernel
theorem dX11_init_208 : decode cX11_init 208 = .ok (.aastore, 1) := by decide +kernel
theorem dX11_init_209 : decode cX11_init 209 = .ok (.aload_n 0, 1) := by decide +kernel
theorem dX11_init_210 : decode cX11_init 210 = .ok (.getfield 54, 3) := by decide +kernel
theorem dX11_init_213 : decode cX11_init 213 = .ok (.iconst 5, 1) := by decide +kernel
theorem dX11_init_214 : decode cX11_init 214 = .ok (.new 84, 3) := by decide +kernel
theorem dX11_init_217 : decode cX11_init 217 = .ok (.dup, 1) := by decide +kernel
theorem dX11_init_218 : decode cX11_init 218 = .ok (.invokespecial 86, 3) := by decide +kernel
theorem dX11_init_221 : decode cX11_init 221 = .ok (.aastore, 1) := by decide +kernel
theorem dX11_init_222 : decode cX11_init 222 = .ok (.return_, 1) := by decide +kernel
theorem dX11_type_0 : decode cX11_type 0 = .ok (.iload_n 1, 1) := by decide +kernel
theorem dX11_type_1 : decode cX11_type 1 = .ok (.ifCond .lt 10, 3) := by decide +kernel
theorem dX11_type_4 : decode cX11_type 4 = .ok (.iload_n 1, 1) := by decide +kernel
theorem dX11_type_5 : decode cX11_type 5 = .ok (.sipush 255, 3) := by decide +kernel
theorem dX11_type_8 : decode cX11_type 8 = .ok (.if_icmp .le 5, 3) := by decide +kernel
theorem dX11_type_11 : decode cX11_type 11 = .ok (.iconst (-1), 1) := by decide +kernel
theorem dX11_type_12 : decode cX11_type 12 = .ok (.ireturn, 1) := by decide +kernel
theorem dX11_type_13 : decode cX11_type 13 = .ok (.aload_n 0, 1) := by decide +kernel
theorem dX11_type_14 : decode cX11_type 14 = .ok (.getfield 12, 3) := by decide +kernel
theorem dX11_type_17 : decode cX11_type 17 = .ok (.iload_n 1, 1) := by decide +kernel
theorem dX11_type_18 : decode cX11_type 18 = .ok (.i2c, 1) := by decide +kernel
theorem dX11_type_19 : decode cX11_type 19 = .ok (.invokevirtual 87, 3) := by decide +kernel
theorem dX11_type_22 : decode cX11_type 22 = .ok (.ifCond .eq 13, 3) := by decide +kernel
theorem dX11_type_25 : decode cX11_type 25 = .ok (.aload_n 0, 1) := by decide +kernel
theorem dX11_type_26 : decode cX11_type 26 = .ok (.getfield 12, 3) := by decide +kernel
theorem dX11_type_29 : decode cX11_type 29 = .ok (.getfield 91, 3) := by decide +kernel
theorem dX11_type_32 : decode cX11_type 32 = .ok (.goto 5, 3) := by decide +kernel
theorem dX11_type_35 : decode cX11_type 35 = .ok (.bipush (-3), 2) := by decide +kernel
theorem dX11_type_37 : decode cX11_type 37 = .ok (.ireturn, 1) := by decide +kernel
theorem dX11_clear_0 : decode cX11_clear 0 = .ok (.aload_n 0, 1) := by decide +kernel
theorem dX11_clear_1 : decode cX11_clear 1 = .ok (.getfield 12, 3) := by decide +kernel
theorem dX11_clear_4 : decode cX11_clear 4 = .ok (.getfield 91, 3) := by decide +kernel
theorem dX11_clear_7 : decode cX11_clear 7 = .ok (.istore_n 1, 1) := by decide +kernel
theorem dX11_clear_8 : decode cX11_clear 8 = .ok (.aload_n 0, 1) := by decide +kernel
theorem dX11_clear_9 : decode cX11_clear 9 = .ok (.getfield 12, 3) := by decide +kernel
theorem dX11_clear_12 : decode cX11_clear 12 = .ok (.iconst 0, 1) := by decide +kernel
theorem dX11_clear_13 : decode cX11_clear 13 = .ok (.putfield 91, 3) := by decide +kernel
theorem dX11_clear_16 : decode cX11_clear 16 = .ok (.iload_n 1, 1) := by decide +kernel
theorem dX11_clear_17 : decode cX11_clear 17 = .ok (.ireturn, 1) := by decide +kernel
theorem dX11_field_0 : decode cX11_field 0 = .ok (.aload_n 0, 1) := by decide +kernel
theorem dX11_field_1 : decode cX11_field 1 = .ok (.getfield 12, 3) := by decide +kernel
theorem dX11_field_4 : decode cX11_field 4 = .ok (.invokevirtual 95, 3) := by decide +kernel
theorem dX11_field_7 : decode cX11_field 7 = .ok (.istore_n 1, 1) := by decide +kernel
theorem dX11_field_8 : decode cX11_field 8 = .ok (.iload_n 1, 1) := by decide +kernel
theorem dX11_field_9 : decode cX11_field 9 = .ok (.ifCond .ge 5, 3) := by decide +kernel
theorem dX11_field_12 : decode cX11_field 12 = .ok (.iload_n 1, 1) := by decide +kernel
theorem dX11_field_13 : decode cX11_field 13 = .ok (.ireturn, 1) := by decide +kernel
theorem dX11_field_14 : decode cX11_field 14 = .ok (.aload_n 0, 1) := by decide +kernel
theorem dX11_field_15 : decode cX11_field 15 = .ok (.getfield 19, 3) := by decide +kernel
theorem dX11_field_18 : decode cX11_field 18 = .ok (.aload_n 0, 1) := by decide +kernel
theorem dX11_field_19 : decode cX11_field 19 = .ok (.getfield 12, 3) := by decide +kernel
theorem dX11_field_22 : decode cX11_field 22 = .ok (.getfield 99, 3) := by decide +kernel
theorem dX11_field_25 : decode cX11_field 25 = .ok (.invokevirtual 100, 3) := by decide +kernel
theorem dX11_field_28 : decode cX11_field 28 = .ok (.aload_n 0, 1) := by decide +kernel
theorem dX11_field_29 : decode cX11_field 29 = .ok (.getfield 26, 3) := by decide +kernel
theorem dX11_field_32 : decode cX11_field 32 = .ok (.aload_n 0, 1) := by decide +kernel
theorem dX11_field_33 : decode cX11_field 33 = .ok (.getfield 12, 3) := by decide +kernel
theorem dX11_field_36 : decode cX11_field 36 = .ok (.getfield 104, 3) := by decide +kernel
theorem dX11_field_39 : decode cX11_field 39 = .ok (.invokevirtual 107, 3) := by decide +kernel
theorem dX11_field_42 : decode cX11_field 42 = .ok (.aload_n 0, 1) := by decide +kernel
theorem dX11_field_43 : decode cX11_field 43 = .ok (.getfield 12, 3) := by decide +kernel
theorem dX11_field_46 : decode cX11_field 46 = .ok (.iconst 0, 1) := by decide +kernel
theorem dX11_field_47 : decode cX11_field 47 = .ok (.putfield 91, 3) := by decide +kernel
theorem dX11_field_50 : decode cX11_field 50 = .ok (.aload_n 0, 1) := by decide +kernel
theorem dX11_field_51 : decode cX11_field 51 = .ok (.getfield 33, 3) := by decide +kernel
theorem dX11_field_54 : decode cX11_field 54 = .ok (.invokevirtual 110, 3) := by decide +kernel
theorem dX11_field_57 : decode cX11_field 57 = .ok (.aload_n 0, 1) := by decide +kernel
theorem dX11_field_58 : decode cX11_field 58 = .ok (.getfield 40, 3) := by decide +kernel
theorem dX11_field_61 : decode cX11_field 61 = .ok (.iconst 0, 1) := by decide +kernel
theorem dX11_field_62 : decode cX11_field 62 = .ok (.putfield 113, 3) := by decide +kernel
theorem dX11_field_65 : decode cX11_field 65 = .ok (.aload_n 0, 1) := by decide +kernel
theorem dX11_field_66 : decode cX11_field 66 = .ok (.invokevirtual 116, 3) := by decide +kernel
theorem dX11_field_69 : decode cX11_field 69 = .ok (.iload_n 1, 1) := by decide +kernel
theorem dX11_field_70 : decode cX11_field 70 = .ok (.ireturn, 1) := by decide +kernel
theorem dX11_cell_0 : decode cX11_cell 0 = .ok (.iload_n 1, 1) := by decide +kernel
theorem dX11_cell_1 : decode cX11_cell 1 = .ok (.invokestatic 119, 3) := by decide +kernel
theorem dX11_cell_4 : decode cX11_cell 4 = .ok (.istore_n 3, 1) := by decide +kernel
theorem dX11_cell_5 : decode cX11_cell 5 = .ok (.iload_n 3, 1) := by decide +kernel
theorem dX11_cell_6 : decode cX11_cell 6 = .ok (.ifCond .ge 5, 3) := by decide +kernel
theorem dX11_cell_9 : decode cX11_cell 9 = .ok (.iconst (-1), 1) := by decide +kernel
theorem dX11_cell_10 : decode cX11_cell 10 = .ok (.ireturn, 1) := by decide +kernel
theorem dX11_cell_11 : decode cX11_cell 11 = .ok (.iload_n 2, 1) := by decide +kernel
theorem dX11_cell_12 : decode cX11_cell 12 = .ok (.tableswitch 62 0 3 #[32, 41, 50, 56], 32) := by decide +kernel
theorem dX11_cell_44 : decode cX11_cell 44 = .ok (.aload_n 0, 1) := by decide +kernel
theorem dX11_cell_45 : decode cX11_cell 45 = .ok (.getfield 26, 3) := by decide +kernel
theorem dX11_cell_48 : decode cX11_cell 48 = .ok (.iload_n 3, 1) := by decide +kernel
theorem dX11_cell_49 : decode cX11_cell 49 = .ok (.invokevirtual 123, 3) := by decide +kernel
theorem dX11_cell_52 : decode cX11_cell 52 = .ok (.ireturn, 1) := by decide +kernel
theorem dX11_cell_53 : decode cX11_cell 53 = .ok (.aload_n 0, 1) := by decide +kernel
theorem dX11_cell_54 : decode cX11_cell 54 = .ok (.getfield 26, 3) := by decide +kernel
theorem dX11_cell_57 : decode cX11_cell 57 = .ok (.iload_n 3, 1) := by decide +kernel
theorem dX11_cell_58 : decode cX11_cell 58 = .ok (.invokevirtual 126, 3) := by decide +kernel
theorem dX11_cell_61 : decode cX11_cell 61 = .ok (.ireturn, 1) := by decide +kernel
theorem dX11_cell_62 : decode cX11_cell 62 = .ok (.aload_n 0, 1) := by decide +kernel
theorem dX11_cell_63 : decode cX11_cell 63 = .ok (.iload_n 3, 1) := by decide +kernel
theorem dX11_cell_64 : decode cX11_cell 64 = .ok (.invokevirtual 129, 3) := by decide +kernel
theorem dX11_cell_67 : decode cX11_cell 67 = .ok (.ireturn, 1) := by decide +kernel
theorem dX11_cell_68 : decode cX11_cell 68 = .ok (.aload_n 0, 1) := by decide +kernel
theorem dX11_cell_69 : decode cX11_cell 69 = .ok (.iload_n 3, 1) := by decide +kernel
theorem dX11_cell_70 : decode cX11_cell 70 = .ok (.invokevirtual 132, 3) := by decide +kernel
theorem dX11_cell_73 : decode cX11_cell 73 = .ok (.ireturn, 1) := by decide +kernel
theorem dX11_cell_74 : decode cX11_cell 74 = .ok (.iconst (-1), 1) := by decide +kernel
theorem dX11_cell_75 : decode cX11_cell 75 = .ok (.ireturn, 1) := by decide +kernel
theorem dX11_person_0 : decode cX11_person 0 = .ok (.aload_n 0, 1) := by decide +kernel
theorem dX11_person_1 : decode cX11_person 1 = .ok (.getfield 19, 3) := by decide +kernel
theorem dX11_person_4 : decode cX11_person 4 = .ok (.iload_n 1, 1) := by decide +kernel
theorem dX11_person_5 : decode cX11_person 5 = .ok (.invokevirtual 135, 3) := by decide +kernel
theorem dX11_person_8 : decode cX11_person 8 = .ok (.ifCond .ne 5, 3) := by decide +kernel
theorem dX11_person_11 : decode cX11_person 11 = .ok (.iconst (-1), 1) := by decide +kernel
theorem dX11_person_12 : decode cX11_person 12 = .ok (.ireturn, 1) := by decide +kernel
theorem dX11_person_13 : decode cX11_person 13 = .ok (.iload_n 2, 1) := by decide +kernel
theorem dX11_person_14 : decode cX11_person 14 = .ok (.tableswitch 56 0 2 #[26, 38, 47], 26) := by decide +kernel
theorem dX11_person_40 : decode cX11_person 40 = .ok (.aload_n 0, 1) := by decide +kernel
theorem dX11_person_41 : decode cX11_person 41 = .ok (.getfield 26, 3) := by decide +kernel
theorem dX11_person_44 : decode cX11_person 44 = .ok (.iload_n 1, 1) := by decide +kernel
theorem dX11_person_45 : decode cX11_person 45 = .ok (.invokevirtual 139, 3) := by decide +kernel
theorem dX11_person_48 : decode cX11_person 48 = .ok (.invokestatic 142, 3) := by decide +kernel
theorem dX11_person_51 : decode cX11_person 51 = .ok (.ireturn, 1) := by decide +kernel
theorem dX11_person_52 : decode cX11_person 52 = .ok (.aload_n 0, 1) := by decide +kernel
theorem dX11_person_53 : decode cX11_person 53 = .ok (.getfield 19, 3) := by decide +kernel
theorem dX11_person_56 : decode cX11_person 56 = .ok (.iload_n 1, 1) := by decide +kernel
theorem dX11_person_57 : decode cX11_person 57 = .ok (.invokevirtual 145, 3) := by decide +kernel
theorem dX11_person_60 : decode cX11_person 60 = .ok (.ireturn, 1) := by decide +kernel
theorem dX11_person_61 : decode cX11_person 61 = .ok (.aload_n 0, 1) := by decide +kernel
theorem dX11_person_62 : decode cX11_person 62 = .ok (.getfield 19, 3) := by decide +kernel
theorem dX11_person_65 : decode cX11_person 65 = .ok (.iload_n 1, 1) := by decide +kernel
theorem dX11_person_66 : decode cX11_person 66 = .ok (.invokevirtual 148, 3) := by decide +kernel
theorem dX11_person_69 : decode cX11_person 69 = .ok (.ireturn, 1) := by decide +kernel
theorem dX11_person_70 : decode cX11_person 70 = .ok (.iconst (-1), 1) := by decide +kernel
theorem dX11_person_71 : decode cX11_person 71 = .ok (.ireturn, 1) := by decide +kernel
theorem dX11_now_0 : decode cX11_now 0 = .ok (.iload_n 1, 1) := by decide +kernel
theorem dX11_now_1 : decode cX11_now 1 = .ok (.tableswitch 106 0 7 #[47, 55, 63, 71, 79, 84, 89, 98], 47) := by decide +kernel
theorem dX11_now_48 : decode cX11_now 48 = .ok (.aload_n 0, 1) := by decide +kernel
theorem dX11_now_49 : decode cX11_now 49 = .ok (.getfield 26, 3) := by decide +kernel
theorem dX11_now_52 : decode cX11_now 52 = .ok (.invokevirtual 151, 3) := by decide +kernel
theorem dX11_now_55 : decode cX11_now 55 = .ok (.ireturn, 1) := by decide +kernel
theorem dX11_now_56 : decode cX11_now 56 = .ok (.aload_n 0, 1) := by decide +kernel
theorem dX11_now_57 : decode cX11_now 57 = .ok (.getfield 26, 3) := by decide +kernel
theorem dX11_now_60 : decode cX11_now 60 = .ok (.getfield 154, 3) := by decide +kernel
theorem dX11_now_63 : decode cX11_now 63 = .ok (.ireturn, 1) := by decide +kernel
theorem dX11_now_64 : decode cX11_now 64 = .ok (.aload_n 0, 1) := by decide +kernel
theorem dX11_now_65 : decode cX11_now 65 = .ok (.getfield 26, 3) := by decide +kernel
theorem dX11_now_68 : decode cX11_now 68 = .ok (.getfield 157, 3) := by decide +kernel
theorem dX11_now_71 : decode cX11_now 71 = .ok (.ireturn, 1) := by decide +kernel
theorem dX11_now_72 : decode cX11_now 72 = .ok (.aload_n 0, 1) := by decide +kernel
theorem dX11_now_73 : decode cX11_now 73 = .ok (.getfield 26, 3) := by decide +kernel
theorem dX11_now_76 : decode cX11_now 76 = .ok (.getfield 160, 3) := by decide +kernel
theorem dX11_now_79 : decode cX11_now 79 = .ok (.ireturn, 1) := by decide +kernel
theorem dX11_now_80 : decode cX11_now 80 = .ok (.aload_n 0, 1) := by decide +kernel
theorem dX11_now_81 : decode cX11_now 81 = .ok (.invokevirtual 163, 3) := by decide +kernel
theorem dX11_now_84 : decode cX11_now 84 = .ok (.ireturn, 1) := by decide +kernel
theorem dX11_now_85 : decode cX11_now 85 = .ok (.aload_n 0, 1) := by decide +kernel
theorem dX11_now_86 : decode cX11_now 86 = .ok (.invokevirtual 166, 3) := by decide +kernel
theorem dX11_now_89 : decode cX11_now 89 = .ok (.ireturn, 1) := by decide +kernel
theorem dX11_now_90 : decode cX11_now 90 = .ok (.aload_n 0, 1) := by decide +kernel
theorem dX11_now_91 : decode cX11_now 91 = .ok (.aload_n 0, 1) := by decide +kernel
theorem dX11_now_92 : decode cX11_now 92 = .ok (.invokevirtual 166, 3) := by decide +kernel
theorem dX11_now_95 : decode cX11_now 95 = .ok (.invokevirtual 169, 3) := by decide +kernel
theorem dX11_now_98 : decode cX11_now 98 = .ok (.ireturn, 1) := by decide +kernel
theorem dX11_now_99 : decode cX11_now 99 = .ok (.aload_n 0, 1) := by decide +kernel
theorem dX11_now_100 : decode cX11_now 100 = .ok (.getfield 33, 3) := by decide +kernel
theorem dX11_now_103 : decode cX11_now 103 = .ok (.getfield 172, 3) := by decide +kernel
theorem dX11_now_106 : decode cX11_now 106 = .ok (.ireturn, 1) := by decide +kernel
theorem dX11_now_107 : decode cX11_now 107 = .ok (.iconst (-1), 1) := by decide +kernel
theorem dX11_now_108 : decode cX11_now 108 = .ok (.ireturn, 1) := by decide +kernel
theorem dX11_walks_0 : decode cX11_walks 0 = .ok (.aload_n 0, 1) := by decide +kernel
theorem dX11_walks_1 : decode cX11_walks 1 = .ok (.getfield 19, 3) := by decide +kernel
theorem dX11_walks_4 : decode cX11_walks 4 = .ok (.iload_n 1, 1) := by decide +kernel
theorem dX11_walks_5 : decode cX11_walks 5 = .ok (.invokevirtual 135, 3) := by decide +kernel
theorem dX11_walks_8 : decode cX11_walks 8 = .ok (.ifCond .eq 10, 3) := by decide +kernel
theorem dX11_walks_11 : decode cX11_walks 11 = .ok (.iload_n 2, 1) := by decide +kernel
theorem dX11_walks_12 : decode cX11_walks 12 = .ok (.invokestatic 175, 3) := by decide +kernel
theorem dX11_walks_15 : decode cX11_walks 15 = .ok (.ifCond .ne 5, 3) := by decide +kernel
theorem dX11_walks_18 : decode cX11_walks 18 = .ok (.iconst (-1), 1) := by decide +kernel
theorem dX11_walks_19 : decode cX11_walks 19 = .ok (.ireturn, 1) := by decide +kernel
theorem dX11_walks_20 : decode cX11_walks 20 = .ok (.aload_n 0, 1) := by decide +kernel
theorem dX11_walks_21 : decode cX11_walks 21 = .ok (.getfield 26, 3) := by decide +kernel
theorem dX11_walks_24 : decode cX11_walks 24 = .ok (.iload_n 1, 1) := by decide +kernel
theorem dX11_walks_25 : decode cX11_walks 25 = .ok (.invokevirtual 139, 3) := by decide +kernel
theorem dX11_walks_28 : decode cX11_walks 28 = .ok (.iload_n 2, 1) := by decide +kernel
theorem dX11_walks_29 : decode cX11_walks 29 = .ok (.invokestatic 178, 3) := by decide +kernel
theorem dX11_walks_32 : decode cX11_walks 32 = .ok (.istore_n 3, 1) := by decide +kernel
theorem dX11_walks_33 : decode cX11_walks 33 = .ok (.iload_n 3, 1) := by decide +kernel
theorem dX11_walks_34 : decode cX11_walks 34 = .ok (.ifCond .ge 6, 3) := by decide +kernel
theorem dX11_walks_37 : decode cX11_walks 37 = .ok (.bipush (-2), 2) := by decide +kernel
theorem dX11_walks_39 : decode cX11_walks 39 = .ok (.ireturn, 1) := by decide +kernel
theorem dX11_walks_40 : decode cX11_walks 40 = .ok (.aload_n 0, 1) := by decide +kernel
theorem dX11_walks_41 : decode cX11_walks 41 = .ok (.getfield 33, 3) := by decide +kernel
theorem dX11_walks_44 : decode cX11_walks 44 = .ok (.aload_n 0, 1) := by decide +kernel
theorem dX11_walks_45 : decode cX11_walks 45 = .ok (.getfield 26, 3) := by decide +kernel
theorem dX11_walks_48 : decode cX11_walks 48 = .ok (.invokevirtual 182, 3) := by decide +kernel
theorem dX11_walks_51 : decode cX11_walks 51 = .ok (.aload_n 0, 1) := by decide +kernel
theorem dX11_walks_52 : decode cX11_walks 52 = .ok (.getfield 26, 3) := by decide +kernel
theorem dX11_walks_55 : decode cX11_walks 55 = .ok (.iload_n 1, 1) := by decide +kernel
theorem dX11_walks_56 : decode cX11_walks 56 = .ok (.iload_n 3, 1) := by decide +kernel
theorem dX11_walks_57 : decode cX11_walks 57 = .ok (.invokevirtual 185, 3) := by decide +kernel
theorem dX11_walks_60 : decode cX11_walks 60 = .ok (.aload_n 0, 1) := by decide +kernel
theorem dX11_walks_61 : decode cX11_walks 61 = .ok (.getfield 26, 3) := by decide +kernel
theorem dX11_walks_64 : decode cX11_walks 64 = .ok (.iload_n 3, 1) := by decide +kernel
theorem dX11_walks_65 : decode cX11_walks 65 = .ok (.aload_n 0, 1) := by decide +kernel
theorem dX11_walks_66 : decode cX11_walks 66 = .ok (.getfield 19, 3) := by decide +kernel
theorem dX11_walks_69 : decode cX11_walks 69 = .ok (.iload_n 1, 1) := by decide +kernel
theorem dX11_walks_70 : decode cX11_walks 70 = .ok (.invokevirtual 145, 3) := by decide +kernel
theorem dX11_walks_73 : decode cX11_walks 73 = .ok (.iload_n 2, 1) := by decide +kernel
theorem dX11_walks_74 : decode cX11_walks 74 = .ok (.invokevirtual 189, 3) := by decide +kernel
theorem dX11_walks_77 : decode cX11_walks 77 = .ok (.ireturn, 1) := by decide +kernel
theorem dX11_stands_0 : decode cX11_stands 0 = .ok (.aload_n 0, 1) := by decide +kernel
theorem dX11_stands_1 : decode cX11_stands 1 = .ok (.getfield 19, 3) := by decide +kernel
theorem dX11_stands_4 : decode cX11_stands 4 = .ok (.iload_n 1, 1) := by decide +kernel
theorem dX11_stands_5 : decode cX11_stands 5 = .ok (.invokevirtual 135, 3) := by decide +kernel
theorem dX11_stands_8 : decode cX11_stands 8 = .ok (.ifCond .eq 10, 3) := by decide +kernel
theorem dX11_stands_11 : decode cX11_stands 11 = .ok (.iload_n 2, 1) := by decide +kernel
theorem dX11_stands_12 : decode cX11_stands 12 = .ok (.invokestatic 175, 3) := by decide +kernel
theorem dX11_stands_15 : decode cX11_stands 15 = .ok (.ifCond .ne 5, 3) := by decide +kernel
theorem dX11_stands_18 : decode cX11_stands 18 = .ok (.iconst (-1), 1) := by decide +kernel
theorem dX11_stands_19 : decode cX11_stands 19 = .ok (.ireturn, 1) := by decide +kernel
theorem dX11_stands_20 : decode cX11_stands 20 = .ok (.aload_n 0, 1) := by decide +kernel
theorem dX11_stands_21 : decode cX11_stands 21 = .ok (.getfield 33, 3) := by decide +kernel
theorem dX11_stands_24 : decode cX11_stands 24 = .ok (.aload_n 0, 1) := by decide +kernel
theorem dX11_stands_25 : decode cX11_stands 25 = .ok (.getfield 26, 3) := by decide +kernel
theorem dX11_stands_28 : decode cX11_stands 28 = .ok (.invokevirtual 182, 3) := by decide +kernel
theorem dX11_stands_31 : decode cX11_stands 31 = .ok (.aload_n 0, 1) := by decide +kernel
theorem dX11_stands_32 : decode cX11_stands 32 = .ok (.getfield 26, 3) := by decide +kernel
theorem dX11_stands_35 : decode cX11_stands 35 = .ok (.aload_n 0, 1) := by decide +kernel
theorem dX11_stands_36 : decode cX11_stands 36 = .ok (.getfield 26, 3) := by decide +kernel
theorem dX11_stands_39 : decode cX11_stands 39 = .ok (.iload_n 1, 1) := by decide +kernel
theorem dX11_stands_40 : decode cX11_stands 40 = .ok (.invokevirtual 139, 3) := by decide +kernel
theorem dX11_stands_43 : decode cX11_stands 43 = .ok (.aload_n 0, 1) := by decide +kernel
theorem dX11_stands_44 : decode cX11_stands 44 = .ok (.getfield 19, 3) := by decide +kernel
theorem dX11_stands_47 : decode cX11_stands 47 = .ok (.iload_n 1, 1) := by decide +kernel
theorem dX11_stands_48 : decode cX11_stands 48 = .ok (.invokevirtual 145, 3) := by decide +kernel
theorem dX11_stands_51 : decode cX11_stands 51 = .ok (.iload_n 2, 1) := by decide +kernel
theorem dX11_stands_52 : decode cX11_stands 52 = .ok (.invokevirtual 189, 3) := by decide +kernel
theorem dX11_stands_55 : decode cX11_stands 55 = .ok (.ireturn, 1) := by decide +kernel
theorem dX11_rains_0 : decode cX11_rains 0 = .ok (.aload_n 0, 1) := by decide +kernel
theorem dX11_rains_1 : decode cX11_rains 1 = .ok (.getfield 33, 3) := by decide +kernel
theorem dX11_rains_4 : decode cX11_rains 4 = .ok (.aload_n 0, 1) := by decide +kernel
theorem dX11_rains_5 : decode cX11_rains 5 = .ok (.getfield 26, 3) := by decide +kernel
theorem dX11_rains_8 : decode cX11_rains 8 = .ok (.invokevirtual 182, 3) := by decide +kernel
theorem dX11_rains_11 : decode cX11_rains 11 = .ok (.aload_n 0, 1) := by decide +kernel
theorem dX11_rains_12 : decode cX11_rains 12 = .ok (.getfield 26, 3) := by decide +kernel
theorem dX11_rains_15 : decode cX11_rains 15 = .ok (.aload_n 0, 1) := by decide +kernel
theorem dX11_rains_16 : decode cX11_rains 16 = .ok (.getfield 19, 3) := by decide +kernel
theorem dX11_rains_19 : decode cX11_rains 19 = .ok (.getfield 193, 3) := by decide +kernel
theorem dX11_rains_22 : decode cX11_rains 22 = .ok (.invokevirtual 196, 3) := by decide +kernel
theorem dX11_rains_25 : decode cX11_rains 25 = .ok (.ireturn, 1) := by decide +kernel
theorem dX11_lifts_0 : decode cX11_lifts 0 = .ok (.iload_n 1, 1) := by decide +kernel
theorem dX11_lifts_1 : decode cX11_lifts 1 = .ok (.iload_n 2, 1) := by decide +kernel
theorem dX11_lifts_2 : decode cX11_lifts 2 = .ok (.invokestatic 199, 3) := by decide +kernel
theorem dX11_lifts_5 : decode cX11_lifts 5 = .ok (.ifCond .ne 5, 3) := by decide +kernel
theorem dX11_lifts_8 : decode cX11_lifts 8 = .ok (.iconst (-1), 1) := by decide +kernel
theorem dX11_lifts_9 : decode cX11_lifts 9 = .ok (.ireturn, 1) := by decide +kernel
theorem dX11_lifts_10 : decode cX11_lifts 10 = .ok (.aload_n 0, 1) := by decide +kernel
theorem dX11_lifts_11 : decode cX11_lifts 11 = .ok (.getfield 26, 3) := by decide +kernel
theorem dX11_lifts_14 : decode cX11_lifts 14 = .ok (.iload_n 1, 1) := by decide +kernel
theorem dX11_lifts_15 : decode cX11_lifts 15 = .ok (.iload_n 2, 1) := by decide +kernel
theorem dX11_lifts_16 : decode cX11_lifts 16 = .ok (.invokevirtual 203, 3) := by decide +kernel
theorem dX11_lifts_19 : decode cX11_lifts 19 = .ok (.istore_n 3, 1) := by decide +kernel
theorem dX11_lifts_20 : decode cX11_lifts 20 = .ok (.iload_n 3, 1) := by decide +kernel
theorem dX11_lifts_21 : decode cX11_lifts 21 = .ok (.ifCond .ne 6, 3) := by decide +kernel
theorem dX11_lifts_24 : decode cX11_lifts 24 = .ok (.bipush (-2), 2) := by decide +kernel
theorem dX11_lifts_26 : decode cX11_lifts 26 = .ok (.ireturn, 1) := by decide +kernel
theorem dX11_lifts_27 : decode cX11_lifts 27 = .ok (.aload_n 0, 1) := by decide +kernel
theorem dX11_lifts_28 : decode cX11_lifts 28 = .ok (.getfield 33, 3) := by decide +kernel
theorem dX11_lifts_31 : decode cX11_lifts 31 = .ok (.aload_n 0, 1) := by decide +kernel
theorem dX11_lifts_32 : decode cX11_lifts 32 = .ok (.getfield 26, 3) := by decide +kernel
theorem dX11_lifts_35 : decode cX11_lifts 35 = .ok (.invokevirtual 182, 3) := by decide +kernel
theorem dX11_lifts_38 : decode cX11_lifts 38 = .ok (.aload_n 0, 1) := by decide +kernel
theorem dX11_lifts_39 : decode cX11_lifts 39 = .ok (.getfield 26, 3) := by decide +kernel
theorem dX11_lifts_42 : decode cX11_lifts 42 = .ok (.iload_n 1, 1) := by decide +kernel
theorem dX11_lifts_43 : decode cX11_lifts 43 = .ok (.iload_n 2, 1) := by decide +kernel
theorem dX11_lifts_44 : decode cX11_lifts 44 = .ok (.invokevirtual 206, 3) := by decide +kernel
theorem dX11_lifts_47 : decode cX11_lifts 47 = .ok (.iload_n 3, 1) := by decide +kernel
theorem dX11_lifts_48 : decode cX11_lifts 48 = .ok (.ireturn, 1) := by decide +kernel
theorem dX11_votes_0 : decode cX11_votes 0 = .ok (.iload_n 1, 1) := by decide +kernel
theorem dX11_votes_1 : decode cX11_votes 1 = .ok (.invokestatic 209, 3) := by decide +kernel
theorem dX11_votes_4 : decode cX11_votes 4 = .ok (.ifCond .ne 5, 3) := by decide +kernel
theorem dX11_votes_7 : decode cX11_votes 7 = .ok (.iconst (-1), 1) := by decide +kernel
theorem dX11_votes_8 : decode cX11_votes 8 = .ok (.ireturn, 1) := by decide +kernel
theorem dX11_votes_9 : decode cX11_votes 9 = .ok (.aload_n 0, 1) := by decide +kernel
theorem dX11_votes_10 : decode cX11_votes 10 = .ok (.iload_n 1, 1) := by decide +kernel
theorem dX11_votes_11 : decode cX11_votes 11 = .ok (.invokevirtual 212, 3) := by decide +kernel
theorem dX11_votes_14 : decode cX11_votes 14 = .ok (.istore_n 2, 1) := by decide +kernel
theorem dX11_votes_15 : decode cX11_votes 15 = .ok (.aload_n 0, 1) := by decide +kernel
theorem dX11_votes_16 : decode cX11_votes 16 = .ok (.getfield 33, 3) := by decide +kernel
theorem dX11_votes_19 : decode cX11_votes 19 = .ok (.aload_n 0, 1) := by decide +kernel
theorem dX11_votes_20 : decode cX11_votes 20 = .ok (.getfield 26, 3) := by decide +kernel
theorem dX11_votes_23 : decode cX11_votes 23 = .ok (.invokevirtual 182, 3) := by decide +kernel
theorem dX11_votes_26 : decode cX11_votes 26 = .ok (.aload_n 0, 1) := by decide +kernel
theorem dX11_votes_27 : decode cX11_votes 27 = .ok (.getfield 26, 3) := by decide +kernel
theorem dX11_votes_30 : decode cX11_votes 30 = .ok (.dup, 1) := by decide +kernel
theorem dX11_votes_31 : decode cX11_votes 31 = .ok (.getfield 157, 3) := by decide +kernel
theorem dX11_votes_34 : decode cX11_votes 34 = .ok (.iconst 1, 1) := by decide +kernel
theorem dX11_votes_35 : decode cX11_votes 35 = .ok (.iadd, 1) := by decide +kernel
theorem dX11_votes_36 : decode cX11_votes 36 = .ok (.putfield 157, 3) := by decide +kernel
theorem dX11_votes_39 : decode cX11_votes 39 = .ok (.iload_n 2, 1) := by decide +kernel
theorem dX11_votes_40 : decode cX11_votes 40 = .ok (.ifCond .eq 16, 3) := by decide +kernel
theorem dX11_votes_43 : decode cX11_votes 43 = .ok (.aload_n 0, 1) := by decide +kernel
theorem dX11_votes_44 : decode cX11_votes 44 = .ok (.getfield 26, 3) := by decide +kernel
theorem dX11_votes_47 : decode cX11_votes 47 = .ok (.dup, 1) := by decide +kernel
theorem dX11_votes_48 : decode cX11_votes 48 = .ok (.getfield 160, 3) := by decide +kernel
theorem dX11_votes_51 : decode cX11_votes 51 = .ok (.iconst 1, 1) := by decide +kernel
theorem dX11_votes_52 : decode cX11_votes 52 = .ok (.iadd, 1) := by decide +kernel
theorem dX11_votes_53 : decode cX11_votes 53 = .ok (.putfield 160, 3) := by decide +kernel
theorem dX11_votes_56 : decode cX11_votes 56 = .ok (.iload_n 2, 1) := by decide +kernel
theorem dX11_votes_57 : decode cX11_votes 57 = .ok (.ifCond .eq 7, 3) := by decide +kernel
theorem dX11_votes_60 : decode cX11_votes 60 = .ok (.iconst 1, 1) := by decide +kernel
theorem dX11_votes_61 : decode cX11_votes 61 = .ok (.goto 4, 3) := by decide +kernel
theorem dX11_votes_64 : decode cX11_votes 64 = .ok (.iconst 0, 1) := by decide +kernel
theorem dX11_votes_65 : decode cX11_votes 65 = .ok (.ireturn, 1) := by decide +kernel
theorem dX11_undo_0 : decode cX11_undo 0 = .ok (.aload_n 0, 1) := by decide +kernel
theorem dX11_undo_1 : decode cX11_undo 1 = .ok (.getfield 33, 3) := by decide +kernel
theorem dX11_undo_4 : decode cX11_undo 4 = .ok (.getfield 172, 3) := by decide +kernel
theorem dX11_undo_7 : decode cX11_undo 7 = .ok (.ifCond .ne 6, 3) := by decide +kernel
theorem dX11_undo_10 : decode cX11_undo 10 = .ok (.bipush (-2), 2) := by decide +kernel
theorem dX11_undo_12 : decode cX11_undo 12 = .ok (.ireturn, 1) := by decide +kernel
theorem dX11_undo_13 : decode cX11_undo 13 = .ok (.aload_n 0, 1) := by decide +kernel
theorem dX11_undo_14 : decode cX11_undo 14 = .ok (.getfield 33, 3) := by decide +kernel
theorem dX11_undo_17 : decode cX11_undo 17 = .ok (.aload_n 0, 1) := by decide +kernel
theorem dX11_undo_18 : decode cX11_undo 18 = .ok (.getfield 26, 3) := by decide +kernel
theorem dX11_undo_21 : decode cX11_undo 21 = .ok (.invokevirtual 215, 3) := by decide +kernel
theorem dX11_undo_24 : decode cX11_undo 24 = .ok (.aload_n 0, 1) := by decide +kernel
theorem dX11_undo_25 : decode cX11_undo 25 = .ok (.getfield 33, 3) := by decide +kernel
theorem dX11_undo_28 : decode cX11_undo 28 = .ok (.getfield 172, 3) := by decide +kernel
theorem dX11_undo_31 : decode cX11_undo 31 = .ok (.ireturn, 1) := by decide +kernel
theorem dX11_power_0 : decode cX11_power 0 = .ok (.aload_n 0, 1) := by decide +kernel
theorem dX11_power_1 : decode cX11_power 1 = .ok (.getfield 19, 3) := by decide +kernel
theorem dX11_power_4 : decode cX11_power 4 = .ok (.iload_n 1, 1) := by decide +kernel
theorem dX11_power_5 : decode cX11_power 5 = .ok (.invokevirtual 135, 3) := by decide +kernel
theorem dX11_power_8 : decode cX11_power 8 = .ok (.ifCond .eq 14, 3) := by decide +kernel
theorem dX11_power_11 : decode cX11_power 11 = .ok (.iload_n 2, 1) := by decide +kernel
theorem dX11_power_12 : decode cX11_power 12 = .ok (.iconst 1, 1) := by decide +kernel
theorem dX11_power_13 : decode cX11_power 13 = .ok (.if_icmp .lt 9, 3) := by decide +kernel
theorem dX11_power_16 : decode cX11_power 16 = .ok (.iload_n 2, 1) := by decide +kernel
theorem dX11_power_17 : decode cX11_power 17 = .ok (.bipush 45, 2) := by decide +kernel
theorem dX11_power_19 : decode cX11_power 19 = .ok (.if_icmp .le 5, 3) := by decide +kernel
theorem dX11_power_22 : decode cX11_power 22 = .ok (.iconst (-1), 1) := by decide +kernel
theorem dX11_power_23 : decode cX11_power 23 = .ok (.ireturn, 1) := by decide +kernel
theorem dX11_power_24 : decode cX11_power 24 = .ok (.iconst 0, 1) := by decide +kernel
theorem dX11_power_25 : decode cX11_power 25 = .ok (.istore_n 3, 1) := by decide +kernel
theorem dX11_power_26 : decode cX11_power 26 = .ok (.iconst 0, 1) := by decide +kernel
theorem dX11_power_27 : decode cX11_power 27 = .ok (.istore 4, 2) := by decide +kernel
theorem dX11_power_29 : decode cX11_power 29 = .ok (.iload 4, 2) := by decide +kernel
theorem dX11_power_31 : decode cX11_power 31 = .ok (.aload_n 0, 1) := by decide +kernel
theorem dX11_power_32 : decode cX11_power 32 = .ok (.getfield 19, 3) := by decide +kernel
theorem dX11_power_35 : decode cX11_power 35 = .ok (.invokevirtual 218, 3) := by decide +kernel
theorem dX11_power_38 : decode cX11_power 38 = .ok (.if_icmp .ge 53, 3) := by decide +kernel
theorem dX11_power_41 : decode cX11_power 41 = .ok (.iload 4, 2) := by decide +kernel
theorem dX11_power_43 : decode cX11_power 43 = .ok (.iconst 1, 1) := by decide +kernel
theorem dX11_power_44 : decode cX11_power 44 = .ok (.iload_n 1, 1) := by decide +kernel
theorem dX11_power_45 : decode cX11_power 45 = .ok (.ishl, 1) := by decide +kernel
theorem dX11_power_46 : decode cX11_power 46 = .ok (.iand, 1) := by decide +kernel
theorem dX11_power_47 : decode cX11_power 47 = .ok (.ifCond .ne 38, 3) := by decide +kernel
theorem dX11_power_50 : decode cX11_power 50 = .ok (.aload_n 0, 1) := by decide +kernel
theorem dX11_power_51 : decode cX11_power 51 = .ok (.getfield 19, 3) := by decide +kernel
theorem dX11_power_54 : decode cX11_power 54 = .ok (.iload 4, 2) := by decide +kernel
theorem dX11_power_56 : decode cX11_power 56 = .ok (.invokevirtual 221, 3) := by decide +kernel
theorem dX11_power_59 : decode cX11_power 59 = .ok (.istore 5, 2) := by decide +kernel
theorem dX11_power_61 : decode cX11_power 61 = .ok (.iload 5, 2) := by decide +kernel
theorem dX11_power_63 : decode cX11_power 63 = .ok (.iload_n 2, 1) := by decide +kernel
theorem dX11_power_64 : decode cX11_power 64 = .ok (.if_icmp .ge 21, 3) := by decide +kernel
theorem dX11_power_67 : decode cX11_power 67 = .ok (.iload 5, 2) := by decide +kernel
theorem dX11_power_69 : decode cX11_power 69 = .ok (.aload_n 0, 1) := by decide +kernel
theorem dX11_power_70 : decode cX11_power 70 = .ok (.getfield 19, 3) := by decide +kernel
theorem dX11_power_73 : decode cX11_power 73 = .ok (.iload_n 1, 1) := by decide +kernel
theorem dX11_power_74 : decode cX11_power 74 = .ok (.invokevirtual 148, 3) := by decide +kernel
theorem dX11_power_77 : decode cX11_power 77 = .ok (.iadd, 1) := by decide +kernel
theorem dX11_power_78 : decode cX11_power 78 = .ok (.iload_n 2, 1) := by decide +kernel
theorem dX11_power_79 : decode cX11_power 79 = .ok (.if_icmp .lt 6, 3) := by decide +kernel
theorem dX11_power_82 : decode cX11_power 82 = .ok (.iinc 3 1, 3) := by decide +kernel
theorem dX11_power_85 : decode cX11_power 85 = .ok (.iinc 4 1, 3) := by decide +kernel
theorem dX11_power_88 : decode cX11_power 88 = .ok (.goto (-59), 3) := by decide +kernel
theorem dX11_power_91 : decode cX11_power 91 = .ok (.iload_n 3, 1) := by decide +kernel
theorem dX11_power_92 : decode cX11_power 92 = .ok (.ireturn, 1) := by decide +kernel
theorem dX11_best_0 : decode cX11_best 0 = .ok (.iload_n 1, 1) := by decide +kernel
theorem dX11_best_1 : decode cX11_best 1 = .ok (.iconst 1, 1) := by decide +kernel
theorem dX11_best_2 : decode cX11_best 2 = .ok (.if_icmp .lt 18, 3) := by decide +kernel
theorem dX11_best_5 : decode cX11_best 5 = .ok (.iload_n 1, 1) := by decide +kernel
theorem dX11_best_6 : decode cX11_best 6 = .ok (.iconst 3, 1) := by decide +kernel
theorem dX11_best_7 : decode cX11_best 7 = .ok (.if_icmp .gt 13, 3) := by decide +kernel
theorem dX11_best_10 : decode cX11_best 10 = .ok (.iload_n 2, 1) := by decide +kernel
theorem dX11_best_11 : decode cX11_best 11 = .ok (.iconst (-1), 1) := by decide +kernel
theorem dX11_best_12 : decode cX11_best 12 = .ok (.if_icmp .lt 8, 3) := by decide +kernel
theorem dX11_best_15 : decode cX11_best 15 = .ok (.iload_n 2, 1) := by decide +kernel
theorem dX11_best_16 : decode cX11_best 16 = .ok (.iconst 3, 1) := by decide +kernel
theorem dX11_best_17 : decode cX11_best 17 = .ok (.if_icmp .lt 5, 3) := by decide +kernel
theorem dX11_best_20 : decode cX11_best 20 = .ok (.iconst (-1), 1) := by decide +kernel
theorem dX11_best_21 : decode cX11_best 21 = .ok (.ireturn, 1) := by decide +kernel
theorem dX11_best_22 : decode cX11_best 22 = .ok (.iload_n 2, 1) := by decide +kernel
theorem dX11_best_23 : decode cX11_best 23 = .ok (.iload_n 1, 1) := by decide +kernel
theorem dX11_best_24 : decode cX11_best 24 = .ok (.if_icmp .lt 6, 3) := by decide +kernel
theorem dX11_best_27 : decode cX11_best 27 = .ok (.bipush (-9), 2) := by decide +kernel
theorem dX11_best_29 : decode cX11_best 29 = .ok (.ireturn, 1) := by decide +kernel
theorem dX11_best_30 : decode cX11_best 30 = .ok (.aload_n 0, 1) := by decide +kernel
theorem dX11_best_31 : decode cX11_best 31 = .ok (.iload_n 1, 1) := by decide +kernel
theorem dX11_best_32 : decode cX11_best 32 = .ok (.invokevirtual 224, 3) := by decide +kernel
theorem dX11_best_35 : decode cX11_best 35 = .ok (.iload_n 2, 1) := by decide +kernel
theorem dX11_best_36 : decode cX11_best 36 = .ok (.ifCond .lt 12, 3) := by decide +kernel
theorem dX11_best_39 : decode cX11_best 39 = .ok (.iload_n 2, 1) := by decide +kernel
theorem dX11_best_40 : decode cX11_best 40 = .ok (.aload_n 0, 1) := by decide +kernel
theorem dX11_best_41 : decode cX11_best 41 = .ok (.getfield 62, 3) := by decide +kernel
theorem dX11_best_44 : decode cX11_best 44 = .ok (.arraylength, 1) := by decide +kernel
theorem dX11_best_45 : decode cX11_best 45 = .ok (.if_icmp .lt 8, 3) := by decide +kernel
theorem dX11_best_48 : decode cX11_best 48 = .ok (.aload_n 0, 1) := by decide +kernel
theorem dX11_best_49 : decode cX11_best 49 = .ok (.getfield 228, 3) := by decide +kernel
theorem dX11_best_52 : decode cX11_best 52 = .ok (.ireturn, 1) := by decide +kernel
theorem dX11_best_53 : decode cX11_best 53 = .ok (.bipush 10, 2) := by decide +kernel
theorem dX11_best_55 : decode cX11_best 55 = .ok (.aload_n 0, 1) := by decide +kernel
theorem dX11_best_56 : decode cX11_best 56 = .ok (.getfield 62, 3) := by decide +kernel
theorem dX11_best_59 : decode cX11_best 59 = .ok (.iload_n 2, 1) := by decide +kernel
theorem dX11_best_60 : decode cX11_best 60 = .ok (.iaload, 1) := by decide +kernel
theorem dX11_best_61 : decode cX11_best 61 = .ok (.iconst 5, 1) := by decide +kernel
theorem dX11_best_62 : decode cX11_best 62 = .ok (.idiv, 1) := by decide +kernel
theorem dX11_best_63 : decode cX11_best 63 = .ok (.imul, 1) := by decide +kernel
theorem dX11_best_64 : decode cX11_best 64 = .ok (.aload_n 0, 1) := by decide +kernel
theorem dX11_best_65 : decode cX11_best 65 = .ok (.getfield 62, 3) := by decide +kernel
theorem dX11_best_68 : decode cX11_best 68 = .ok (.iload_n 2, 1) := by decide +kernel
theorem dX11_best_69 : decode cX11_best 69 = .ok (.iaload, 1) := by decide +kernel
theorem dX11_best_70 : decode cX11_best 70 = .ok (.iconst 5, 1) := by decide +kernel
theorem dX11_best_71 : decode cX11_best 71 = .ok (.irem, 1) := by decide +kernel
theorem dX11_best_72 : decode cX11_best 72 = .ok (.iadd, 1) := by decide +kernel
theorem dX11_best_73 : decode cX11_best 73 = .ok (.ireturn, 1) := by decide +kernel
theorem dX11_way_0 : decode cX11_way 0 = .ok (.iload_n 2, 1) := by decide +kernel
theorem dX11_way_1 : decode cX11_way 1 = .ok (.invokestatic 119, 3) := by decide +kernel
theorem dX11_way_4 : decode cX11_way 4 = .ok (.istore_n 3, 1) := by decide +kernel
theorem dX11_way_5 : decode cX11_way 5 = .ok (.aload_n 0, 1) := by decide +kernel
theorem dX11_way_6 : decode cX11_way 6 = .ok (.getfield 19, 3) := by decide +kernel
theorem dX11_way_9 : decode cX11_way 9 = .ok (.iload_n 1, 1) := by decide +kernel
theorem dX11_way_10 : decode cX11_way 10 = .ok (.invokevirtual 135, 3) := by decide +kernel
theorem dX11_way_13 : decode cX11_way 13 = .ok (.ifCond .eq 16, 3) := by decide +kernel
theorem dX11_way_16 : decode cX11_way 16 = .ok (.iload_n 3, 1) := by decide +kernel
theorem dX11_way_17 : decode cX11_way 17 = .ok (.ifCond .lt 12, 3) := by decide +kernel
theorem dX11_way_20 : decode cX11_way 20 = .ok (.iload_n 3, 1) := by decide +kernel
theorem dX11_way_21 : decode cX11_way 21 = .ok (.aload_n 0, 1) := by decide +kernel
theorem dX11_way_22 : decode cX11_way 22 = .ok (.getfield 65, 3) := by decide +kernel
theorem dX11_way_25 : decode cX11_way 25 = .ok (.arraylength, 1) := by decide +kernel
theorem dX11_way_26 : decode cX11_way 26 = .ok (.if_icmp .lt 5, 3) := by decide +kernel
theorem dX11_way_29 : decode cX11_way 29 = .ok (.iconst (-1), 1) := by decide +kernel
theorem dX11_way_30 : decode cX11_way 30 = .ok (.ireturn, 1) := by decide +kernel
theorem dX11_way_31 : decode cX11_way 31 = .ok (.aload_n 0, 1) := by decide +kernel
theorem dX11_way_32 : decode cX11_way 32 = .ok (.aload_n 0, 1) := by decide +kernel
theorem dX11_way_33 : decode cX11_way 33 = .ok (.getfield 26, 3) := by decide +kernel
theorem dX11_way_36 : decode cX11_way 36 = .ok (.iload_n 1, 1) := by decide +kernel
theorem dX11_way_37 : decode cX11_way 37 = .ok (.invokevirtual 139, 3) := by decide +kernel
theorem dX11_way_40 : decode cX11_way 40 = .ok (.invokevirtual 231, 3) := by decide +kernel
theorem dX11_way_43 : decode cX11_way 43 = .ok (.aload_n 0, 1) := by decide +kernel
theorem dX11_way_44 : decode cX11_way 44 = .ok (.getfield 65, 3) := by decide +kernel
theorem dX11_way_47 : decode cX11_way 47 = .ok (.iload_n 3, 1) := by decide +kernel
theorem dX11_way_48 : decode cX11_way 48 = .ok (.iaload, 1) := by decide +kernel
theorem dX11_way_49 : decode cX11_way 49 = .ok (.ireturn, 1) := by decide +kernel
theorem dX11_odds_0 : decode cX11_odds 0 = .ok (.iload_n 1, 1) := by decide +kernel
theorem dX11_odds_1 : decode cX11_odds 1 = .ok (.invokestatic 119, 3) := by decide +kernel
theorem dX11_odds_4 : decode cX11_odds 4 = .ok (.istore 5, 2) := by decide +kernel
theorem dX11_odds_6 : decode cX11_odds 6 = .ok (.iload 5, 2) := by decide +kernel
theorem dX11_odds_8 : decode cX11_odds 8 = .ok (.ifCond .lt 34, 3) := by decide +kernel
theorem dX11_odds_11 : decode cX11_odds 11 = .ok (.iload_n 2, 1) := by decide +kernel
theorem dX11_odds_12 : decode cX11_odds 12 = .ok (.ifCond .lt 30, 3) := by decide +kernel
theorem dX11_odds_15 : decode cX11_odds 15 = .ok (.iload_n 2, 1) := by decide +kernel
theorem dX11_odds_16 : decode cX11_odds 16 = .ok (.bipush 10, 2) := by decide +kernel
theorem dX11_odds_18 : decode cX11_odds 18 = .ok (.if_icmp .gt 24, 3) := by decide +kernel
theorem dX11_odds_21 : decode cX11_odds 21 = .ok (.iload_n 3, 1) := by decide +kernel
theorem dX11_odds_22 : decode cX11_odds 22 = .ok (.ifCond .lt 20, 3) := by decide +kernel
theorem dX11_odds_25 : decode cX11_odds 25 = .ok (.iload_n 3, 1) := by decide +kernel
theorem dX11_odds_26 : decode cX11_odds 26 = .ok (.bipush 8, 2) := by decide +kernel
theorem dX11_odds_28 : decode cX11_odds 28 = .ok (.if_icmp .gt 14, 3) := by decide +kernel
theorem dX11_odds_31 : decode cX11_odds 31 = .ok (.iload 4, 2) := by decide +kernel
theorem dX11_odds_33 : decode cX11_odds 33 = .ok (.ifCond .lt 9, 3) := by decide +kernel
theorem dX11_odds_36 : decode cX11_odds 36 = .ok (.iload 4, 2) := by decide +kernel
theorem dX11_odds_38 : decode cX11_odds 38 = .ok (.iconst 1, 1) := by decide +kernel
theorem dX11_odds_39 : decode cX11_odds 39 = .ok (.if_icmp .le 5, 3) := by decide +kernel
theorem dX11_odds_42 : decode cX11_odds 42 = .ok (.iconst (-1), 1) := by decide +kernel
theorem dX11_odds_43 : decode cX11_odds 43 = .ok (.ireturn, 1) := by decide +kernel
theorem dX11_odds_44 : decode cX11_odds 44 = .ok (.aload_n 0, 1) := by decide +kernel
theorem dX11_odds_45 : decode cX11_odds 45 = .ok (.iload 5, 2) := by decide +kernel
theorem dX11_odds_47 : decode cX11_odds 47 = .ok (.invokevirtual 132, 3) := by decide +kernel
theorem dX11_odds_50 : decode cX11_odds 50 = .ok (.iload_n 2, 1) := by decide +kernel
theorem dX11_odds_51 : decode cX11_odds 51 = .ok (.iload_n 3, 1) := by decide +kernel
theorem dX11_odds_52 : decode cX11_odds 52 = .ok (.invokestatic 234, 3) := by decide +kernel
theorem dX11_odds_55 : decode cX11_odds 55 = .ok (.lstore 6, 2) := by decide +kernel
theorem dX11_odds_57 : decode cX11_odds 57 = .ok (.bipush 10, 2) := by decide +kernel
theorem dX11_odds_59 : decode cX11_odds 59 = .ok (.iload_n 3, 1) := by decide +kernel
theorem dX11_odds_60 : decode cX11_odds 60 = .ok (.invokestatic 238, 3) := by decide +kernel
theorem dX11_odds_63 : decode cX11_odds 63 = .ok (.lstore 8, 2) := by decide +kernel
theorem dX11_odds_65 : decode cX11_odds 65 = .ok (.lload 6, 2) := by decide +kernel
theorem dX11_odds_67 : decode cX11_odds 67 = .ok (.lload 8, 2) := by decide +kernel
theorem dX11_odds_69 : decode cX11_odds 69 = .ok (.invokestatic 242, 3) := by decide +kernel
theorem dX11_odds_72 : decode cX11_odds 72 = .ok (.lstore 10, 2) := by decide +kernel
theorem dX11_odds_74 : decode cX11_odds 74 = .ok (.lload 10, 2) := by decide +kernel
theorem dX11_odds_76 : decode cX11_odds 76 = .ok (.lconst 1, 1) := by decide +kernel
theorem dX11_odds_77 : decode cX11_odds 77 = .ok (.lcmp, 1) := by decide +kernel
theorem dX11_odds_78 : decode cX11_odds 78 = .ok (.ifCond .ge 5, 3) := by decide +kernel
theorem dX11_odds_81 : decode cX11_odds 81 = .ok (.iconst (-1), 1) := by decide +kernel
theorem dX11_odds_82 : decode cX11_odds 82 = .ok (.ireturn, 1) := by decide +kernel
theorem dX11_odds_83 : decode cX11_odds 83 = .ok (.iload 4, 2) := by decide +kernel
theorem dX11_odds_85 : decode cX11_odds 85 = .ok (.ifCond .ne 8, 3) := by decide +kernel
theorem dX11_odds_88 : decode cX11_odds 88 = .ok (.lload 6, 2) := by decide +kernel
theorem dX11_odds_90 : decode cX11_odds 90 = .ok (.goto 5, 3) := by decide +kernel
theorem dX11_odds_93 : decode cX11_odds 93 = .ok (.lload 8, 2) := by decide +kernel
theorem dX11_odds_95 : decode cX11_odds 95 = .ok (.lload 10, 2) := by decide +kernel
theorem dX11_odds_97 : decode cX11_odds 97 = .ok (.ldiv, 1) := by decide +kernel
theorem dX11_odds_98 : decode cX11_odds 98 = .ok (.l2i, 1) := by decide +kernel
theorem dX11_odds_99 : decode cX11_odds 99 = .ok (.ireturn, 1) := by decide +kernel
theorem dX11_found_0 : decode cX11_found 0 = .ok (.iload_n 1, 1) := by decide +kernel
theorem dX11_found_1 : decode cX11_found 1 = .ok (.ifCond .lt 25, 3) := by decide +kernel
theorem dX11_found_4 : decode cX11_found 4 = .ok (.iload_n 1, 1) := by decide +kernel
theorem dX11_found_5 : decode cX11_found 5 = .ok (.aload_n 0, 1) := by decide +kernel
theorem dX11_found_6 : decode cX11_found 6 = .ok (.getfield 19, 3) := by decide +kernel
theorem dX11_found_9 : decode cX11_found 9 = .ok (.invokevirtual 218, 3) := by decide +kernel
theorem dX11_found_12 : decode cX11_found 12 = .ok (.if_icmp .ge 14, 3) := by decide +kernel
theorem dX11_found_15 : decode cX11_found 15 = .ok (.iload_n 2, 1) := by decide +kernel
theorem dX11_found_16 : decode cX11_found 16 = .ok (.iconst 1, 1) := by decide +kernel
theorem dX11_found_17 : decode cX11_found 17 = .ok (.if_icmp .lt 9, 3) := by decide +kernel
theorem dX11_found_20 : decode cX11_found 20 = .ok (.iload_n 2, 1) := by decide +kernel
theorem dX11_found_21 : decode cX11_found 21 = .ok (.bipush 9, 2) := by decide +kernel
theorem dX11_found_23 : decode cX11_found 23 = .ok (.if_icmp .le 5, 3) := by decide +kernel
theorem dX11_found_26 : decode cX11_found 26 = .ok (.iconst (-1), 1) := by decide +kernel
theorem dX11_found_27 : decode cX11_found 27 = .ok (.ireturn, 1) := by decide +kernel
theorem dX11_found_28 : decode cX11_found 28 = .ok (.aload_n 0, 1) := by decide +kernel
theorem dX11_found_29 : decode cX11_found 29 = .ok (.getfield 40, 3) := by decide +kernel
theorem dX11_found_32 : decode cX11_found 32 = .ok (.iload_n 1, 1) := by decide +kernel
theorem dX11_found_33 : decode cX11_found 33 = .ok (.iload_n 2, 1) := by decide +kernel
theorem dX11_found_34 : decode cX11_found 34 = .ok (.invokevirtual 246, 3) := by decide +kernel
theorem dX11_found_37 : decode cX11_found 37 = .ok (.ifCond .eq 13, 3) := by decide +kernel
theorem dX11_found_40 : decode cX11_found 40 = .ok (.aload_n 0, 1) := by decide +kernel
theorem dX11_found_41 : decode cX11_found 41 = .ok (.getfield 40, 3) := by decide +kernel
theorem dX11_found_44 : decode cX11_found 44 = .ok (.getfield 113, 3) := by decide +kernel
theorem dX11_found_47 : decode cX11_found 47 = .ok (.goto 5, 3) := by decide +kernel
theorem dX11_found_50 : decode cX11_found 50 = .ok (.bipush (-3), 2) := by decide +kernel
theorem dX11_found_52 : decode cX11_found 52 = .ok (.ireturn, 1) := by decide +kernel
theorem dX11_forget_0 : decode cX11_forget 0 = .ok (.aload_n 0, 1) := by decide +kernel
theorem dX11_forget_1 : decode cX11_forget 1 = .ok (.getfield 40, 3) := by decide +kernel
theorem dX11_forget_4 : decode cX11_forget 4 = .ok (.getfield 113, 3) := by decide +kernel
theorem dX11_forget_7 : decode cX11_forget 7 = .ok (.istore_n 1, 1) := by decide +kernel
theorem dX11_forget_8 : decode cX11_forget 8 = .ok (.aload_n 0, 1) := by decide +kernel
theorem dX11_forget_9 : decode cX11_forget 9 = .ok (.getfield 40, 3) := by decide +kernel
theorem dX11_forget_12 : decode cX11_forget 12 = .ok (.iconst 0, 1) := by decide +kernel
theorem dX11_forget_13 : decode cX11_forget 13 = .ok (.putfield 113, 3) := by decide +kernel
theorem dX11_forget_16 : decode cX11_forget 16 = .ok (.iload_n 1, 1) := by decide +kernel
theorem dX11_forget_17 : decode cX11_forget 17 = .ok (.ireturn, 1) := by decide +kernel
theorem dX11_can_0 : decode cX11_can 0 = .ok (.iload_n 1, 1) := by decide +kernel
theorem dX11_can_1 : decode cX11_can 1 = .ok (.tableswitch 43 0 2 #[27, 33, 38], 27) := by decide +kernel
theorem dX11_can_28 : decode cX11_can 28 = .ok (.aload_n 0, 1) := by decide +kernel
theorem dX11_can_29 : decode cX11_can 29 = .ok (.iconst 0, 1) := by decide +kernel
theorem dX11_can_30 : decode cX11_can 30 = .ok (.invokevirtual 248, 3) := by decide +kernel
theorem dX11_can_33 : decode cX11_can 33 = .ok (.ireturn, 1) := by decide +kernel
theorem dX11_can_34 : decode cX11_can 34 = .ok (.aload_n 0, 1) := by decide +kernel
theorem dX11_can_35 : decode cX11_can 35 = .ok (.invokevirtual 251, 3) := by decide +kernel
theorem dX11_can_38 : decode cX11_can 38 = .ok (.ireturn, 1) := by decide +kernel
theorem dX11_can_39 : decode cX11_can 39 = .ok (.aload_n 0, 1) := by decide +kernel
theorem dX11_can_40 : decode cX11_can 40 = .ok (.invokevirtual 254, 3) := by decide +kernel
theorem dX11_can_43 : decode cX11_can 43 = .ok (.ireturn, 1) := by decide +kernel
theorem dX11_can_44 : decode cX11_can 44 = .ok (.iconst (-1), 1) := by decide +kernel
theorem dX11_can_45 : decode cX11_can 45 = .ok (.ireturn, 1) := by decide +kernel
theorem dX11_ask_0 : decode cX11_ask 0 = .ok (.aload_n 0, 1) := by decide +kernel
theorem dX11_ask_1 : decode cX11_ask 1 = .ok (.iconst 0, 1) := by decide +kernel
theorem dX11_ask_2 : decode cX11_ask 2 = .ok (.invokevirtual 248, 3) := by decide +kernel
theorem dX11_ask_5 : decode cX11_ask 5 = .ok (.istore_n 1, 1) := by decide +kernel
theorem dX11_ask_6 : decode cX11_ask 6 = .ok (.bipush (-9), 2) := by decide +kernel
theorem dX11_ask_8 : decode cX11_ask 8 = .ok (.istore_n 2, 1) := by decide +kernel
theorem dX11_ask_9 : decode cX11_ask 9 = .ok (.iload_n 1, 1) := by decide +kernel
theorem dX11_ask_10 : decode cX11_ask 10 = .ok (.istore_n 3, 1) := by decide +kernel
theorem dX11_ask_11 : decode cX11_ask 11 = .ok (.iconst 0, 1) := by decide +kernel
theorem dX11_ask_12 : decode cX11_ask 12 = .ok (.istore 4, 2) := by decide +kernel
theorem dX11_ask_14 : decode cX11_ask 14 = .ok (.iload 4, 2) := by decide +kernel
theorem dX11_ask_16 : decode cX11_ask 16 = .ok (.aload_n 0, 1) := by decide +kernel
theorem dX11_ask_17 : decode cX11_ask 17 = .ok (.getfield 19, 3) := by decide +kernel
theorem dX11_ask_20 : decode cX11_ask 20 = .ok (.getfield 257, 3) := by decide +kernel
theorem dX11_ask_23 : decode cX11_ask 23 = .ok (.if_icmp .ge 47, 3) := by decide +kernel
theorem dX11_ask_26 : decode cX11_ask 26 = .ok (.iload_n 1, 1) := by decide +kernel
theorem dX11_ask_27 : decode cX11_ask 27 = .ok (.iconst 1, 1) := by decide +kernel
theorem dX11_ask_28 : decode cX11_ask 28 = .ok (.if_icmp .le 42, 3) := by decide +kernel
theorem dX11_ask_31 : decode cX11_ask 31 = .ok (.aload_n 0, 1) := by decide +kernel
theorem dX11_ask_32 : decode cX11_ask 32 = .ok (.iconst 1, 1) := by decide +kernel
theorem dX11_ask_33 : decode cX11_ask 33 = .ok (.iload 4, 2) := by decide +kernel
theorem dX11_ask_35 : decode cX11_ask 35 = .ok (.ishl, 1) := by decide +kernel
theorem dX11_ask_36 : decode cX11_ask 36 = .ok (.invokevirtual 248, 3) := by decide +kernel
theorem dX11_ask_39 : decode cX11_ask 39 = .ok (.istore 5, 2) := by decide +kernel
theorem dX11_ask_41 : decode cX11_ask 41 = .ok (.iload 5, 2) := by decide +kernel
theorem dX11_ask_43 : decode cX11_ask 43 = .ok (.iload_n 1, 1) := by decide +kernel
theorem dX11_ask_44 : decode cX11_ask 44 = .ok (.iload 5, 2) := by decide +kernel
theorem dX11_ask_46 : decode cX11_ask 46 = .ok (.isub, 1) := by decide +kernel
theorem dX11_ask_47 : decode cX11_ask 47 = .ok (.invokestatic 260, 3) := by decide +kernel
theorem dX11_ask_50 : decode cX11_ask 50 = .ok (.istore 6, 2) := by decide +kernel
theorem dX11_ask_52 : decode cX11_ask 52 = .ok (.iload 6, 2) := by decide +kernel
theorem dX11_ask_54 : decode cX11_ask 54 = .ok (.iload_n 3, 1) := by decide +kernel
theorem dX11_ask_55 : decode cX11_ask 55 = .ok (.if_icmp .ge 9, 3) := by decide +kernel
theorem dX11_ask_58 : decode cX11_ask 58 = .ok (.iload 6, 2) := by decide +kernel
theorem dX11_ask_60 : decode cX11_ask 60 = .ok (.istore_n 3, 1) := by decide +kernel
theorem dX11_ask_61 : decode cX11_ask 61 = .ok (.iload 4, 2) := by decide +kernel
theorem dX11_ask_63 : decode cX11_ask 63 = .ok (.istore_n 2, 1) := by decide +kernel
theorem dX11_ask_64 : decode cX11_ask 64 = .ok (.iinc 4 1, 3) := by decide +kernel
theorem dX11_ask_67 : decode cX11_ask 67 = .ok (.goto (-53), 3) := by decide +kernel
theorem dX11_ask_70 : decode cX11_ask 70 = .ok (.iload_n 2, 1) := by decide +kernel
theorem dX11_ask_71 : decode cX11_ask 71 = .ok (.ireturn, 1) := by decide +kernel
theorem dX11_rate_0 : decode cX11_rate 0 = .ok (.iload_n 1, 1) := by decide +kernel
theorem dX11_rate_1 : decode cX11_rate 1 = .ok (.ifCond .lt 23, 3) := by decide +kernel
theorem dX11_rate_4 : decode cX11_rate 4 = .ok (.iload_n 1, 1) := by decide +kernel
theorem dX11_rate_5 : decode cX11_rate 5 = .ok (.aload_n 0, 1) := by decide +kernel
theorem dX11_rate_6 : decode cX11_rate 6 = .ok (.getfield 54, 3) := by decide +kernel
theorem dX11_rate_9 : decode cX11_rate 9 = .ok (.arraylength, 1) := by decide +kernel
theorem dX11_rate_10 : decode cX11_rate 10 = .ok (.if_icmp .ge 14, 3) := by decide +kernel
theorem dX11_rate_13 : decode cX11_rate 13 = .ok (.aload_n 0, 1) := by decide +kernel
theorem dX11_rate_14 : decode cX11_rate 14 = .ok (.getfield 19, 3) := by decide +kernel
theorem dX11_rate_17 : decode cX11_rate 17 = .ok (.iload_n 2, 1) := by decide +kernel
theorem dX11_rate_18 : decode cX11_rate 18 = .ok (.invokevirtual 135, 3) := by decide +kernel
theorem dX11_rate_21 : decode cX11_rate 21 = .ok (.ifCond .ne 7, 3) := by decide +kernel
theorem dX11_rate_24 : decode cX11_rate 24 = .ok (.ldc_w 265, 3) := by decide +kernel
theorem dX11_rate_27 : decode cX11_rate 27 = .ok (.ireturn, 1) := by decide +kernel
theorem dX11_rate_28 : decode cX11_rate 28 = .ok (.aload_n 0, 1) := by decide +kernel
theorem dX11_rate_29 : decode cX11_rate 29 = .ok (.getfield 54, 3) := by decide +kernel
theorem dX11_rate_32 : decode cX11_rate 32 = .ok (.iload_n 1, 1) := by decide +kernel
theorem dX11_rate_33 : decode cX11_rate 33 = .ok (.aaload, 1) := by decide +kernel
theorem dX11_rate_34 : decode cX11_rate 34 = .ok (.astore_n 3, 1) := by decide +kernel
theorem dX11_rate_35 : decode cX11_rate 35 = .ok (.aload_n 3, 1) := by decide +kernel
theorem dX11_rate_36 : decode cX11_rate 36 = .ok (.ifnonnull 9, 3) := by decide +kernel
theorem dX11_rate_39 : decode cX11_rate 39 = .ok (.ldc_w 265, 3) := by decide +kernel
theorem dX11_rate_42 : decode cX11_rate 42 = .ok (.goto 9, 3) := by decide +kernel
theorem dX11_rate_45 : decode cX11_rate 45 = .ok (.aload_n 3, 1) := by decide +kernel
theorem dX11_rate_46 : decode cX11_rate 46 = .ok (.aload_n 0, 1) := by decide +kernel
theorem dX11_rate_47 : decode cX11_rate 47 = .ok (.iload_n 2, 1) := by decide +kernel
theorem dX11_rate_48 : decode cX11_rate 48 = .ok (.invokevirtual 266, 3) := by decide +kernel
theorem dX11_rate_51 : decode cX11_rate 51 = .ok (.ireturn, 1) := by decide +kernel
theorem dX11_keep_0 : decode cX11_keep 0 = .ok (.iload_n 1, 1) := by decide +kernel
theorem dX11_keep_1 : decode cX11_keep 1 = .ok (.ifCond .lt 8, 3) := by decide +kernel
theorem dX11_keep_4 : decode cX11_keep 4 = .ok (.iload_n 1, 1) := by decide +kernel
theorem dX11_keep_5 : decode cX11_keep 5 = .ok (.iconst 2, 1) := by decide +kernel
theorem dX11_keep_6 : decode cX11_keep 6 = .ok (.if_icmp .lt 5, 3) := by decide +kernel
theorem dX11_keep_9 : decode cX11_keep 9 = .ok (.iconst (-1), 1) := by decide +kernel
theorem dX11_keep_10 : decode cX11_keep 10 = .ok (.ireturn, 1) := by decide +kernel
theorem dX11_keep_11 : decode cX11_keep 11 = .ok (.aload_n 0, 1) := by decide +kernel
theorem dX11_keep_12 : decode cX11_keep 12 = .ok (.getfield 44, 3) := by decide +kernel
theorem dX11_keep_15 : decode cX11_keep 15 = .ok (.iload_n 1, 1) := by decide +kernel
theorem dX11_keep_16 : decode cX11_keep 16 = .ok (.aaload, 1) := by decide +kernel
theorem dX11_keep_17 : decode cX11_keep 17 = .ok (.astore_n 2, 1) := by decide +kernel
theorem dX11_keep_18 : decode cX11_keep 18 = .ok (.aload_n 2, 1) := by decide +kernel
theorem dX11_keep_19 : decode cX11_keep 19 = .ok (.ifnonnull 5, 3) := by decide +kernel
theorem dX11_keep_22 : decode cX11_keep 22 = .ok (.iconst (-1), 1) := by decide +kernel
theorem dX11_keep_23 : decode cX11_keep 23 = .ok (.ireturn, 1) := by decide +kernel
theorem dX11_keep_24 : decode cX11_keep 24 = .ok (.aload_n 2, 1) := by decide +kernel
theorem dX11_keep_25 : decode cX11_keep 25 = .ok (.aload_n 0, 1) := by decide +kernel
theorem dX11_keep_26 : decode cX11_keep 26 = .ok (.getfield 26, 3) := by decide +kernel
theorem dX11_keep_29 : decode cX11_keep 29 = .ok (.invokevirtual 107, 3) := by decide +kernel
theorem dX11_keep_32 : decode cX11_keep 32 = .ok (.aload_n 0, 1) := by decide +kernel
theorem dX11_keep_33 : decode cX11_keep 33 = .ok (.getfield 48, 3) := by decide +kernel
theorem dX11_keep_36 : decode cX11_keep 36 = .ok (.iload_n 1, 1) := by decide +kernel
theorem dX11_keep_37 : decode cX11_keep 37 = .ok (.iconst 1, 1) := by decide +kernel
theorem dX11_keep_38 : decode cX11_keep 38 = .ok (.bastore, 1) := by decide +kernel
theorem dX11_keep_39 : decode cX11_keep 39 = .ok (.aload_n 0, 1) := by decide +kernel
theorem dX11_keep_40 : decode cX11_keep 40 = .ok (.getfield 26, 3) := by decide +kernel
theorem dX11_keep_43 : decode cX11_keep 43 = .ok (.getfield 154, 3) := by decide +kernel
theorem dX11_keep_46 : decode cX11_keep 46 = .ok (.ireturn, 1) := by decide +kernel
theorem dX11_back_0 : decode cX11_back 0 = .ok (.iload_n 1, 1) := by decide +kernel
theorem dX11_back_1 : decode cX11_back 1 = .ok (.ifCond .lt 8, 3) := by decide +kernel
theorem dX11_back_4 : decode cX11_back 4 = .ok (.iload_n 1, 1) := by decide +kernel
theorem dX11_back_5 : decode cX11_back 5 = .ok (.iconst 2, 1) := by decide +kernel
theorem dX11_back_6 : decode cX11_back 6 = .ok (.if_icmp .lt 5, 3) := by decide +kernel
theorem dX11_back_9 : decode cX11_back 9 = .ok (.iconst (-1), 1) := by decide +kernel
theorem dX11_back_10 : decode cX11_back 10 = .ok (.ireturn, 1) := by decide +kernel
theorem dX11_back_11 : decode cX11_back 11 = .ok (.aload_n 0, 1) := by decide +kernel
theorem dX11_back_12 : decode cX11_back 12 = .ok (.getfield 44, 3) := by decide +kernel
theorem dX11_back_15 : decode cX11_back 15 = .ok (.iload_n 1, 1) := by decide +kernel
theorem dX11_back_16 : decode cX11_back 16 = .ok (.aaload, 1) := by decide +kernel
theorem dX11_back_17 : decode cX11_back 17 = .ok (.astore_n 2, 1) := by decide +kernel
theorem dX11_back_18 : decode cX11_back 18 = .ok (.aload_n 2, 1) := by decide +kernel
theorem dX11_back_19 : decode cX11_back 19 = .ok (.ifnull 12, 3) := by decide +kernel
theorem dX11_back_22 : decode cX11_back 22 = .ok (.aload_n 0, 1) := by decide +kernel
theorem dX11_back_23 : decode cX11_back 23 = .ok (.getfield 48, 3) := by decide +kernel
theorem dX11_back_26 : decode cX11_back 26 = .ok (.iload_n 1, 1) := by decide +kernel
theorem dX11_back_27 : decode cX11_back 27 = .ok (.baload, 1) := by decide +kernel
theorem dX11_back_28 : decode cX11_back 28 = .ok (.ifCond .ne 6, 3) := by decide +kernel
theorem dX11_back_31 : decode cX11_back 31 = .ok (.bipush (-2), 2) := by decide +kernel
theorem dX11_back_33 : decode cX11_back 33 = .ok (.ireturn, 1) := by decide +kernel
theorem dX11_back_34 : decode cX11_back 34 = .ok (.aload_n 0, 1) := by decide +kernel
theorem dX11_back_35 : decode cX11_back 35 = .ok (.getfield 26, 3) := by decide +kernel
theorem dX11_back_38 : decode cX11_back 38 = .ok (.aload_n 2, 1) := by decide +kernel
theorem dX11_back_39 : decode cX11_back 39 = .ok (.invokevirtual 107, 3) := by decide +kernel
theorem dX11_back_42 : decode cX11_back 42 = .ok (.aload_n 0, 1) := by decide +kernel
theorem dX11_back_43 : decode cX11_back 43 = .ok (.getfield 33, 3) := by decide +kernel
theorem dX11_back_46 : decode cX11_back 46 = .ok (.invokevirtual 110, 3) := by decide +kernel
theorem dX11_back_49 : decode cX11_back 49 = .ok (.aload_n 0, 1) := by decide +kernel
theorem dX11_back_50 : decode cX11_back 50 = .ok (.getfield 26, 3) := by decide +kernel
theorem dX11_back_53 : decode cX11_back 53 = .ok (.getfield 154, 3) := by decide +kernel
theorem dX11_back_56 : decode cX11_back 56 = .ok (.ireturn, 1) := by decide +kernel
theorem dX11_count_0 : decode cX11_count 0 = .ok (.iload_n 1, 1) := by decide +kernel
theorem dX11_count_1 : decode cX11_count 1 = .ok (.tableswitch 63 0 3 #[31, 39, 47, 55], 31) := by decide +kernel
theorem dX11_count_32 : decode cX11_count 32 = .ok (.aload_n 0, 1) := by decide +kernel
theorem dX11_count_33 : decode cX11_count 33 = .ok (.getfield 19, 3) := by decide +kernel
theorem dX11_count_36 : decode cX11_count 36 = .ok (.getfield 257, 3) := by decide +kernel
theorem dX11_count_39 : decode cX11_count 39 = .ok (.ireturn, 1) := by decide +kernel
theorem dX11_count_40 : decode cX11_count 40 = .ok (.aload_n 0, 1) := by decide +kernel
theorem dX11_count_41 : decode cX11_count 41 = .ok (.getfield 19, 3) := by decide +kernel
theorem dX11_count_44 : decode cX11_count 44 = .ok (.getfield 193, 3) := by decide +kernel
theorem dX11_count_47 : decode cX11_count 47 = .ok (.ireturn, 1) := by decide +kernel
theorem dX11_count_48 : decode cX11_count 48 = .ok (.aload_n 0, 1) := by decide +kernel
theorem dX11_count_49 : decode cX11_count 49 = .ok (.getfield 40, 3) := by decide +kernel
theorem dX11_count_52 : decode cX11_count 52 = .ok (.getfield 113, 3) := by decide +kernel
theorem dX11_count_55 : decode cX11_count 55 = .ok (.ireturn, 1) := by decide +kernel
theorem dX11_count_56 : decode cX11_count 56 = .ok (.aload_n 0, 1) := by decide +kernel
theorem dX11_count_57 : decode cX11_count 57 = .ok (.getfield 12, 3) := by decide +kernel
theorem dX11_count_60 : decode cX11_count 60 = .ok (.getfield 91, 3) := by decide +kernel
theorem dX11_count_63 : decode cX11_count 63 = .ok (.ireturn, 1) := by decide +kernel
theorem dX11_count_64 : decode cX11_count 64 = .ok (.iconst (-1), 1) := by decide +kernel
theorem dX11_count_65 : decode cX11_count 65 = .ok (.ireturn, 1) := by decide +kernel
theorem dX11_trace_0 : decode cX11_trace 0 = .ok (.aload_n 0, 1) := by decide +kernel
theorem dX11_trace_1 : decode cX11_trace 1 = .ok (.getfield 270, 3) := by decide +kernel
theorem dX11_trace_4 : decode cX11_trace 4 = .ok (.lreturn, 1) := by decide +kernel
theorem dX11_loseImages_0 : decode cX11_loseImages 0 = .ok (.iconst 0, 1) := by decide +kernel
theorem dX11_loseImages_1 : decode cX11_loseImages 1 = .ok (.istore_n 1, 1) := by decide +kernel
theorem dX11_loseImages_2 : decode cX11_loseImages 2 = .ok (.iload_n 1, 1) := by decide +kernel
theorem dX11_loseImages_3 : decode cX11_loseImages 3 = .ok (.aload_n 0, 1) := by decide +kernel
theorem dX11_loseImages_4 : decode cX11_loseImages 4 = .ok (.getfield 48, 3) := by decide +kernel
theorem dX11_loseImages_7 : decode cX11_loseImages 7 = .ok (.arraylength, 1) := by decide +kernel
theorem dX11_loseImages_8 : decode cX11_loseImages 8 = .ok (.if_icmp .ge 16, 3) := by decide +kernel
theorem dX11_loseImages_11 : decode cX11_loseImages 11 = .ok (.aload_n 0, 1) := by decide +kernel
theorem dX11_loseImages_12 : decode cX11_loseImages 12 = .ok (.getfield 48, 3) := by decide +kernel
theorem dX11_loseImages_15 : decode cX11_loseImages 15 = .ok (.iload_n 1, 1) := by decide +kernel
theorem dX11_loseImages_16 : decode cX11_loseImages 16 = .ok (.iconst 0, 1) := by decide +kernel
theorem dX11_loseImages_17 : decode cX11_loseImages 17 = .ok (.bastore, 1) := by decide +kernel
theorem dX11_loseImages_18 : decode cX11_loseImages 18 = .ok (.iinc 1 1, 3) := by decide +kernel
theorem dX11_loseImages_21 : decode cX11_loseImages 21 = .ok (.goto (-19), 3) := by decide +kernel
theorem dX11_loseImages_24 : decode cX11_loseImages 24 = .ok (.return_, 1) := by decide +kernel
theorem dX11_isCoordinate_0 : decode cX11_isCoordinate 0 = .ok (.iload_n 0, 1) := by decide +kernel
theorem dX11_isCoordinate_1 : decode cX11_isCoordinate 1 = .ok (.ifCond .lt 13, 3) := by decide +kernel
theorem dX11_isCoordinate_4 : decode cX11_isCoordinate 4 = .ok (.iload_n 0, 1) := by decide +kernel
theorem dX11_isCoordinate_5 : decode cX11_isCoordinate 5 = .ok (.bipush 6, 2) := by decide +kernel
theorem dX11_isCoordinate_7 : decode cX11_isCoordinate 7 = .ok (.if_icmp .ge 7, 3) := by decide +kernel
theorem dX11_isCoordinate_10 : decode cX11_isCoordinate 10 = .ok (.iconst 1, 1) := by decide +kernel
theorem dX11_isCoordinate_11 : decode cX11_isCoordinate 11 = .ok (.goto 4, 3) := by decide +kernel
theorem dX11_isCoordinate_14 : decode cX11_isCoordinate 14 = .ok (.iconst 0, 1) := by decide +kernel
theorem dX11_isCoordinate_15 : decode cX11_isCoordinate 15 = .ok (.ireturn, 1) := by decide +kernel
theorem dX11_isSide_0 : decode cX11_isSide 0 = .ok (.iload_n 0, 1) := by decide +kernel
theorem dX11_isSide_1 : decode cX11_isSide 1 = .ok (.ifCond .lt 12, 3) := by decide +kernel
theorem dX11_isSide_4 : decode cX11_isSide 4 = .ok (.iload_n 0, 1) := by decide +kernel
theorem dX11_isSide_5 : decode cX11_isSide 5 = .ok (.iconst 4, 1) := by decide +kernel
theorem dX11_isSide_6 : decode cX11_isSide 6 = .ok (.if_icmp .ge 7, 3) := by decide +kernel
theorem dX11_isSide_9 : decode cX11_isSide 9 = .ok (.iconst 1, 1) := by decide +kernel
theorem dX11_isSide_10 : decode cX11_isSide 10 = .ok (.goto 4, 3) := by decide +kernel
theorem dX11_isSide_13 : decode cX11_isSide 13 = .ok (.iconst 0, 1) := by decide +kernel
theorem dX11_isSide_14 : decode cX11_isSide 14 = .ok (.ireturn, 1) := by decide +kernel
theorem dX11_isTray_0 : decode cX11_isTray 0 = .ok (.iload_n 0, 1) := by decide +kernel
theorem dX11_isTray_1 : decode cX11_isTray 1 = .ok (.ifCond .lt 21, 3) := by decide +kernel
theorem dX11_isTray_4 : decode cX11_isTray 4 = .ok (.iload_n 0, 1) := by decide +kernel
theorem dX11_isTray_5 : decode cX11_isTray 5 = .ok (.iconst 5, 1) := by decide +kernel
theorem dX11_isTray_6 : decode cX11_isTray 6 = .ok (.if_icmp .ge 16, 3) := by decide +kernel
theorem dX11_isTray_9 : decode cX11_isTray 9 = .ok (.iload_n 1, 1) := by decide +kernel
theorem dX11_isTray_10 : decode cX11_isTray 10 = .ok (.ifCond .lt 12, 3) := by decide +kernel
theorem dX11_isTray_13 : decode cX11_isTray 13 = .ok (.iload_n 1, 1) := by decide +kernel
theorem dX11_isTray_14 : decode cX11_isTray 14 = .ok (.iconst 5, 1) := by decide +kernel
theorem dX11_isTray_15 : decode cX11_isTray 15 = .ok (.if_icmp .ge 7, 3) := by decide +kernel
theorem dX11_isTray_18 : decode cX11_isTray 18 = .ok (.iconst 1, 1) := by decide +kernel
theorem dX11_isTray_19 : decode cX11_isTray 19 = .ok (.goto 4, 3) := by decide +kernel
theorem dX11_isTray_22 : decode cX11_isTray 22 = .ok (.iconst 0, 1) := by decide +kernel
theorem dX11_isTray_23 : decode cX11_isTray 23 = .ok (.ireturn, 1) := by decide +kernel
theorem dX11_placeAt_0 : decode cX11_placeAt 0 = .ok (.iload_n 0, 1) := by decide +kernel
theorem dX11_placeAt_1 : decode cX11_placeAt 1 = .ok (.invokestatic 209, 3) := by decide +kernel
theorem dX11_placeAt_4 : decode cX11_placeAt 4 = .ok (.ifCond .eq 19, 3) := by decide +kernel
theorem dX11_placeAt_7 : decode cX11_placeAt 7 = .ok (.iload_n 1, 1) := by decide +kernel
theorem dX11_placeAt_8 : decode cX11_placeAt 8 = .ok (.invokestatic 209, 3) := by decide +kernel
theorem dX11_placeAt_11 : decode cX11_placeAt 11 = .ok (.ifCond .eq 12, 3) := by decide +kernel
theorem dX11_placeAt_14 : decode cX11_placeAt 14 = .ok (.iload_n 0, 1) := by decide +kernel
theorem dX11_placeAt_15 : decode cX11_placeAt 15 = .ok (.bipush 6, 2) := by decide +kernel
theorem dX11_placeAt_17 : decode cX11_placeAt 17 = .ok (.imul, 1) := by decide +kernel
theorem dX11_placeAt_18 : decode cX11_placeAt 18 = .ok (.iload_n 1, 1) := by decide +kernel
theorem dX11_placeAt_19 : decode cX11_placeAt 19 = .ok (.iadd, 1) := by decide +kernel
theorem dX11_placeAt_20 : decode cX11_placeAt 20 = .ok (.goto 5, 3) := by decide +kernel
theorem dX11_placeAt_23 : decode cX11_placeAt 23 = .ok (.bipush (-9), 2) := by decide +kernel
theorem dX11_placeAt_25 : decode cX11_placeAt 25 = .ok (.ireturn, 1) := by decide +kernel
theorem dX11_placeOfCell_0 : decode cX11_placeOfCell 0 = .ok (.iload_n 0, 1) := by decide +kernel
theorem dX11_placeOfCell_1 : decode cX11_placeOfCell 1 = .ok (.ifCond .ge 8, 3) := by decide +kernel
theorem dX11_placeOfCell_4 : decode cX11_placeOfCell 4 = .ok (.bipush (-9), 2) := by decide +kernel
theorem dX11_placeOfCell_6 : decode cX11_placeOfCell 6 = .ok (.goto 14, 3) := by decide +kernel
theorem dX11_placeOfCell_9 : decode cX11_placeOfCell 9 = .ok (.iload_n 0, 1) := by decide +kernel
theorem dX11_placeOfCell_10 : decode cX11_placeOfCell 10 = .ok (.bipush 10, 2) := by decide +kernel
theorem dX11_placeOfCell_12 : decode cX11_placeOfCell 12 = .ok (.idiv, 1) := by decide +kernel
theorem dX11_placeOfCell_13 : decode cX11_placeOfCell 13 = .ok (.iload_n 0, 1) := by decide +kernel
theorem dX11_placeOfCell_14 : decode cX11_placeOfCell 14 = .ok (.bipush 10, 2) := by decide +kernel
theorem dX11_placeOfCell_16 : decode cX11_placeOfCell 16 = .ok (.irem, 1) := by decide +kernel
theorem dX11_placeOfCell_17 : decode cX11_placeOfCell 17 = .ok (.invokestatic 274, 3) := by decide +kernel
theorem dX11_placeOfCell_20 : decode cX11_placeOfCell 20 = .ok (.ireturn, 1) := by decide +kernel
theorem dX11_cellOfPlace_0 : decode cX11_cellOfPlace 0 = .ok (.bipush 10, 2) := by decide +kernel
theorem dX11_cellOfPlace_2 : decode cX11_cellOfPlace 2 = .ok (.iload_n 0, 1) := by decide +kernel
theorem dX11_cellOfPlace_3 : decode cX11_cellOfPlace 3 = .ok (.bipush 6, 2) := by decide +kernel
theorem dX11_cellOfPlace_5 : decode cX11_cellOfPlace 5 = .ok (.idiv, 1) := by decide +kernel
theorem dX11_cellOfPlace_6 : decode cX11_cellOfPlace 6 = .ok (.imul, 1) := by decide +kernel
theorem dX11_cellOfPlace_7 : decode cX11_cellOfPlace 7 = .ok (.iload_n 0, 1) := by decide +kernel
theorem dX11_cellOfPlace_8 : decode cX11_cellOfPlace 8 = .ok (.bipush 6, 2) := by decide +kernel
theorem dX11_cellOfPlace_10 : decode cX11_cellOfPlace 10 = .ok (.irem, 1) := by decide +kernel
theorem dX11_cellOfPlace_11 : decode cX11_cellOfPlace 11 = .ok (.iadd, 1) := by decide +kernel
theorem dX11_cellOfPlace_12 : decode cX11_cellOfPlace 12 = .ok (.ireturn, 1) := by decide +kernel
theorem dX11_placeBeside_0 : decode cX11_placeBeside 0 = .ok (.iload_n 0, 1) := by decide +kernel
theorem dX11_placeBeside_1 : decode cX11_placeBeside 1 = .ok (.bipush 6, 2) := by decide +kernel
theorem dX11_placeBeside_3 : decode cX11_placeBeside 3 = .ok (.idiv, 1) := by decide +kernel
theorem dX11_placeBeside_4 : decode cX11_placeBeside 4 = .ok (.istore_n 2, 1) := by decide +kernel
theorem dX11_placeBeside_5 : decode cX11_placeBeside 5 = .ok (.iload_n 0, 1) := by decide +kernel
theorem dX11_placeBeside_6 : decode cX11_placeBeside 6 = .ok (.bipush 6, 2) := by decide +kernel
theorem dX11_placeBeside_8 : decode cX11_placeBeside 8 = .ok (.irem, 1) := by decide +kernel
theorem dX11_placeBeside_9 : decode cX11_placeBeside 9 = .ok (.istore_n 3, 1) := by decide +kernel
theorem dX11_placeBeside_10 : decode cX11_placeBeside 10 = .ok (.iload_n 1, 1) := by decide +kernel
theorem dX11_placeBeside_11 : decode cX11_placeBeside 11 = .ok (.tableswitch 49 0 2 #[25, 33, 41], 25) := by decide +kernel
theorem dX11_placeBeside_36 : decode cX11_placeBeside 36 = .ok (.iload_n 2, 1) := by decide +kernel
theorem dX11_placeBeside_37 : decode cX11_placeBeside 37 = .ok (.iconst 1, 1) := by decide +kernel
theorem dX11_placeBeside_38 : decode cX11_placeBeside 38 = .ok (.isub, 1) := by decide +kernel
theorem dX11_placeBeside_39 : decode cX11_placeBeside 39 = .ok (.iload_n 3, 1) := by decide +kernel
theorem dX11_placeBeside_40 : decode cX11_placeBeside 40 = .ok (.invokestatic 274, 3) := by decide +kernel
theorem dX11_placeBeside_43 : decode cX11_placeBeside 43 = .ok (.ireturn, 1) := by decide +kernel
theorem dX11_placeBeside_44 : decode cX11_placeBeside 44 = .ok (.iload_n 2, 1) := by decide +kernel
theorem dX11_placeBeside_45 : decode cX11_placeBeside 45 = .ok (.iconst 1, 1) := by decide +kernel
theorem dX11_placeBeside_46 : decode cX11_placeBeside 46 = .ok (.iadd, 1) := by decide +kernel
theorem dX11_placeBeside_47 : decode cX11_placeBeside 47 = .ok (.iload_n 3, 1) := by decide +kernel
theorem dX11_placeBeside_48 : decode cX11_placeBeside 48 = .ok (.invokestatic 274, 3) := by decide +kernel
theorem dX11_placeBeside_51 : decode cX11_placeBeside 51 = .ok (.ireturn, 1) := by decide +kernel
theorem dX11_placeBeside_52 : decode cX11_placeBeside 52 = .ok (.iload_n 2, 1) := by decide +kernel
theorem dX11_placeBeside_53 : decode cX11_placeBeside 53 = .ok (.iload_n 3, 1) := by decide +kernel
theorem dX11_placeBeside_54 : decode cX11_placeBeside 54 = .ok (.iconst 1, 1) := by decide +kernel
theorem dX11_placeBeside_55 : decode cX11_placeBeside 55 = .ok (.isub, 1) := by decide +kernel
theorem dX11_placeBeside_56 : decode cX11_placeBeside 56 = .ok (.invokestatic 274, 3) := by decide +kernel
theorem dX11_placeBeside_59 : decode cX11_placeBeside 59 = .ok (.ireturn, 1) := by decide +kernel
theorem dX11_placeBeside_60 : decode cX11_placeBeside 60 = .ok (.iload_n 2, 1) := by decide +kernel
theorem dX11_placeBeside_61 : decode cX11_placeBeside 61 = .ok (.iload_n 3, 1) := by decide +kernel
theorem dX11_placeBeside_62 : decode cX11_placeBeside 62 = .ok (.iconst 1, 1) := by decide +kernel
theorem dX11_placeBeside_63 : decode cX11_placeBeside 63 = .ok (.iadd, 1) := by decide +kernel
theorem dX11_placeBeside_64 : decode cX11_placeBeside 64 = .ok (.invokestatic 274, 3) := by decide +kernel
theorem dX11_placeBeside_67 : decode cX11_placeBeside 67 = .ok (.ireturn, 1) := by decide +kernel
theorem dX11_peopleAt_0 : decode cX11_peopleAt 0 = .ok (.iconst 0, 1) := by decide +kernel
theorem dX11_peopleAt_1 : decode cX11_peopleAt 1 = .ok (.istore_n 2, 1) := by decide +kernel
theorem dX11_peopleAt_2 : decode cX11_peopleAt 2 = .ok (.iconst 0, 1) := by decide +kernel
theorem dX11_peopleAt_3 : decode cX11_peopleAt 3 = .ok (.istore_n 3, 1) := by decide +kernel
theorem dX11_peopleAt_4 : decode cX11_peopleAt 4 = .ok (.iload_n 3, 1) := by decide +kernel
theorem dX11_peopleAt_5 : decode cX11_peopleAt 5 = .ok (.aload_n 0, 1) := by decide +kernel
theorem dX11_peopleAt_6 : decode cX11_peopleAt 6 = .ok (.getfield 19, 3) := by decide +kernel
theorem dX11_peopleAt_9 : decode cX11_peopleAt 9 = .ok (.getfield 257, 3) := by decide +kernel
theorem dX11_peopleAt_12 : decode cX11_peopleAt 12 = .ok (.if_icmp .ge 27, 3) := by decide +kernel
theorem dX11_peopleAt_15 : decode cX11_peopleAt 15 = .ok (.aload_n 0, 1) := by decide +kernel
theorem dX11_peopleAt_16 : decode cX11_peopleAt 16 = .ok (.getfield 26, 3) := by decide +kernel
theorem dX11_peopleAt_19 : decode cX11_peopleAt 19 = .ok (.iload_n 3, 1) := by decide +kernel
theorem dX11_peopleAt_20 : decode cX11_peopleAt 20 = .ok (.invokevirtual 139, 3) := by decide +kernel
theorem dX11_peopleAt_23 : decode cX11_peopleAt 23 = .ok (.iload_n 1, 1) := by decide +kernel
theorem dX11_peopleAt_24 : decode cX11_peopleAt 24 = .ok (.if_icmp .ne 9, 3) := by decide +kernel
theorem dX11_peopleAt_27 : decode cX11_peopleAt 27 = .ok (.iload_n 2, 1) := by decide +kernel
theorem dX11_peopleAt_28 : decode cX11_peopleAt 28 = .ok (.iconst 1, 1) := by decide +kernel
theorem dX11_peopleAt_29 : decode cX11_peopleAt 29 = .ok (.iload_n 3, 1) := by decide +kernel
theorem dX11_peopleAt_30 : decode cX11_peopleAt 30 = .ok (.ishl, 1) := by decide +kernel
theorem dX11_peopleAt_31 : decode cX11_peopleAt 31 = .ok (.ior, 1) := by decide +kernel
theorem dX11_peopleAt_32 : decode cX11_peopleAt 32 = .ok (.istore_n 2, 1) := by decide +kernel
theorem dX11_peopleAt_33 : decode cX11_peopleAt 33 = .ok (.iinc 3 1, 3) := by decide +kernel
theorem dX11_peopleAt_36 : decode cX11_peopleAt 36 = .ok (.goto (-32), 3) := by decide +kernel
theorem dX11_peopleAt_39 : decode cX11_peopleAt 39 = .ok (.iload_n 2, 1) := by decide +kernel
theorem dX11_peopleAt_40 : decode cX11_peopleAt 40 = .ok (.ireturn, 1) := by decide +kernel
theorem dX11_rainsUntilGone_0 : decode cX11_rainsUntilGone 0 = .ok (.aload_n 0, 1) := by decide +kernel
theorem dX11_rainsUntilGone_1 : decode cX11_rainsUntilGone 1 = .ok (.getfield 19, 3) := by decide +kernel
theorem dX11_rainsUntilGone_4 : decode cX11_rainsUntilGone 4 = .ok (.getfield 193, 3) := by decide +kernel
theorem dX11_rainsUntilGone_7 : decode cX11_rainsUntilGone 7 = .ok (.istore_n 2, 1) := by decide +kernel
theorem dX11_rainsUntilGone_8 : decode cX11_rainsUntilGone 8 = .ok (.iload_n 2, 1) := by decide +kernel
theorem dX11_rainsUntilGone_9 : decode cX11_rainsUntilGone 9 = .ok (.iconst 1, 1) := by decide +kernel
theorem dX11_rainsUntilGone_10 : decode cX11_rainsUntilGone 10 = .ok (.if_icmp .ge 5, 3) := by decide +kernel
theorem dX11_rainsUntilGone_13 : decode cX11_rainsUntilGone 13 = .ok (.iconst 0, 1) := by decide +kernel
theorem dX11_rainsUntilGone_14 : decode cX11_rainsUntilGone 14 = .ok (.ireturn, 1) := by decide +kernel
theorem dX11_rainsUntilGone_15 : decode cX11_rainsUntilGone 15 = .ok (.aload_n 0, 1) := by decide +kernel
theorem dX11_rainsUntilGone_16 : decode cX11_rainsUntilGone 16 = .ok (.getfield 26, 3) := by decide +kernel
theorem dX11_rainsUntilGone_19 : decode cX11_rainsUntilGone 19 = .ok (.iload_n 1, 1) := by decide +kernel
theorem dX11_rainsUntilGone_20 : decode cX11_rainsUntilGone 20 = .ok (.invokevirtual 123, 3) := by decide +kernel
theorem dX11_rainsUntilGone_23 : decode cX11_rainsUntilGone 23 = .ok (.iload_n 2, 1) := by decide +kernel
theorem dX11_rainsUntilGone_24 : decode cX11_rainsUntilGone 24 = .ok (.iadd, 1) := by decide +kernel
theorem dX11_rainsUntilGone_25 : decode cX11_rainsUntilGone 25 = .ok (.iconst 1, 1) := by decide +kernel
theorem dX11_rainsUntilGone_26 : decode cX11_rainsUntilGone 26 = .ok (.isub, 1) := by decide +kernel
theorem dX11_rainsUntilGone_27 : decode cX11_rainsUntilGone 27 = .ok (.iload_n 2, 1) := by decide +kernel
theorem dX11_rainsUntilGone_28 : decode cX11_rainsUntilGone 28 = .ok (.idiv, 1) := by decide +kernel
theorem dX11_rainsUntilGone_29 : decode cX11_rainsUntilGone 29 = .ok (.ireturn, 1) := by decide +kernel
theorem dX11_wouldPass_0 : decode cX11_wouldPass 0 = .ok (.iconst 0, 1) := by decide +kernel
theorem dX11_wouldPass_1 : decode cX11_wouldPass 1 = .ok (.istore_n 2, 1) := by decide +kernel
theorem dX11_wouldPass_2 : decode cX11_wouldPass 2 = .ok (.iconst 0, 1) := by decide +kernel
theorem dX11_wouldPass_3 : decode cX11_wouldPass 3 = .ok (.istore_n 3, 1) := by decide +kernel
theorem dX11_wouldPass_4 : decode cX11_wouldPass 4 = .ok (.iload_n 3, 1) := by decide +kernel
theorem dX11_wouldPass_5 : decode cX11_wouldPass 5 = .ok (.aload_n 0, 1) := by decide +kernel
theorem dX11_wouldPass_6 : decode cX11_wouldPass 6 = .ok (.getfield 19, 3) := by decide +kernel
theorem dX11_wouldPass_9 : decode cX11_wouldPass 9 = .ok (.getfield 257, 3) := by decide +kernel
theorem dX11_wouldPass_12 : decode cX11_wouldPass 12 = .ok (.if_icmp .ge 59, 3) := by decide +kernel
theorem dX11_wouldPass_15 : decode cX11_wouldPass 15 = .ok (.aload_n 0, 1) := by decide +kernel
theorem dX11_wouldPass_16 : decode cX11_wouldPass 16 = .ok (.getfield 26, 3) := by decide +kernel
theorem dX11_wouldPass_19 : decode cX11_wouldPass 19 = .ok (.iload_n 3, 1) := by decide +kernel
theorem dX11_wouldPass_20 : decode cX11_wouldPass 20 = .ok (.invokevirtual 139, 3) := by decide +kernel
theorem dX11_wouldPass_23 : decode cX11_wouldPass 23 = .ok (.bipush 6, 2) := by decide +kernel
theorem dX11_wouldPass_25 : decode cX11_wouldPass 25 = .ok (.idiv, 1) := by decide +kernel
theorem dX11_wouldPass_26 : decode cX11_wouldPass 26 = .ok (.istore 4, 2) := by decide +kernel
theorem dX11_wouldPass_28 : decode cX11_wouldPass 28 = .ok (.iload 4, 2) := by decide +kernel
theorem dX11_wouldPass_30 : decode cX11_wouldPass 30 = .ok (.iload_n 1, 1) := by decide +kernel
theorem dX11_wouldPass_31 : decode cX11_wouldPass 31 = .ok (.if_icmp .ge 17, 3) := by decide +kernel
theorem dX11_wouldPass_34 : decode cX11_wouldPass 34 = .ok (.iload_n 2, 1) := by decide +kernel
theorem dX11_wouldPass_35 : decode cX11_wouldPass 35 = .ok (.aload_n 0, 1) := by decide +kernel
theorem dX11_wouldPass_36 : decode cX11_wouldPass 36 = .ok (.getfield 19, 3) := by decide +kernel
theorem dX11_wouldPass_39 : decode cX11_wouldPass 39 = .ok (.iload_n 3, 1) := by decide +kernel
theorem dX11_wouldPass_40 : decode cX11_wouldPass 40 = .ok (.invokevirtual 148, 3) := by decide +kernel
theorem dX11_wouldPass_43 : decode cX11_wouldPass 43 = .ok (.iadd, 1) := by decide +kernel
theorem dX11_wouldPass_44 : decode cX11_wouldPass 44 = .ok (.istore_n 2, 1) := by decide +kernel
theorem dX11_wouldPass_45 : decode cX11_wouldPass 45 = .ok (.goto 20, 3) := by decide +kernel
theorem dX11_wouldPass_48 : decode cX11_wouldPass 48 = .ok (.iload 4, 2) := by decide +kernel
theorem dX11_wouldPass_50 : decode cX11_wouldPass 50 = .ok (.iload_n 1, 1) := by decide +kernel
theorem dX11_wouldPass_51 : decode cX11_wouldPass 51 = .ok (.if_icmp .le 14, 3) := by decide +kernel
theorem dX11_wouldPass_54 : decode cX11_wouldPass 54 = .ok (.iload_n 2, 1) := by decide +kernel
theorem dX11_wouldPass_55 : decode cX11_wouldPass 55 = .ok (.aload_n 0, 1) := by decide +kernel
theorem dX11_wouldPass_56 : decode cX11_wouldPass 56 = .ok (.getfield 19, 3) := by decide +kernel
theorem dX11_wouldPass_59 : decode cX11_wouldPass 59 = .ok (.iload_n 3, 1) := by decide +kernel
theorem dX11_wouldPass_60 : decode cX11_wouldPass 60 = .ok (.invokevirtual 148, 3) := by decide +kernel
theorem dX11_wouldPass_63 : decode cX11_wouldPass 63 = .ok (.isub, 1) := by decide +kernel
theorem dX11_wouldPass_64 : decode cX11_wouldPass 64 = .ok (.istore_n 2, 1) := by decide +kernel
theorem dX11_wouldPass_65 : decode cX11_wouldPass 65 = .ok (.iinc 3 1, 3) := by decide +kernel
theorem dX11_wouldPass_68 : decode cX11_wouldPass 68 = .ok (.goto (-64), 3) := by decide +kernel
theorem dX11_wouldPass_71 : decode cX11_wouldPass 71 = .ok (.iload_n 2, 1) := by decide +kernel
theorem dX11_wouldPass_72 : decode cX11_wouldPass 72 = .ok (.ifCond .le 7, 3) := by decide +kernel
theorem dX11_wouldPass_75 : decode cX11_wouldPass 75 = .ok (.iconst 1, 1) := by decide +kernel
theorem dX11_wouldPass_76 : decode cX11_wouldPass 76 = .ok (.goto 4, 3) := by decide +kernel
theorem dX11_wouldPass_79 : decode cX11_wouldPass 79 = .ok (.iconst 0, 1) := by decide +kernel
theorem dX11_wouldPass_80 : decode cX11_wouldPass 80 = .ok (.ireturn, 1) := by decide +kernel
theorem dX11_passingLines_0 : decode cX11_passingLines 0 = .ok (.iconst 0, 1) := by decide +kernel
theorem dX11_passingLines_1 : decode cX11_passingLines 1 = .ok (.istore_n 1, 1) := by decide +kernel
theorem dX11_passingLines_2 : decode cX11_passingLines 2 = .ok (.iconst 0, 1) := by decide +kernel
theorem dX11_passingLines_3 : decode cX11_passingLines 3 = .ok (.istore_n 2, 1) := by decide +kernel
theorem dX11_passingLines_4 : decode cX11_passingLines 4 = .ok (.iload_n 2, 1) := by decide +kernel
theorem dX11_passingLines_5 : decode cX11_passingLines 5 = .ok (.bipush 6, 2) := by decide +kernel
theorem dX11_passingLines_7 : decode cX11_passingLines 7 = .ok (.if_icmp .ge 23, 3) := by decide +kernel
theorem dX11_passingLines_10 : decode cX11_passingLines 10 = .ok (.aload_n 0, 1) := by decide +kernel
theorem dX11_passingLines_11 : decode cX11_passingLines 11 = .ok (.iload_n 2, 1) := by decide +kernel
theorem dX11_passingLines_12 : decode cX11_passingLines 12 = .ok (.invokevirtual 212, 3) := by decide +kernel
theorem dX11_passingLines_15 : decode cX11_passingLines 15 = .ok (.ifCond .eq 9, 3) := by decide +kernel
theorem dX11_passingLines_18 : decode cX11_passingLines 18 = .ok (.iload_n 1, 1) := by decide +kernel
theorem dX11_passingLines_19 : decode cX11_passingLines 19 = .ok (.iconst 1, 1) := by decide +kernel
theorem dX11_passingLines_20 : decode cX11_passingLines 20 = .ok (.iload_n 2, 1) := by decide +kernel
theorem dX11_passingLines_21 : decode cX11_passingLines 21 = .ok (.ishl, 1) := by decide +kernel
theorem dX11_passingLines_22 : decode cX11_passingLines 22 = .ok (.ior, 1) := by decide +kernel
theorem dX11_passingLines_23 : decode cX11_passingLines 23 = .ok (.istore_n 1, 1) := by decide +kernel
theorem dX11_passingLines_24 : decode cX11_passingLines 24 = .ok (.iinc 2 1, 3) := by decide +kernel
theorem dX11_passingLines_27 : decode cX11_passingLines 27 = .ok (.goto (-23), 3) := by decide +kernel
theorem dX11_passingLines_30 : decode cX11_passingLines 30 = .ok (.iload_n 1, 1) := by decide +kernel
theorem dX11_passingLines_31 : decode cX11_passingLines 31 = .ok (.ireturn, 1) := by decide +kernel
theorem dX11_widestClear_0 : decode cX11_widestClear 0 = .ok (.bipush 6, 2) := by decide +kernel
theorem dX11_widestClear_2 : decode cX11_widestClear 2 = .ok (.istore_n 1, 1) := by decide +kernel
theorem dX11_widestClear_3 : decode cX11_widestClear 3 = .ok (.iload_n 1, 1) := by decide +kernel
theorem dX11_widestClear_4 : decode cX11_widestClear 4 = .ok (.ifCond .le 21, 3) := by decide +kernel
theorem dX11_widestClear_7 : decode cX11_widestClear 7 = .ok (.aload_n 0, 1) := by decide +kernel
theorem dX11_widestClear_8 : decode cX11_widestClear 8 = .ok (.iload_n 1, 1) := by decide +kernel
theorem dX11_widestClear_9 : decode cX11_widestClear 9 = .ok (.invokevirtual 169, 3) := by decide +kernel
theorem dX11_widestClear_12 : decode cX11_widestClear 12 = .ok (.bipush (-9), 2) := by decide +kernel
theorem dX11_widestClear_14 : decode cX11_widestClear 14 = .ok (.if_icmp .eq 5, 3) := by decide +kernel
theorem dX11_widestClear_17 : decode cX11_widestClear 17 = .ok (.iload_n 1, 1) := by decide +kernel
theorem dX11_widestClear_18 : decode cX11_widestClear 18 = .ok (.ireturn, 1) := by decide +kernel
theorem dX11_widestClear_19 : decode cX11_widestClear 19 = .ok (.iinc 1 (-1), 3) := by decide +kernel
theorem dX11_widestClear_22 : decode cX11_widestClear 22 = .ok (.goto (-19), 3) := by decide +kernel
theorem dX11_widestClear_25 : decode cX11_widestClear 25 = .ok (.iconst 0, 1) := by decide +kernel
theorem dX11_widestClear_26 : decode cX11_widestClear 26 = .ok (.ireturn, 1) := by decide +kernel
theorem dX11_clearSquare_0 : decode cX11_clearSquare 0 = .ok (.iload_n 1, 1) := by decide +kernel
theorem dX11_clearSquare_1 : decode cX11_clearSquare 1 = .ok (.iconst 1, 1) := by decide +kernel
theorem dX11_clearSquare_2 : decode cX11_clearSquare 2 = .ok (.if_icmp .ge 6, 3) := by decide +kernel
theorem dX11_clearSquare_5 : decode cX11_clearSquare 5 = .ok (.bipush (-9), 2) := by decide +kernel
theorem dX11_clearSquare_7 : decode cX11_clearSquare 7 = .ok (.ireturn, 1) := by decide +kernel
theorem dX11_clearSquare_8 : decode cX11_clearSquare 8 = .ok (.iconst 0, 1) := by decide +kernel
theorem dX11_clearSquare_9 : decode cX11_clearSquare 9 = .ok (.istore_n 2, 1) := by decide +kernel
theorem dX11_clearSquare_10 : decode cX11_clearSquare 10 = .ok (.iload_n 2, 1) := by decide +kernel
theorem dX11_clearSquare_11 : decode cX11_clearSquare 11 = .ok (.iload_n 1, 1) := by decide +kernel
theorem dX11_clearSquare_12 : decode cX11_clearSquare 12 = .ok (.iadd, 1) := by decide +kernel
theorem dX11_clearSquare_13 : decode cX11_clearSquare 13 = .ok (.bipush 6, 2) := by decide +kernel
theorem dX11_clearSquare_15 : decode cX11_clearSquare 15 = .ok (.if_icmp .gt 45, 3) := by decide +kernel
theorem dX11_clearSquare_18 : decode cX11_clearSquare 18 = .ok (.iconst 0, 1) := by decide +kernel
theorem dX11_clearSquare_19 : decode cX11_clearSquare 19 = .ok (.istore_n 3, 1) := by decide +kernel
theorem dX11_clearSquare_20 : decode cX11_clearSquare 20 = .ok (.iload_n 3, 1) := by decide +kernel
theorem dX11_clearSquare_21 : decode cX11_clearSquare 21 = .ok (.iload_n 1, 1) := by decide +kernel
theorem dX11_clearSquare_22 : decode cX11_clearSquare 22 = .ok (.iadd, 1) := by decide +kernel
theorem dX11_clearSquare_23 : decode cX11_clearSquare 23 = .ok (.bipush 6, 2) := by decide +kernel
theorem dX11_clearSquare_25 : decode cX11_clearSquare 25 = .ok (.if_icmp .gt 29, 3) := by decide +kernel
theorem dX11_clearSquare_28 : decode cX11_clearSquare 28 = .ok (.aload_n 0, 1) := by decide +kernel
theorem dX11_clearSquare_29 : decode cX11_clearSquare 29 = .ok (.getfield 26, 3) := by decide +kernel
theorem dX11_clearSquare_32 : decode cX11_clearSquare 32 = .ok (.iload_n 2, 1) := by decide +kernel
theorem dX11_clearSquare_33 : decode cX11_clearSquare 33 = .ok (.iload_n 3, 1) := by decide +kernel
theorem dX11_clearSquare_34 : decode cX11_clearSquare 34 = .ok (.iload_n 1, 1) := by decide +kernel
theorem dX11_clearSquare_35 : decode cX11_clearSquare 35 = .ok (.invokevirtual 277, 3) := by decide +kernel
theorem dX11_clearSquare_38 : decode cX11_clearSquare 38 = .ok (.ifCond .eq 10, 3) := by decide +kernel
theorem dX11_clearSquare_41 : decode cX11_clearSquare 41 = .ok (.bipush 10, 2) := by decide +kernel
theorem dX11_clearSquare_43 : decode cX11_clearSquare 43 = .ok (.iload_n 2, 1) := by decide +kernel
theorem dX11_clearSquare_44 : decode cX11_clearSquare 44 = .ok (.imul, 1) := by decide +kernel
theorem dX11_clearSquare_45 : decode cX11_clearSquare 45 = .ok (.iload_n 3, 1) := by decide +kernel
theorem dX11_clearSquare_46 : decode cX11_clearSquare 46 = .ok (.iadd, 1) := by decide +kernel
theorem dX11_clearSquare_47 : decode cX11_clearSquare 47 = .ok (.ireturn, 1) := by decide +kernel
theorem dX11_clearSquare_48 : decode cX11_clearSquare 48 = .ok (.iinc 3 1, 3) := by decide +kernel
theorem dX11_clearSquare_51 : decode cX11_clearSquare 51 = .ok (.goto (-31), 3) := by decide +kernel
theorem dX11_clearSquare_54 : decode cX11_clearSquare 54 = .ok (.iinc 2 1, 3) := by decide +kernel
theorem dX11_clearSquare_57 : decode cX11_clearSquare 57 = .ok (.goto (-47), 3) := by decide +kernel
theorem dX11_clearSquare_60 : decode cX11_clearSquare 60 = .ok (.bipush (-9), 2) := by decide +kernel
theorem dX11_clearSquare_62 : decode cX11_clearSquare 62 = .ok (.ireturn, 1) := by decide +kernel
theorem dX11_seekBest_0 : decode cX11_seekBest 0 = .ok (.iconst 0, 1) := by decide +kernel
theorem dX11_seekBest_1 : decode cX11_seekBest 1 = .ok (.istore_n 2, 1) := by decide +kernel
theorem dX11_seekBest_2 : decode cX11_seekBest 2 = .ok (.iload_n 2, 1) := by decide +kernel
theorem dX11_seekBest_3 : decode cX11_seekBest 3 = .ok (.aload_n 0, 1) := by decide +kernel
theorem dX11_seekBest_4 : decode cX11_seekBest 4 = .ok (.getfield 58, 3) := by decide +kernel
theorem dX11_seekBest_7 : decode cX11_seekBest 7 = .ok (.arraylength, 1) := by decide +kernel
theorem dX11_seekBest_8 : decode cX11_seekBest 8 = .ok (.if_icmp .ge 28, 3) := by decide +kernel
theorem dX11_seekBest_11 : decode cX11_seekBest 11 = .ok (.aload_n 0, 1) := by decide +kernel
theorem dX11_seekBest_12 : decode cX11_seekBest 12 = .ok (.getfield 58, 3) := by decide +kernel
theorem dX11_seekBest_15 : decode cX11_seekBest 15 = .ok (.iload_n 2, 1) := by decide +kernel
theorem dX11_seekBest_16 : decode cX11_seekBest 16 = .ok (.aload_n 0, 1) := by decide +kernel
theorem dX11_seekBest_17 : decode cX11_seekBest 17 = .ok (.getfield 26, 3) := by decide +kernel
theorem dX11_seekBest_20 : decode cX11_seekBest 20 = .ok (.iload_n 2, 1) := by decide +kernel
theorem dX11_seekBest_21 : decode cX11_seekBest 21 = .ok (.iconst 5, 1) := by decide +kernel
theorem dX11_seekBest_22 : decode cX11_seekBest 22 = .ok (.idiv, 1) := by decide +kernel
theorem dX11_seekBest_23 : decode cX11_seekBest 23 = .ok (.iload_n 2, 1) := by decide +kernel
theorem dX11_seekBest_24 : decode cX11_seekBest 24 = .ok (.iconst 5, 1) := by decide +kernel
theorem dX11_seekBest_25 : decode cX11_seekBest 25 = .ok (.irem, 1) := by decide +kernel
theorem dX11_seekBest_26 : decode cX11_seekBest 26 = .ok (.invokevirtual 203, 3) := by decide +kernel
theorem dX11_seekBest_29 : decode cX11_seekBest 29 = .ok (.iastore, 1) := by decide +kernel
theorem dX11_seekBest_30 : decode cX11_seekBest 30 = .ok (.iinc 2 1, 3) := by decide +kernel
theorem dX11_seekBest_33 : decode cX11_seekBest 33 = .ok (.goto (-31), 3) := by decide +kernel
theorem dX11_seekBest_36 : decode cX11_seekBest 36 = .ok (.aload_n 0, 1) := by decide +kernel
theorem dX11_seekBest_37 : decode cX11_seekBest 37 = .ok (.iconst (-1), 1) := by decide +kernel
theorem dX11_seekBest_38 : decode cX11_seekBest 38 = .ok (.putfield 228, 3) := by decide +kernel
theorem dX11_seekBest_41 : decode cX11_seekBest 41 = .ok (.iconst 0, 1) := by decide +kernel
theorem dX11_seekBest_42 : decode cX11_seekBest 42 = .ok (.istore_n 2, 1) := by decide +kernel
theorem dX11_seekBest_43 : decode cX11_seekBest 43 = .ok (.iload_n 2, 1) := by decide +kernel
theorem dX11_seekBest_44 : decode cX11_seekBest 44 = .ok (.bipush 25, 2) := by decide +kernel
theorem dX11_seekBest_46 : decode cX11_seekBest 46 = .ok (.if_icmp .ge 32, 3) := by decide +kernel
theorem dX11_seekBest_49 : decode cX11_seekBest 49 = .ok (.iload_n 1, 1) := by decide +kernel
theorem dX11_seekBest_50 : decode cX11_seekBest 50 = .ok (.iconst 1, 1) := by decide +kernel
theorem dX11_seekBest_51 : decode cX11_seekBest 51 = .ok (.if_icmp .ne 15, 3) := by decide +kernel
theorem dX11_seekBest_54 : decode cX11_seekBest 54 = .ok (.aload_n 0, 1) := by decide +kernel
theorem dX11_seekBest_55 : decode cX11_seekBest 55 = .ok (.iload_n 2, 1) := by decide +kernel
theorem dX11_seekBest_56 : decode cX11_seekBest 56 = .ok (.bipush (-9), 2) := by decide +kernel
theorem dX11_seekBest_58 : decode cX11_seekBest 58 = .ok (.bipush (-9), 2) := by decide +kernel
theorem dX11_seekBest_60 : decode cX11_seekBest 60 = .ok (.invokevirtual 281, 3) := by decide +kernel
theorem dX11_seekBest_63 : decode cX11_seekBest 63 = .ok (.goto 9, 3) := by decide +kernel
theorem dX11_seekBest_66 : decode cX11_seekBest 66 = .ok (.aload_n 0, 1) := by decide +kernel
theorem dX11_seekBest_67 : decode cX11_seekBest 67 = .ok (.iload_n 1, 1) := by decide +kernel
theorem dX11_seekBest_68 : decode cX11_seekBest 68 = .ok (.iload_n 2, 1) := by decide +kernel
theorem dX11_seekBest_69 : decode cX11_seekBest 69 = .ok (.invokevirtual 285, 3) := by decide +kernel
theorem dX11_seekBest_72 : decode cX11_seekBest 72 = .ok (.iinc 2 1, 3) := by decide +kernel
theorem dX11_seekBest_75 : decode cX11_seekBest 75 = .ok (.goto (-32), 3) := by decide +kernel
theorem dX11_seekBest_78 : decode cX11_seekBest 78 = .ok (.return_, 1) := by decide +kernel
theorem dX11_seekBehind_0 : decode cX11_seekBehind 0 = .ok (.iload_n 2, 1) := by decide +kernel
theorem dX11_seekBehind_1 : decode cX11_seekBehind 1 = .ok (.iconst 1, 1) := by decide +kernel
theorem dX11_seekBehind_2 : decode cX11_seekBehind 2 = .ok (.iadd, 1) := by decide +kernel
theorem dX11_seekBehind_3 : decode cX11_seekBehind 3 = .ok (.istore_n 3, 1) := by decide +kernel
theorem dX11_seekBehind_4 : decode cX11_seekBehind 4 = .ok (.iload_n 3, 1) := by decide +kernel
theorem dX11_seekBehind_5 : decode cX11_seekBehind 5 = .ok (.bipush 25, 2) := by decide +kernel
theorem dX11_seekBehind_7 : decode cX11_seekBehind 7 = .ok (.if_icmp .ge 80, 3) := by decide +kernel
theorem dX11_seekBehind_10 : decode cX11_seekBehind 10 = .ok (.iload_n 2, 1) := by decide +kernel
theorem dX11_seekBehind_11 : decode cX11_seekBehind 11 = .ok (.iload_n 3, 1) := by decide +kernel
theorem dX11_seekBehind_12 : decode cX11_seekBehind 12 = .ok (.invokestatic 288, 3) := by decide +kernel
theorem dX11_seekBehind_15 : decode cX11_seekBehind 15 = .ok (.ifCond .ne 6, 3) := by decide +kernel
theorem dX11_seekBehind_18 : decode cX11_seekBehind 18 = .ok (.goto 63, 3) := by decide +kernel
theorem dX11_seekBehind_21 : decode cX11_seekBehind 21 = .ok (.iload_n 1, 1) := by decide +kernel
theorem dX11_seekBehind_22 : decode cX11_seekBehind 22 = .ok (.iconst 2, 1) := by decide +kernel
theorem dX11_seekBehind_23 : decode cX11_seekBehind 23 = .ok (.if_icmp .ne 14, 3) := by decide +kernel
theorem dX11_seekBehind_26 : decode cX11_seekBehind 26 = .ok (.aload_n 0, 1) := by decide +kernel
theorem dX11_seekBehind_27 : decode cX11_seekBehind 27 = .ok (.iload_n 2, 1) := by decide +kernel
theorem dX11_seekBehind_28 : decode cX11_seekBehind 28 = .ok (.iload_n 3, 1) := by decide +kernel
theorem dX11_seekBehind_29 : decode cX11_seekBehind 29 = .ok (.bipush (-9), 2) := by decide +kernel
theorem dX11_seekBehind_31 : decode cX11_seekBehind 31 = .ok (.invokevirtual 281, 3) := by decide +kernel
theorem dX11_seekBehind_34 : decode cX11_seekBehind 34 = .ok (.goto 47, 3) := by decide +kernel
theorem dX11_seekBehind_37 : decode cX11_seekBehind 37 = .ok (.iload_n 3, 1) := by decide +kernel
theorem dX11_seekBehind_38 : decode cX11_seekBehind 38 = .ok (.iconst 1, 1) := by decide +kernel
theorem dX11_seekBehind_39 : decode cX11_seekBehind 39 = .ok (.iadd, 1) := by decide +kernel
theorem dX11_seekBehind_40 : decode cX11_seekBehind 40 = .ok (.istore 4, 2) := by decide +kernel
theorem dX11_seekBehind_42 : decode cX11_seekBehind 42 = .ok (.iload 4, 2) := by decide +kernel
theorem dX11_seekBehind_44 : decode cX11_seekBehind 44 = .ok (.bipush 25, 2) := by decide +kernel
theorem dX11_seekBehind_46 : decode cX11_seekBehind 46 = .ok (.if_icmp .ge 35, 3) := by decide +kernel
theorem dX11_seekBehind_49 : decode cX11_seekBehind 49 = .ok (.iload_n 2, 1) := by decide +kernel
theorem dX11_seekBehind_50 : decode cX11_seekBehind 50 = .ok (.iload 4, 2) := by decide +kernel
theorem dX11_seekBehind_52 : decode cX11_seekBehind 52 = .ok (.invokestatic 288, 3) := by decide +kernel
theorem dX11_seekBehind_55 : decode cX11_seekBehind 55 = .ok (.ifCond .eq 20, 3) := by decide +kernel
theorem dX11_seekBehind_58 : decode cX11_seekBehind 58 = .ok (.iload_n 3, 1) := by decide +kernel
theorem dX11_seekBehind_59 : decode cX11_seekBehind 59 = .ok (.iload 4, 2) := by decide +kernel
theorem dX11_seekBehind_61 : decode cX11_seekBehind 61 = .ok (.invokestatic 288, 3) := by decide +kernel
theorem dX11_seekBehind_64 : decode cX11_seekBehind 64 = .ok (.ifCond .eq 11, 3) := by decide +kernel
theorem dX11_seekBehind_67 : decode cX11_seekBehind 67 = .ok (.aload_n 0, 1) := by decide +kernel
theorem dX11_seekBehind_68 : decode cX11_seekBehind 68 = .ok (.iload_n 2, 1) := by decide +kernel
theorem dX11_seekBehind_69 : decode cX11_seekBehind 69 = .ok (.iload_n 3, 1) := by decide +kernel
theorem dX11_seekBehind_70 : decode cX11_seekBehind 70 = .ok (.iload 4, 2) := by decide +kernel
theorem dX11_seekBehind_72 : decode cX11_seekBehind 72 = .ok (.invokevirtual 281, 3) := by decide +kernel
theorem dX11_seekBehind_75 : decode cX11_seekBehind 75 = .ok (.iinc 4 1, 3) := by decide +kernel
theorem dX11_seekBehind_78 : decode cX11_seekBehind 78 = .ok (.goto (-36), 3) := by decide +kernel
theorem dX11_seekBehind_81 : decode cX11_seekBehind 81 = .ok (.iinc 3 1, 3) := by decide +kernel
theorem dX11_seekBehind_84 : decode cX11_seekBehind 84 = .ok (.goto (-80), 3) := by decide +kernel
theorem dX11_seekBehind_87 : decode cX11_seekBehind 87 = .ok (.return_, 1) := by decide +kernel
theorem dX11_areApart_0 : decode cX11_areApart 0 = .ok (.iload_n 0, 1) := by decide +kernel
theorem dX11_areApart_1 : decode cX11_areApart 1 = .ok (.iconst 5, 1) := by decide +kernel
theorem dX11_areApart_2 : decode cX11_areApart 2 = .ok (.idiv, 1) := by decide +kernel
theorem dX11_areApart_3 : decode cX11_areApart 3 = .ok (.iload_n 1, 1) := by decide +kernel
theorem dX11_areApart_4 : decode cX11_areApart 4 = .ok (.iconst 5, 1) := by decide +kernel
theorem dX11_areApart_5 : decode cX11_areApart 5 = .ok (.idiv, 1) := by decide +kernel
theorem dX11_areApart_6 : decode cX11_areApart 6 = .ok (.isub, 1) := by decide +kernel
theorem dX11_areApart_7 : decode cX11_areApart 7 = .ok (.invokestatic 291, 3) := by decide +kernel
theorem dX11_areApart_10 : decode cX11_areApart 10 = .ok (.iconst 1, 1) := by decide +kernel
theorem dX11_areApart_11 : decode cX11_areApart 11 = .ok (.if_icmp .gt 17, 3) := by decide +kernel
theorem dX11_areApart_14 : decode cX11_areApart 14 = .ok (.iload_n 0, 1) := by decide +kernel
theorem dX11_areApart_15 : decode cX11_areApart 15 = .ok (.iconst 5, 1) := by decide +kernel
theorem dX11_areApart_16 : decode cX11_areApart 16 = .ok (.irem, 1) := by decide +kernel
theorem dX11_areApart_17 : decode cX11_areApart 17 = .ok (.iload_n 1, 1) := by decide +kernel
theorem dX11_areApart_18 : decode cX11_areApart 18 = .ok (.iconst 5, 1) := by decide +kernel
theorem dX11_areApart_19 : decode cX11_areApart 19 = .ok (.irem, 1) := by decide +kernel
theorem dX11_areApart_20 : decode cX11_areApart 20 = .ok (.isub, 1) := by decide +kernel
theorem dX11_areApart_21 : decode cX11_areApart 21 = .ok (.invokestatic 291, 3) := by decide +kernel
theorem dX11_areApart_24 : decode cX11_areApart 24 = .ok (.iconst 1, 1) := by decide +kernel
theorem dX11_areApart_25 : decode cX11_areApart 25 = .ok (.if_icmp .le 7, 3) := by decide +kernel
theorem dX11_areApart_28 : decode cX11_areApart 28 = .ok (.iconst 1, 1) := by decide +kernel
theorem dX11_areApart_29 : decode cX11_areApart 29 = .ok (.goto 4, 3) := by decide +kernel
theorem dX11_areApart_32 : decode cX11_areApart 32 = .ok (.iconst 0, 1) := by decide +kernel
theorem dX11_areApart_33 : decode cX11_areApart 33 = .ok (.ireturn, 1) := by decide +kernel
theorem dX11_weigh_0 : decode cX11_weigh 0 = .ok (.aload_n 0, 1) := by decide +kernel
theorem dX11_weigh_1 : decode cX11_weigh 1 = .ok (.iload_n 1, 1) := by decide +kernel
theorem dX11_weigh_2 : decode cX11_weigh 2 = .ok (.invokevirtual 294, 3) := by decide +kernel
theorem dX11_weigh_5 : decode cX11_weigh 5 = .ok (.aload_n 0, 1) := by decide +kernel
theorem dX11_weigh_6 : decode cX11_weigh 6 = .ok (.iload_n 2, 1) := by decide +kernel
theorem dX11_weigh_7 : decode cX11_weigh 7 = .ok (.invokevirtual 294, 3) := by decide +kernel
theorem dX11_weigh_10 : decode cX11_weigh 10 = .ok (.iadd, 1) := by decide +kernel
theorem dX11_weigh_11 : decode cX11_weigh 11 = .ok (.aload_n 0, 1) := by decide +kernel
theorem dX11_weigh_12 : decode cX11_weigh 12 = .ok (.iload_n 3, 1) := by decide +kernel
theorem dX11_weigh_13 : decode cX11_weigh 13 = .ok (.invokevirtual 294, 3) := by decide +kernel
theorem dX11_weigh_16 : decode cX11_weigh 16 = .ok (.iadd, 1) := by decide +kernel
theorem dX11_weigh_17 : decode cX11_weigh 17 = .ok (.istore 4, 2) := by decide +kernel
theorem dX11_weigh_19 : decode cX11_weigh 19 = .ok (.iload 4, 2) := by decide +kernel
theorem dX11_weigh_21 : decode cX11_weigh 21 = .ok (.aload_n 0, 1) := by decide +kernel
theorem dX11_weigh_22 : decode cX11_weigh 22 = .ok (.getfield 228, 3) := by decide +kernel
theorem dX11_weigh_25 : decode cX11_weigh 25 = .ok (.if_icmp .le 30, 3) := by decide +kernel
theorem dX11_weigh_28 : decode cX11_weigh 28 = .ok (.aload_n 0, 1) := by decide +kernel
theorem dX11_weigh_29 : decode cX11_weigh 29 = .ok (.iload 4, 2) := by decide +kernel
theorem dX11_weigh_31 : decode cX11_weigh 31 = .ok (.putfield 228, 3) := by decide +kernel
theorem dX11_weigh_34 : decode cX11_weigh 34 = .ok (.aload_n 0, 1) := by decide +kernel
theorem dX11_weigh_35 : decode cX11_weigh 35 = .ok (.getfield 62, 3) := by decide +kernel
theorem dX11_weigh_38 : decode cX11_weigh 38 = .ok (.iconst 0, 1) := by decide +kernel
theorem dX11_weigh_39 : decode cX11_weigh 39 = .ok (.iload_n 1, 1) := by decide +kernel
theorem dX11_weigh_40 : decode cX11_weigh 40 = .ok (.iastore, 1) := by decide +kernel
theorem dX11_weigh_41 : decode cX11_weigh 41 = .ok (.aload_n 0, 1) := by decide +kernel
theorem dX11_weigh_42 : decode cX11_weigh 42 = .ok (.getfield 62, 3) := by decide +kernel
theorem dX11_weigh_45 : decode cX11_weigh 45 = .ok (.iconst 1, 1) := by decide +kernel
theorem dX11_weigh_46 : decode cX11_weigh 46 = .ok (.iload_n 2, 1) := by decide +kernel
theorem dX11_weigh_47 : decode cX11_weigh 47 = .ok (.iastore, 1) := by decide +kernel
theorem dX11_weigh_48 : decode cX11_weigh 48 = .ok (.aload_n 0, 1) := by decide +kernel
theorem dX11_weigh_49 : decode cX11_weigh 49 = .ok (.getfield 62, 3) := by decide +kernel
theorem dX11_weigh_52 : decode cX11_weigh 52 = .ok (.iconst 2, 1) := by decide +kernel
theorem dX11_weigh_53 : decode cX11_weigh 53 = .ok (.iload_n 3, 1) := by decide +kernel
theorem dX11_weigh_54 : decode cX11_weigh 54 = .ok (.iastore, 1) := by decide +kernel
theorem dX11_weigh_55 : decode cX11_weigh 55 = .ok (.return_, 1) := by decide +kernel
theorem dX11_saveOf_0 : decode cX11_saveOf 0 = .ok (.iload_n 1, 1) := by decide +kernel
theorem dX11_saveOf_1 : decode cX11_saveOf 1 = .ok (.ifCond .lt 21, 3) := by decide +kernel
theorem dX11_saveOf_4 : decode cX11_saveOf 4 = .ok (.iload_n 1, 1) := by decide +kernel
theorem dX11_saveOf_5 : decode cX11_saveOf 5 = .ok (.aload_n 0, 1) := by decide +kernel
theorem dX11_saveOf_6 : decode cX11_saveOf 6 = .ok (.getfield 58, 3) := by decide +kernel
theorem dX11_saveOf_9 : decode cX11_saveOf 9 = .ok (.arraylength, 1) := by decide +kernel
theorem dX11_saveOf_10 : decode cX11_saveOf 10 = .ok (.if_icmp .ge 12, 3) := by decide +kernel
theorem dX11_saveOf_13 : decode cX11_saveOf 13 = .ok (.aload_n 0, 1) := by decide +kernel
theorem dX11_saveOf_14 : decode cX11_saveOf 14 = .ok (.getfield 58, 3) := by decide +kernel
theorem dX11_saveOf_17 : decode cX11_saveOf 17 = .ok (.iload_n 1, 1) := by decide +kernel
theorem dX11_saveOf_18 : decode cX11_saveOf 18 = .ok (.iaload, 1) := by decide +kernel
theorem dX11_saveOf_19 : decode cX11_saveOf 19 = .ok (.goto 4, 3) := by decide +kernel
theorem dX11_saveOf_22 : decode cX11_saveOf 22 = .ok (.iconst 0, 1) := by decide +kernel
theorem dX11_saveOf_23 : decode cX11_saveOf 23 = .ok (.ireturn, 1) := by decide +kernel
theorem dX11_measureSteps_0 : decode cX11_measureSteps 0 = .ok (.aload_n 0, 1) := by decide +kernel
theorem dX11_measureSteps_1 : decode cX11_measureSteps 1 = .ok (.getfield 65, 3) := by decide +kernel
theorem dX11_measureSteps_4 : decode cX11_measureSteps 4 = .ok (.bipush (-9), 2) := by decide +kernel
theorem dX11_measureSteps_6 : decode cX11_measureSteps 6 = .ok (.invokestatic 297, 3) := by decide +kernel
theorem dX11_measureSteps_9 : decode cX11_measureSteps 9 = .ok (.iload_n 1, 1) := by decide +kernel
theorem dX11_measureSteps_10 : decode cX11_measureSteps 10 = .ok (.ifCond .lt 12, 3) := by decide +kernel
theorem dX11_measureSteps_13 : decode cX11_measureSteps 13 = .ok (.iload_n 1, 1) := by decide +kernel
theorem dX11_measureSteps_14 : decode cX11_measureSteps 14 = .ok (.aload_n 0, 1) := by decide +kernel
theorem dX11_measureSteps_15 : decode cX11_measureSteps 15 = .ok (.getfield 65, 3) := by decide +kernel
theorem dX11_measureSteps_18 : decode cX11_measureSteps 18 = .ok (.arraylength, 1) := by decide +kernel
theorem dX11_measureSteps_19 : decode cX11_measureSteps 19 = .ok (.if_icmp .lt 4, 3) := by decide +kernel
theorem dX11_measureSteps_22 : decode cX11_measureSteps 22 = .ok (.return_, 1) := by decide +kernel
theorem dX11_measureSteps_23 : decode cX11_measureSteps 23 = .ok (.aload_n 0, 1) := by decide +kernel
theorem dX11_measureSteps_24 : decode cX11_measureSteps 24 = .ok (.getfield 65, 3) := by decide +kernel
theorem dX11_measureSteps_27 : decode cX11_measureSteps 27 = .ok (.iload_n 1, 1) := by decide +kernel
theorem dX11_measureSteps_28 : decode cX11_measureSteps 28 = .ok (.iconst 0, 1) := by decide +kernel
theorem dX11_measureSteps_29 : decode cX11_measureSteps 29 = .ok (.iastore, 1) := by decide +kernel
theorem dX11_measureSteps_30 : decode cX11_measureSteps 30 = .ok (.aload_n 0, 1) := by decide +kernel
theorem dX11_measureSteps_31 : decode cX11_measureSteps 31 = .ok (.getfield 68, 3) := by decide +kernel
theorem dX11_measureSteps_34 : decode cX11_measureSteps 34 = .ok (.iconst 0, 1) := by decide +kernel
theorem dX11_measureSteps_35 : decode cX11_measureSteps 35 = .ok (.iload_n 1, 1) := by decide +kernel
theorem dX11_measureSteps_36 : decode cX11_measureSteps 36 = .ok (.iastore, 1) := by decide +kernel
theorem dX11_measureSteps_37 : decode cX11_measureSteps 37 = .ok (.iconst 1, 1) := by decide +kernel
theorem dX11_measureSteps_38 : decode cX11_measureSteps 38 = .ok (.istore_n 2, 1) := by decide +kernel
theorem dX11_measureSteps_39 : decode cX11_measureSteps 39 = .ok (.iconst 0, 1) := by decide +kernel
theorem dX11_measureSteps_40 : decode cX11_measureSteps 40 = .ok (.istore_n 3, 1) := by decide +kernel
theorem dX11_measureSteps_41 : decode cX11_measureSteps 41 = .ok (.iload_n 3, 1) := by decide +kernel
theorem dX11_measureSteps_42 : decode cX11_measureSteps 42 = .ok (.iload_n 2, 1) := by decide +kernel
theorem dX11_measureSteps_43 : decode cX11_measureSteps 43 = .ok (.if_icmp .ge 94, 3) := by decide +kernel
theorem dX11_measureSteps_46 : decode cX11_measureSteps 46 = .ok (.iload_n 3, 1) := by decide +kernel
theorem dX11_measureSteps_47 : decode cX11_measureSteps 47 = .ok (.aload_n 0, 1) := by decide +kernel
theorem dX11_measureSteps_48 : decode cX11_measureSteps 48 = .ok (.getfield 68, 3) := by decide +kernel
theorem dX11_measureSteps_51 : decode cX11_measureSteps 51 = .ok (.arraylength, 1) := by decide +kernel
theorem dX11_measureSteps_52 : decode cX11_measureSteps 52 = .ok (.if_icmp .ge 85, 3) := by decide +kernel
theorem dX11_measureSteps_55 : decode cX11_measureSteps 55 = .ok (.aload_n 0, 1) := by decide +kernel
theorem dX11_measureSteps_56 : decode cX11_measureSteps 56 = .ok (.getfield 68, 3) := by decide +kernel
theorem dX11_measureSteps_59 : decode cX11_measureSteps 59 = .ok (.iload_n 3, 1) := by decide +kernel
theorem dX11_measureSteps_60 : decode cX11_measureSteps 60 = .ok (.iaload, 1) := by decide +kernel
theorem dX11_measureSteps_61 : decode cX11_measureSteps 61 = .ok (.istore 4, 2) := by decide +kernel
theorem dX11_measureSteps_63 : decode cX11_measureSteps 63 = .ok (.iconst 0, 1) := by decide +kernel
theorem dX11_measureSteps_64 : decode cX11_measureSteps 64 = .ok (.istore 5, 2) := by decide +kernel
theorem dX11_measureSteps_66 : decode cX11_measureSteps 66 = .ok (.iload 5, 2) := by decide +kernel
theorem dX11_measureSteps_68 : decode cX11_measureSteps 68 = .ok (.iconst 4, 1) := by decide +kernel
theorem dX11_measureSteps_69 : decode cX11_measureSteps 69 = .ok (.if_icmp .ge 62, 3) := by decide +kernel
theorem dX11_measureSteps_72 : decode cX11_measureSteps 72 = .ok (.iload 4, 2) := by decide +kernel
theorem dX11_measureSteps_74 : decode cX11_measureSteps 74 = .ok (.iload 5, 2) := by decide +kernel
theorem dX11_measureSteps_76 : decode cX11_measureSteps 76 = .ok (.invokestatic 178, 3) := by decide +kernel
theorem dX11_measureSteps_79 : decode cX11_measureSteps 79 = .ok (.istore 6, 2) := by decide +kernel
theorem dX11_measureSteps_81 : decode cX11_measureSteps 81 = .ok (.aload_n 0, 1) := by decide +kernel
theorem dX11_measureSteps_82 : decode cX11_measureSteps 82 = .ok (.iload 6, 2) := by decide +kernel
theorem dX11_measureSteps_84 : decode cX11_measureSteps 84 = .ok (.invokevirtual 303, 3) := by decide +kernel
theorem dX11_measureSteps_87 : decode cX11_measureSteps 87 = .ok (.ifCond .eq 38, 3) := by decide +kernel
theorem dX11_measureSteps_90 : decode cX11_measureSteps 90 = .ok (.iload_n 2, 1) := by decide +kernel
theorem dX11_measureSteps_91 : decode cX11_measureSteps 91 = .ok (.aload_n 0, 1) := by decide +kernel
theorem dX11_measureSteps_92 : decode cX11_measureSteps 92 = .ok (.getfield 68, 3) := by decide +kernel
theorem dX11_measureSteps_95 : decode cX11_measureSteps 95 = .ok (.arraylength, 1) := by decide +kernel
theorem dX11_measureSteps_96 : decode cX11_measureSteps 96 = .ok (.if_icmp .ge 29, 3) := by decide +kernel
theorem dX11_measureSteps_99 : decode cX11_measureSteps 99 = .ok (.aload_n 0, 1) := by decide +kernel
theorem dX11_measureSteps_100 : decode cX11_measureSteps 100 = .ok (.getfield 65, 3) := by decide +kernel
theorem dX11_measureSteps_103 : decode cX11_measureSteps 103 = .ok (.iload 6, 2) := by decide +kernel
theorem dX11_measureSteps_105 : decode cX11_measureSteps 105 = .ok (.aload_n 0, 1) := by decide +kernel
theorem dX11_measureSteps_106 : decode cX11_measureSteps 106 = .ok (.iload 4, 2) := by decide +kernel
theorem dX11_measureSteps_108 : decode cX11_measureSteps 108 = .ok (.invokevirtual 306, 3) := by decide +kernel
theorem dX11_measureSteps_111 : decode cX11_measureSteps 111 = .ok (.iconst 1, 1) := by decide +kernel
theorem dX11_measureSteps_112 : decode cX11_measureSteps 112 = .ok (.iadd, 1) := by decide +kernel
theorem dX11_measureSteps_113 : decode cX11_measureSteps 113 = .ok (.iastore, 1) := by decide +kernel
theorem dX11_measureSteps_114 : decode cX11_measureSteps 114 = .ok (.aload_n 0, 1) := by decide +kernel
theorem dX11_measureSteps_115 : decode cX11_measureSteps 115 = .ok (.getfield 68, 3) := by decide +kernel
theorem dX11_measureSteps_118 : decode cX11_measureSteps 118 = .ok (.iload_n 2, 1) := by decide +kernel
theorem dX11_measureSteps_119 : decode cX11_measureSteps 119 = .ok (.iload 6, 2) := by decide +kernel
theorem dX11_measureSteps_121 : decode cX11_measureSteps 121 = .ok (.iastore, 1) := by decide +kernel
theorem dX11_measureSteps_122 : decode cX11_measureSteps 122 = .ok (.iinc 2 1, 3) := by decide +kernel
theorem dX11_measureSteps_125 : decode cX11_measureSteps 125 = .ok (.iinc 5 1, 3) := by decide +kernel
theorem dX11_measureSteps_128 : decode cX11_measureSteps 128 = .ok (.goto (-62), 3) := by decide +kernel
theorem dX11_measureSteps_131 : decode cX11_measureSteps 131 = .ok (.iinc 3 1, 3) := by decide +kernel
theorem dX11_measureSteps_134 : decode cX11_measureSteps 134 = .ok (.goto (-93), 3) := by decide +kernel
theorem dX11_measureSteps_137 : decode cX11_measureSteps 137 = .ok (.return_, 1) := by decide +kernel
theorem dX11_isOpen_0 : decode cX11_isOpen 0 = .ok (.iload_n 1, 1) := by decide +kernel
theorem dX11_isOpen_1 : decode cX11_isOpen 1 = .ok (.ifCond .lt 38, 3) := by decide +kernel
theorem dX11_isOpen_4 : decode cX11_isOpen 4 = .ok (.iload_n 1, 1) := by decide +kernel
theorem dX11_isOpen_5 : decode cX11_isOpen 5 = .ok (.aload_n 0, 1) := by decide +kernel
theorem dX11_isOpen_6 : decode cX11_isOpen 6 = .ok (.getfield 65, 3) := by decide +kernel
theorem dX11_isOpen_9 : decode cX11_isOpen 9 = .ok (.arraylength, 1) := by decide +kernel
theorem dX11_isOpen_10 : decode cX11_isOpen 10 = .ok (.if_icmp .ge 29, 3) := by decide +kernel
theorem dX11_isOpen_13 : decode cX11_isOpen 13 = .ok (.aload_n 0, 1) := by decide +kernel
theorem dX11_isOpen_14 : decode cX11_isOpen 14 = .ok (.getfield 65, 3) := by decide +kernel
theorem dX11_isOpen_17 : decode cX11_isOpen 17 = .ok (.iload_n 1, 1) := by decide +kernel
theorem dX11_isOpen_18 : decode cX11_isOpen 18 = .ok (.iaload, 1) := by decide +kernel
theorem dX11_isOpen_19 : decode cX11_isOpen 19 = .ok (.bipush (-9), 2) := by decide +kernel
theorem dX11_isOpen_21 : decode cX11_isOpen 21 = .ok (.if_icmp .ne 18, 3) := by decide +kernel
theorem dX11_isOpen_24 : decode cX11_isOpen 24 = .ok (.aload_n 0, 1) := by decide +kernel
theorem dX11_isOpen_25 : decode cX11_isOpen 25 = .ok (.getfield 26, 3) := by decide +kernel
theorem dX11_isOpen_28 : decode cX11_isOpen 28 = .ok (.iload_n 1, 1) := by decide +kernel
theorem dX11_isOpen_29 : decode cX11_isOpen 29 = .ok (.invokevirtual 123, 3) := by decide +kernel
theorem dX11_isOpen_32 : decode cX11_isOpen 32 = .ok (.ifCond .ne 7, 3) := by decide +kernel
theorem dX11_isOpen_35 : decode cX11_isOpen 35 = .ok (.iconst 1, 1) := by decide +kernel
theorem dX11_isOpen_36 : decode cX11_isOpen 36 = .ok (.goto 4, 3) := by decide +kernel
theorem dX11_isOpen_39 : decode cX11_isOpen 39 = .ok (.iconst 0, 1) := by decide +kernel
theorem dX11_isOpen_40 : decode cX11_isOpen 40 = .ok (.ireturn, 1) := by decide +kernel
theorem dX11_stepsAt_0 : decode cX11_stepsAt 0 = .ok (.iload_n 1, 1) := by decide +kernel
theorem dX11_stepsAt_1 : decode cX11_stepsAt 1 = .ok (.ifCond .lt 21, 3) := by decide +kernel
theorem dX11_stepsAt_4 : decode cX11_stepsAt 4 = .ok (.iload_n 1, 1) := by decide +kernel
theorem dX11_stepsAt_5 : decode cX11_stepsAt 5 = .ok (.aload_n 0, 1) := by decide +kernel
theorem dX11_stepsAt_6 : decode cX11_stepsAt 6 = .ok (.getfield 65, 3) := by decide +kernel
theorem dX11_stepsAt_9 : decode cX11_stepsAt 9 = .ok (.arraylength, 1) := by decide +kernel
theorem dX11_stepsAt_10 : decode cX11_stepsAt 10 = .ok (.if_icmp .ge 12, 3) := by decide +kernel
theorem dX11_stepsAt_13 : decode cX11_stepsAt 13 = .ok (.aload_n 0, 1) := by decide +kernel
theorem dX11_stepsAt_14 : decode cX11_stepsAt 14 = .ok (.getfield 65, 3) := by decide +kernel
theorem dX11_stepsAt_17 : decode cX11_stepsAt 17 = .ok (.iload_n 1, 1) := by decide +kernel
theorem dX11_stepsAt_18 : decode cX11_stepsAt 18 = .ok (.iaload, 1) := by decide +kernel
theorem dX11_stepsAt_19 : decode cX11_stepsAt 19 = .ok (.goto 5, 3) := by decide +kernel
theorem dX11_stepsAt_22 : decode cX11_stepsAt 22 = .ok (.bipush (-9), 2) := by decide +kernel
theorem dX11_stepsAt_24 : decode cX11_stepsAt 24 = .ok (.ireturn, 1) := by decide +kernel
theorem dX11_chancesToStay_0 : decode cX11_chancesToStay 0 = .ok (.lconst 0, 1) := by decide +kernel
theorem dX11_chancesToStay_1 : decode cX11_chancesToStay 1 = .ok (.lstore_n 3, 1) := by decide +kernel
theorem dX11_chancesToStay_2 : decode cX11_chancesToStay 2 = .ok (.lconst 1, 1) := by decide +kernel
theorem dX11_chancesToStay_3 : decode cX11_chancesToStay 3 = .ok (.lstore 5, 2) := by decide +kernel
theorem dX11_chancesToStay_5 : decode cX11_chancesToStay 5 = .ok (.iconst 0, 1) := by decide +kernel
theorem dX11_chancesToStay_6 : decode cX11_chancesToStay 6 = .ok (.istore 7, 2) := by decide +kernel
theorem dX11_chancesToStay_8 : decode cX11_chancesToStay 8 = .ok (.iload 7, 2) := by decide +kernel
theorem dX11_chancesToStay_10 : decode cX11_chancesToStay 10 = .ok (.iload_n 2, 1) := by decide +kernel
theorem dX11_chancesToStay_11 : decode cX11_chancesToStay 11 = .ok (.if_icmp .gt 55, 3) := by decide +kernel
theorem dX11_chancesToStay_14 : decode cX11_chancesToStay 14 = .ok (.iload 7, 2) := by decide +kernel
theorem dX11_chancesToStay_16 : decode cX11_chancesToStay 16 = .ok (.iload_n 0, 1) := by decide +kernel
theorem dX11_chancesToStay_17 : decode cX11_chancesToStay 17 = .ok (.if_icmp .ge 49, 3) := by decide +kernel
theorem dX11_chancesToStay_20 : decode cX11_chancesToStay 20 = .ok (.lload_n 3, 1) := by decide +kernel
theorem dX11_chancesToStay_21 : decode cX11_chancesToStay 21 = .ok (.lload 5, 2) := by decide +kernel
theorem dX11_chancesToStay_23 : decode cX11_chancesToStay 23 = .ok (.iload_n 1, 1) := by decide +kernel
theorem dX11_chancesToStay_24 : decode cX11_chancesToStay 24 = .ok (.iload 7, 2) := by decide +kernel
theorem dX11_chancesToStay_26 : decode cX11_chancesToStay 26 = .ok (.invokestatic 238, 3) := by decide +kernel
theorem dX11_chancesToStay_29 : decode cX11_chancesToStay 29 = .ok (.lmul, 1) := by decide +kernel
theorem dX11_chancesToStay_30 : decode cX11_chancesToStay 30 = .ok (.bipush 10, 2) := by decide +kernel
theorem dX11_chancesToStay_32 : decode cX11_chancesToStay 32 = .ok (.iload_n 1, 1) := by decide +kernel
theorem dX11_chancesToStay_33 : decode cX11_chancesToStay 33 = .ok (.isub, 1) := by decide +kernel
theorem dX11_chancesToStay_34 : decode cX11_chancesToStay 34 = .ok (.iload_n 2, 1) := by decide +kernel
theorem dX11_chancesToStay_35 : decode cX11_chancesToStay 35 = .ok (.iload 7, 2) := by decide +kernel
theorem dX11_chancesToStay_37 : decode cX11_chancesToStay 37 = .ok (.isub, 1) := by decide +kernel
theorem dX11_chancesToStay_38 : decode cX11_chancesToStay 38 = .ok (.invokestatic 238, 3) := by decide +kernel
theorem dX11_chancesToStay_41 : decode cX11_chancesToStay 41 = .ok (.lmul, 1) := by decide +kernel
theorem dX11_chancesToStay_42 : decode cX11_chancesToStay 42 = .ok (.ladd, 1) := by decide +kernel
theorem dX11_chancesToStay_43 : decode cX11_chancesToStay 43 = .ok (.lstore_n 3, 1) := by decide +kernel
theorem dX11_chancesToStay_44 : decode cX11_chancesToStay 44 = .ok (.lload 5, 2) := by decide +kernel
theorem dX11_chancesToStay_46 : decode cX11_chancesToStay 46 = .ok (.iload_n 2, 1) := by decide +kernel
theorem dX11_chancesToStay_47 : decode cX11_chancesToStay 47 = .ok (.iload 7, 2) := by decide +kernel
theorem dX11_chancesToStay_49 : decode cX11_chancesToStay 49 = .ok (.isub, 1) := by decide +kernel
theorem dX11_chancesToStay_50 : decode cX11_chancesToStay 50 = .ok (.i2l, 1) := by decide +kernel
theorem dX11_chancesToStay_51 : decode cX11_chancesToStay 51 = .ok (.lmul, 1) := by decide +kernel
theorem dX11_chancesToStay_52 : decode cX11_chancesToStay 52 = .ok (.iload 7, 2) := by decide +kernel
theorem dX11_chancesToStay_54 : decode cX11_chancesToStay 54 = .ok (.iconst 1, 1) := by decide +kernel
theorem dX11_chancesToStay_55 : decode cX11_chancesToStay 55 = .ok (.iadd, 1) := by decide +kernel
theorem dX11_chancesToStay_56 : decode cX11_chancesToStay 56 = .ok (.i2l, 1) := by decide +kernel
theorem dX11_chancesToStay_57 : decode cX11_chancesToStay 57 = .ok (.ldiv, 1) := by decide +kernel
theorem dX11_chancesToStay_58 : decode cX11_chancesToStay 58 = .ok (.lstore 5, 2) := by decide +kernel
theorem dX11_chancesToStay_60 : decode cX11_chancesToStay 60 = .ok (.iinc 7 1, 3) := by decide +kernel
theorem dX11_chancesToStay_63 : decode cX11_chancesToStay 63 = .ok (.goto (-55), 3) := by decide +kernel
theorem dX11_chancesToStay_66 : decode cX11_chancesToStay 66 = .ok (.lload_n 3, 1) := by decide +kernel
theorem dX11_chancesToStay_67 : decode cX11_chancesToStay 67 = .ok (.lreturn, 1) := by decide +kernel
theorem dX11_powerOf_0 : decode cX11_powerOf 0 = .ok (.lconst 1, 1) := by decide +kernel
theorem dX11_powerOf_1 : decode cX11_powerOf 1 = .ok (.lstore_n 2, 1) := by decide +kernel
theorem dX11_powerOf_2 : decode cX11_powerOf 2 = .ok (.iconst 0, 1) := by decide +kernel
theorem dX11_powerOf_3 : decode cX11_powerOf 3 = .ok (.istore 4, 2) := by decide +kernel
theorem dX11_powerOf_5 : decode cX11_powerOf 5 = .ok (.iload 4, 2) := by decide +kernel
theorem dX11_powerOf_7 : decode cX11_powerOf 7 = .ok (.iload_n 1, 1) := by decide +kernel
theorem dX11_powerOf_8 : decode cX11_powerOf 8 = .ok (.if_icmp .ge 14, 3) := by decide +kernel
theorem dX11_powerOf_11 : decode cX11_powerOf 11 = .ok (.lload_n 2, 1) := by decide +kernel
theorem dX11_powerOf_12 : decode cX11_powerOf 12 = .ok (.iload_n 0, 1) := by decide +kernel
theorem dX11_powerOf_13 : decode cX11_powerOf 13 = .ok (.i2l, 1) := by decide +kernel
theorem dX11_powerOf_14 : decode cX11_powerOf 14 = .ok (.lmul, 1) := by decide +kernel
theorem dX11_powerOf_15 : decode cX11_powerOf 15 = .ok (.lstore_n 2, 1) := by decide +kernel
theorem dX11_powerOf_16 : decode cX11_powerOf 16 = .ok (.iinc 4 1, 3) := by decide +kernel
theorem dX11_powerOf_19 : decode cX11_powerOf 19 = .ok (.goto (-14), 3) := by decide +kernel
theorem dX11_powerOf_22 : decode cX11_powerOf 22 = .ok (.lload_n 2, 1) := by decide +kernel
theorem dX11_powerOf_23 : decode cX11_powerOf 23 = .ok (.lreturn, 1) := by decide +kernel
theorem dX11_commonPart_0 : decode cX11_commonPart 0 = .ok (.lload_n 2, 1) := by decide +kernel
theorem dX11_commonPart_1 : decode cX11_commonPart 1 = .ok (.lstore 4, 2) := by decide +kernel
theorem dX11_commonPart_3 : decode cX11_commonPart 3 = .ok (.lload_n 0, 1) := by decide +kernel
theorem dX11_commonPart_4 : decode cX11_commonPart 4 = .ok (.lstore 6, 2) := by decide +kernel
theorem dX11_commonPart_6 : decode cX11_commonPart 6 = .ok (.iconst 0, 1) := by decide +kernel
theorem dX11_commonPart_7 : decode cX11_commonPart 7 = .ok (.istore 8, 2) := by decide +kernel
theorem dX11_commonPart_9 : decode cX11_commonPart 9 = .ok (.iload 8, 2) := by decide +kernel
theorem dX11_commonPart_11 : decode cX11_commonPart 11 = .ok (.bipush 100, 2) := by decide +kernel
theorem dX11_commonPart_13 : decode cX11_commonPart 13 = .ok (.if_icmp .ge 31, 3) := by decide +kernel
theorem dX11_commonPart_16 : decode cX11_commonPart 16 = .ok (.lload 6, 2) := by decide +kernel
theorem dX11_commonPart_18 : decode cX11_commonPart 18 = .ok (.lconst 0, 1) := by decide +kernel
theorem dX11_commonPart_19 : decode cX11_commonPart 19 = .ok (.lcmp, 1) := by decide +kernel
theorem dX11_commonPart_20 : decode cX11_commonPart 20 = .ok (.ifCond .eq 24, 3) := by decide +kernel
theorem dX11_commonPart_23 : decode cX11_commonPart 23 = .ok (.lload 4, 2) := by decide +kernel
theorem dX11_commonPart_25 : decode cX11_commonPart 25 = .ok (.lload 6, 2) := by decide +kernel
theorem dX11_commonPart_27 : decode cX11_commonPart 27 = .ok (.lrem, 1) := by decide +kernel
theorem dX11_commonPart_28 : decode cX11_commonPart 28 = .ok (.lstore 9, 2) := by decide +kernel
theorem dX11_commonPart_30 : decode cX11_commonPart 30 = .ok (.lload 6, 2) := by decide +kernel
theorem dX11_commonPart_32 : decode cX11_commonPart 32 = .ok (.lstore 4, 2) := by decide +kernel
theorem dX11_commonPart_34 : decode cX11_commonPart 34 = .ok (.lload 9, 2) := by decide +kernel
theorem dX11_commonPart_36 : decode cX11_commonPart 36 = .ok (.lstore 6, 2) := by decide +kernel
theorem dX11_commonPart_38 : decode cX11_commonPart 38 = .ok (.iinc 8 1, 3) := by decide +kernel
theorem dX11_commonPart_41 : decode cX11_commonPart 41 = .ok (.goto (-32), 3) := by decide +kernel
theorem dX11_commonPart_44 : decode cX11_commonPart 44 = .ok (.lload 4, 2) := by decide +kernel
theorem dX11_commonPart_46 : decode cX11_commonPart 46 = .ok (.lreturn, 1) := by decide +kernel
theorem dX11_setsThatCan_0 : decode cX11_setsThatCan 0 = .ok (.iconst 0, 1) := by decide +kernel
theorem dX11_setsThatCan_1 : decode cX11_setsThatCan 1 = .ok (.istore_n 2, 1) := by decide +kernel
theorem dX11_setsThatCan_2 : decode cX11_setsThatCan 2 = .ok (.iconst 0, 1) := by decide +kernel
theorem dX11_setsThatCan_3 : decode cX11_setsThatCan 3 = .ok (.istore_n 3, 1) := by decide +kernel
theorem dX11_setsThatCan_4 : decode cX11_setsThatCan 4 = .ok (.iload_n 3, 1) := by decide +kernel
theorem dX11_setsThatCan_5 : decode cX11_setsThatCan 5 = .ok (.aload_n 0, 1) := by decide +kernel
theorem dX11_setsThatCan_6 : decode cX11_setsThatCan 6 = .ok (.getfield 19, 3) := by decide +kernel
theorem dX11_setsThatCan_9 : decode cX11_setsThatCan 9 = .ok (.invokevirtual 218, 3) := by decide +kernel
theorem dX11_setsThatCan_12 : decode cX11_setsThatCan 12 = .ok (.if_icmp .ge 34, 3) := by decide +kernel
theorem dX11_setsThatCan_15 : decode cX11_setsThatCan 15 = .ok (.iload_n 3, 1) := by decide +kernel
theorem dX11_setsThatCan_16 : decode cX11_setsThatCan 16 = .ok (.iload_n 1, 1) := by decide +kernel
theorem dX11_setsThatCan_17 : decode cX11_setsThatCan 17 = .ok (.iand, 1) := by decide +kernel
theorem dX11_setsThatCan_18 : decode cX11_setsThatCan 18 = .ok (.iload_n 1, 1) := by decide +kernel
theorem dX11_setsThatCan_19 : decode cX11_setsThatCan 19 = .ok (.if_icmp .ne 21, 3) := by decide +kernel
theorem dX11_setsThatCan_22 : decode cX11_setsThatCan 22 = .ok (.aload_n 0, 1) := by decide +kernel
theorem dX11_setsThatCan_23 : decode cX11_setsThatCan 23 = .ok (.getfield 40, 3) := by decide +kernel
theorem dX11_setsThatCan_26 : decode cX11_setsThatCan 26 = .ok (.aload_n 0, 1) := by decide +kernel
theorem dX11_setsThatCan_27 : decode cX11_setsThatCan 27 = .ok (.getfield 19, 3) := by decide +kernel
theorem dX11_setsThatCan_30 : decode cX11_setsThatCan 30 = .ok (.iload_n 3, 1) := by decide +kernel
theorem dX11_setsThatCan_31 : decode cX11_setsThatCan 31 = .ok (.invokevirtual 309, 3) := by decide +kernel
theorem dX11_setsThatCan_34 : decode cX11_setsThatCan 34 = .ok (.ifCond .eq 6, 3) := by decide +kernel
theorem dX11_setsThatCan_37 : decode cX11_setsThatCan 37 = .ok (.iinc 2 1, 3) := by decide +kernel
theorem dX11_setsThatCan_40 : decode cX11_setsThatCan 40 = .ok (.iinc 3 1, 3) := by decide +kernel
theorem dX11_setsThatCan_43 : decode cX11_setsThatCan 43 = .ok (.goto (-39), 3) := by decide +kernel
theorem dX11_setsThatCan_46 : decode cX11_setsThatCan 46 = .ok (.iload_n 2, 1) := by decide +kernel
theorem dX11_setsThatCan_47 : decode cX11_setsThatCan 47 = .ok (.ireturn, 1) := by decide +kernel
theorem dX11_peopleInAll_0 : decode cX11_peopleInAll 0 = .ok (.bipush (-9), 2) := by decide +kernel
theorem dX11_peopleInAll_2 : decode cX11_peopleInAll 2 = .ok (.istore_n 1, 1) := by decide +kernel
theorem dX11_peopleInAll_3 : decode cX11_peopleInAll 3 = .ok (.iconst 0, 1) := by decide +kernel
theorem dX11_peopleInAll_4 : decode cX11_peopleInAll 4 = .ok (.istore_n 2, 1) := by decide +kernel
theorem dX11_peopleInAll_5 : decode cX11_peopleInAll 5 = .ok (.iload_n 2, 1) := by decide +kernel
theorem dX11_peopleInAll_6 : decode cX11_peopleInAll 6 = .ok (.aload_n 0, 1) := by decide +kernel
theorem dX11_peopleInAll_7 : decode cX11_peopleInAll 7 = .ok (.getfield 19, 3) := by decide +kernel
theorem dX11_peopleInAll_10 : decode cX11_peopleInAll 10 = .ok (.invokevirtual 218, 3) := by decide +kernel
theorem dX11_peopleInAll_13 : decode cX11_peopleInAll 13 = .ok (.if_icmp .ge 38, 3) := by decide +kernel
theorem dX11_peopleInAll_16 : decode cX11_peopleInAll 16 = .ok (.aload_n 0, 1) := by decide +kernel
theorem dX11_peopleInAll_17 : decode cX11_peopleInAll 17 = .ok (.getfield 40, 3) := by decide +kernel
theorem dX11_peopleInAll_20 : decode cX11_peopleInAll 20 = .ok (.aload_n 0, 1) := by decide +kernel
theorem dX11_peopleInAll_21 : decode cX11_peopleInAll 21 = .ok (.getfield 19, 3) := by decide +kernel
theorem dX11_peopleInAll_24 : decode cX11_peopleInAll 24 = .ok (.iload_n 2, 1) := by decide +kernel
theorem dX11_peopleInAll_25 : decode cX11_peopleInAll 25 = .ok (.invokevirtual 309, 3) := by decide +kernel
theorem dX11_peopleInAll_28 : decode cX11_peopleInAll 28 = .ok (.ifCond .eq 17, 3) := by decide +kernel
theorem dX11_peopleInAll_31 : decode cX11_peopleInAll 31 = .ok (.iload_n 1, 1) := by decide +kernel
theorem dX11_peopleInAll_32 : decode cX11_peopleInAll 32 = .ok (.bipush (-9), 2) := by decide +kernel
theorem dX11_peopleInAll_34 : decode cX11_peopleInAll 34 = .ok (.if_icmp .ne 7, 3) := by decide +kernel
theorem dX11_peopleInAll_37 : decode cX11_peopleInAll 37 = .ok (.iload_n 2, 1) := by decide +kernel
theorem dX11_peopleInAll_38 : decode cX11_peopleInAll 38 = .ok (.goto 6, 3) := by decide +kernel
theorem dX11_peopleInAll_41 : decode cX11_peopleInAll 41 = .ok (.iload_n 1, 1) := by decide +kernel
theorem dX11_peopleInAll_42 : decode cX11_peopleInAll 42 = .ok (.iload_n 2, 1) := by decide +kernel
theorem dX11_peopleInAll_43 : decode cX11_peopleInAll 43 = .ok (.iand, 1) := by decide +kernel
theorem dX11_peopleInAll_44 : decode cX11_peopleInAll 44 = .ok (.istore_n 1, 1) := by decide +kernel
theorem dX11_peopleInAll_45 : decode cX11_peopleInAll 45 = .ok (.iinc 2 1, 3) := by decide +kernel
theorem dX11_peopleInAll_48 : decode cX11_peopleInAll 48 = .ok (.goto (-43), 3) := by decide +kernel
theorem dX11_peopleInAll_51 : decode cX11_peopleInAll 51 = .ok (.iload_n 1, 1) := by decide +kernel
theorem dX11_peopleInAll_52 : decode cX11_peopleInAll 52 = .ok (.ireturn, 1) := by decide +kernel
theorem dX11_peopleInSome_0 : decode cX11_peopleInSome 0 = .ok (.iconst 0, 1) := by decide +kernel
theorem dX11_peopleInSome_1 : decode cX11_peopleInSome 1 = .ok (.istore_n 1, 1) := by decide +kernel
theorem dX11_peopleInSome_2 : decode cX11_peopleInSome 2 = .ok (.iconst 0, 1) := by decide +kernel
theorem dX11_peopleInSome_3 : decode cX11_peopleInSome 3 = .ok (.istore_n 2, 1) := by decide +kernel
theorem dX11_peopleInSome_4 : decode cX11_peopleInSome 4 = .ok (.iload_n 2, 1) := by decide +kernel
theorem dX11_peopleInSome_5 : decode cX11_peopleInSome 5 = .ok (.aload_n 0, 1) := by decide +kernel
theorem dX11_peopleInSome_6 : decode cX11_peopleInSome 6 = .ok (.getfield 19, 3) := by decide +kernel
theorem dX11_peopleInSome_9 : decode cX11_peopleInSome 9 = .ok (.invokevirtual 218, 3) := by decide +kernel
theorem dX11_peopleInSome_12 : decode cX11_peopleInSome 12 = .ok (.if_icmp .ge 28, 3) := by decide +kernel
theorem dX11_peopleInSome_15 : decode cX11_peopleInSome 15 = .ok (.aload_n 0, 1) := by decide +kernel
theorem dX11_peopleInSome_16 : decode cX11_peopleInSome 16 = .ok (.getfield 40, 3) := by decide +kernel
theorem dX11_peopleInSome_19 : decode cX11_peopleInSome 19 = .ok (.aload_n 0, 1) := by decide +kernel
theorem dX11_peopleInSome_20 : decode cX11_peopleInSome 20 = .ok (.getfield 19, 3) := by decide +kernel
theorem dX11_peopleInSome_23 : decode cX11_peopleInSome 23 = .ok (.iload_n 2, 1) := by decide +kernel
theorem dX11_peopleInSome_24 : decode cX11_peopleInSome 24 = .ok (.invokevirtual 309, 3) := by decide +kernel
theorem dX11_peopleInSome_27 : decode cX11_peopleInSome 27 = .ok (.ifCond .eq 7, 3) := by decide +kernel
theorem dX11_peopleInSome_30 : decode cX11_peopleInSome 30 = .ok (.iload_n 1, 1) := by decide +kernel
theorem dX11_peopleInSome_31 : decode cX11_peopleInSome 31 = .ok (.iload_n 2, 1) := by decide +kernel
theorem dX11_peopleInSome_32 : decode cX11_peopleInSome 32 = .ok (.ior, 1) := by decide +kernel
theorem dX11_peopleInSome_33 : decode cX11_peopleInSome 33 = .ok (.istore_n 1, 1) := by decide +kernel
theorem dX11_peopleInSome_34 : decode cX11_peopleInSome 34 = .ok (.iinc 2 1, 3) := by decide +kernel
theorem dX11_peopleInSome_37 : decode cX11_peopleInSome 37 = .ok (.goto (-33), 3) := by decide +kernel
theorem dX11_peopleInSome_40 : decode cX11_peopleInSome 40 = .ok (.iload_n 1, 1) := by decide +kernel
theorem dX11_peopleInSome_41 : decode cX11_peopleInSome 41 = .ok (.ireturn, 1) := by decide +kernel
theorem dX12_init_0 : decode cX12_init 0 = .ok (.aload_n 0, 1) := by decide +kernel
theorem dX12_init_1 : decode cX12_init 1 = .ok (.invokespecial 1, 3) := by decide +kernel
theorem dX12_init_4 : decode cX12_init 4 = .ok (.aload_n 0, 1) := by decide +kernel
theorem dX12_init_5 : decode cX12_init 5 = .ok (.bipush 100, 2) := by decide +kernel
theorem dX12_init_7 : decode cX12_init 7 = .ok (.newarray .int, 2) := by decide +kernel
theorem dX12_init_9 : decode cX12_init 9 = .ok (.putfield 7, 3) := by decide +kernel
theorem dX12_init_12 : decode cX12_init 12 = .ok (.aload_n 0, 1) := by decide +kernel
theorem dX12_init_13 : decode cX12_init 13 = .ok (.bipush 14, 2) := by decide +kernel
theorem dX12_init_15 : decode cX12_init 15 = .ok (.newarray .int, 2) := by decide +kernel
theorem dX12_init_17 : decode cX12_init 17 = .ok (.putfield 13, 3) := by decide +kernel
theorem dX12_init_20 : decode cX12_init 20 = .ok (.aload_n 0, 1) := by decide +kernel
theorem dX12_init_21 : decode cX12_init 21 = .ok (.bipush 14, 2) := by decide +kernel
theorem dX12_init_23 : decode cX12_init 23 = .ok (.newarray .int, 2) := by decide +kernel
theorem dX12_init_25 : decode cX12_init 25 = .ok (.putfield 16, 3) := by decide +kernel
theorem dX12_init_28 : decode cX12_init 28 = .ok (.aload_n 0, 1) := by decide +kernel
theorem dX12_init_29 : decode cX12_init 29 = .ok (.bipush 44, 2) := by decide +kernel
theorem dX12_init_31 : decode cX12_init 31 = .ok (.newarray .int, 2) := by decide +kernel
theorem dX12_init_33 : decode cX12_init 33 = .ok (.putfield 19, 3) := by decide +kernel
theorem dX12_init_36 : decode cX12_init 36 = .ok (.aload_n 0, 1) := by decide +kernel
theorem dX12_init_37 : decode cX12_init 37 = .ok (.bipush 44, 2) := by decide +kernel
theorem dX12_init_39 : decode cX12_init 39 = .ok (.newarray .int, 2) := by decide +kernel
theorem dX12_init_41 : decode cX12_init 41 = .ok (.putfield 22, 3) := by decide +kernel
theorem dX12_init_44 : decode cX12_init 44 = .ok (.aload_n 0, 1) := by decide +kernel
theorem dX12_init_45 : decode cX12_init 45 = .ok (.sipush 440, 3) := by decide +kernel
theorem dX12_init_48 : decode cX12_init 48 = .ok (.newarray .int, 2) := by decide +kernel
theorem dX12_init_50 : decode cX12_init 50 = .ok (.putfield 25, 3) := by decide +kernel
theorem dX12_init_53 : decode cX12_init 53 = .ok (.aload_n 0, 1) := by decide +kernel
theorem dX12_init_54 : decode cX12_init 54 = .ok (.bipush 88, 2) := by decide +kernel
theorem dX12_init_56 : decode cX12_init 56 = .ok (.newarray .int, 2) := by decide +kernel
theorem dX12_init_58 : decode cX12_init 58 = .ok (.putfield 28, 3) := by decide +kernel
theorem dX12_init_61 : decode cX12_init 61 = .ok (.aload_n 0, 1) := by decide +kernel
theorem dX12_init_62 : decode cX12_init 62 = .ok (.iconst 2, 1) := by decide +kernel
theorem dX12_init_63 : decode cX12_init 63 = .ok (.newarray .boolean, 2) := by decide +kernel
theorem dX12_init_65 : decode cX12_init 65 = .ok (.putfield 31, 3) := by decide +kernel
theorem dX12_init_68 : decode cX12_init 68 = .ok (.aload_n 0, 1) := by decide +kernel
theorem dX12_init_69 : decode cX12_init 69 = .ok (.bipush 6, 2) := by decide +kernel
theorem dX12_init_71 : decode cX12_init 71 = .ok (.newarray .int, 2) := by decide +kernel
theorem dX12_init_73 : decode cX12_init 73 = .ok (.putfield 35, 3) := by decide +kernel
theorem dX12_init_76 : decode cX12_init 76 = .ok (.aload_n 0, 1) := by decide +kernel
theorem dX12_init_77 : decode cX12_init 77 = .ok (.bipush 36, 2) := by decide +kernel
theorem dX12_init_79 : decode cX12_init 79 = .ok (.newarray .int, 2) := by decide +kernel
theorem dX12_init_81 : decode cX12_init 81 = .ok (.putfield 38, 3) := by decide +kernel
theorem dX12_init_84 : decode cX12_init 84 = .ok (.aload_n 0, 1) := by decide +kernel
theorem dX12_init_85 : decode cX12_init 85 = .ok (.invokevirtual 41, 3) := by decide +kernel
theorem dX12_init_88 : decode cX12_init 88 = .ok (.pop, 1) := by decide +kernel
theorem dX12_init_89 : decode cX12_init 89 = .ok (.aload_n 0, 1) := by decide +kernel
theorem dX12_init_90 : decode cX12_init 90 = .ok (.invokevirtual 45, 3) := by decide +kernel
theorem dX12_init_93 : decode cX12_init 93 = .ok (.return_, 1) := by decide +kernel
theorem dX12_in_0 : decode cX12_in 0 = .ok (.iload_n 0, 1) := by decide +kernel
theorem dX12_in_1 : decode cX12_in 1 = .ok (.iload_n 1, 1) := by decide +kernel
theorem dX12_in_2 : decode cX12_in 2 = .ok (.if_icmp .lt 12, 3) := by decide +kernel
theorem dX12_in_5 : decode cX12_in 5 = .ok (.iload_n 0, 1) := by decide +kernel
theorem dX12_in_6 : decode cX12_in 6 = .ok (.iload_n 2, 1) := by decide +kernel
theorem dX12_in_7 : decode cX12_in 7 = .ok (.if_icmp .gt 7, 3) := by decide +kernel
theorem dX12_in_10 : decode cX12_in 10 = .ok (.iconst 1, 1) := by decide +kernel
theorem dX12_in_11 : decode cX12_in 11 = .ok (.goto 4, 3) := by decide +kernel
theorem dX12_in_14 : decode cX12_in 14 = .ok (.iconst 0, 1) := by decide +kernel
theorem dX12_in_15 : decode cX12_in 15 = .ok (.ireturn, 1) := by decide +kernel
theorem dX12_has_0 : decode cX12_has 0 = .ok (.iload_n 0, 1) := by decide +kernel
theorem dX12_has_1 : decode cX12_has 1 = .ok (.iload_n 1, 1) := by decide +kernel
theorem dX12_has_2 : decode cX12_has 2 = .ok (.ishr, 1) := by decide +kernel
theorem dX12_has_3 : decode cX12_has 3 = .ok (.iconst 1, 1) := by decide +kernel
theorem dX12_has_4 : decode cX12_has 4 = .ok (.iand, 1) := by decide +kernel
theorem dX12_has_5 : decode cX12_has 5 = .ok (.iconst 1, 1) := by decide +kernel
theorem dX12_has_6 : decode cX12_has 6 = .ok (.if_icmp .ne 7, 3) := by decide +kernel
theorem dX12_has_9 : decode cX12_has 9 = .ok (.iconst 1, 1) := by decide +kernel
theorem dX12_has_10 : decode cX12_has 10 = .ok (.goto 4, 3) := by decide +kernel
theorem dX12_has_13 : decode cX12_has 13 = .ok (.iconst 0, 1) := by decide +kernel
theorem dX12_has_14 : decode cX12_has 14 = .ok (.ireturn, 1) := by decide +kernel
theorem dX12_isOne_0 : decode cX12_isOne 0 = .ok (.iload_n 1, 1) := by decide +kernel
theorem dX12_isOne_1 : decode cX12_isOne 1 = .ok (.iconst 0, 1) := by decide +kernel
theorem dX12_isOne_2 : decode cX12_isOne 2 = .ok (.aload_n 0, 1) := by decide +kernel
theorem dX12_isOne_3 : decode cX12_isOne 3 = .ok (.getfield 13, 3) := by decide +kernel
theorem dX12_isOne_6 : decode cX12_isOne 6 = .ok (.iconst 0, 1) := by decide +kernel
theorem dX12_isOne_7 : decode cX12_isOne 7 = .ok (.iaload, 1) := by decide +kernel
theorem dX12_isOne_8 : decode cX12_isOne 8 = .ok (.iconst 1, 1) := by decide +kernel
theorem dX12_isOne_9 : decode cX12_isOne 9 = .ok (.isub, 1) := by decide +kernel
theorem dX12_isOne_10 : decode cX12_isOne 10 = .ok (.invokestatic 48, 3) := by decide +kernel
theorem dX12_isOne_13 : decode cX12_isOne 13 = .ok (.ireturn, 1) := by decide +kernel
theorem dX12_isCell_0 : decode cX12_isCell 0 = .ok (.iload_n 0, 1) := by decide +kernel
theorem dX12_isCell_1 : decode cX12_isCell 1 = .ok (.iconst 0, 1) := by decide +kernel
theorem dX12_isCell_2 : decode cX12_isCell 2 = .ok (.bipush 55, 2) := by decide +kernel
theorem dX12_isCell_4 : decode cX12_isCell 4 = .ok (.invokestatic 48, 3) := by decide +kernel
theorem dX12_isCell_7 : decode cX12_isCell 7 = .ok (.ifCond .eq 16, 3) := by decide +kernel
theorem dX12_isCell_10 : decode cX12_isCell 10 = .ok (.iload_n 0, 1) := by decide +kernel
theorem dX12_isCell_11 : decode cX12_isCell 11 = .ok (.bipush 10, 2) := by decide +kernel
theorem dX12_isCell_13 : decode cX12_isCell 13 = .ok (.irem, 1) := by decide +kernel
theorem dX12_isCell_14 : decode cX12_isCell 14 = .ok (.bipush 6, 2) := by decide +kernel
theorem dX12_isCell_16 : decode cX12_isCell 16 = .ok (.if_icmp .ge 7, 3) := by decide +kernel
theorem dX12_isCell_19 : decode cX12_isCell 19 = .ok (.iconst 1, 1) := by decide +kernel
theorem dX12_isCell_20 : decode cX12_isCell 20 = .ok (.goto 4, 3) := by decide +kernel
theorem dX12_isCell_23 : decode cX12_isCell 23 = .ok (.iconst 0, 1) := by decide +kernel
theorem dX12_isCell_24 : decode cX12_isCell 24 = .ok (.ireturn, 1) := by decide +kernel
theorem dX12_ones_0 : decode cX12_ones 0 = .ok (.iconst 0, 1) := by decide +kernel
theorem dX12_ones_1 : decode cX12_ones 1 = .ok (.istore_n 1, 1) := by decide +kernel
theorem dX12_ones_2 : decode cX12_ones 2 = .ok (.iconst 0, 1) := by decide +kernel
theorem dX12_ones_3 : decode cX12_ones 3 = .ok (.istore_n 2, 1) := by decide +kernel
theorem dX12_ones_4 : decode cX12_ones 4 = .ok (.iload_n 2, 1) := by decide +kernel
theorem dX12_ones_5 : decode cX12_ones 5 = .ok (.bipush 8, 2) := by decide +kernel
theorem dX12_ones_7 : decode cX12_ones 7 = .ok (.if_icmp .ge 17, 3) := by decide +kernel
theorem dX12_ones_10 : decode cX12_ones 10 = .ok (.iload_n 1, 1) := by decide +kernel
theorem dX12_ones_11 : decode cX12_ones 11 = .ok (.iload_n 0, 1) := by decide +kernel
theorem dX12_ones_12 : decode cX12_ones 12 = .ok (.iload_n 2, 1) := by decide +kernel
theorem dX12_ones_13 : decode cX12_ones 13 = .ok (.ishr, 1) := by decide +kernel
theorem dX12_ones_14 : decode cX12_ones 14 = .ok (.iconst 1, 1) := by decide +kernel
theorem dX12_ones_15 : decode cX12_ones 15 = .ok (.iand, 1) := by decide +kernel
theorem dX12_ones_16 : decode cX12_ones 16 = .ok (.iadd, 1) := by decide +kernel
theorem dX12_ones_17 : decode cX12_ones 17 = .ok (.istore_n 1, 1) := by decide +kernel
theorem dX12_ones_18 : decode cX12_ones 18 = .ok (.iinc 2 1, 3) := by decide +kernel
theorem dX12_ones_21 : decode cX12_ones 21 = .ok (.goto (-17), 3) := by decide +kernel
theorem dX12_ones_24 : decode cX12_ones 24 = .ok (.iload_n 1, 1) := by decide +kernel
theorem dX12_ones_25 : decode cX12_ones 25 = .ok (.ireturn, 1) := by decide +kernel
theorem dX12_type_0 : decode cX12_type 0 = .ok (.iload_n 1, 1) := by decide +kernel
theorem dX12_type_1 : decode cX12_type 1 = .ok (.iconst 0, 1) := by decide +kernel
theorem dX12_type_2 : decode cX12_type 2 = .ok (.sipush 255, 3) := by decide +kernel
theorem dX12_type_5 : decode cX12_type 5 = .ok (.invokestatic 48, 3) := by decide +kernel
theorem dX12_type_8 : decode cX12_type 8 = .ok (.ifCond .ne 5, 3) := by decide +kernel
theorem dX12_type_11 : decode cX12_type 11 = .ok (.iconst (-1), 1) := by decide +kernel
theorem dX12_type_12 : decode cX12_type 12 = .ok (.ireturn, 1) := by decide +kernel
theorem dX12_type_13 : decode cX12_type 13 = .ok (.aload_n 0, 1) := by decide +kernel
theorem dX12_type_14 : decode cX12_type 14 = .ok (.getfield 52, 3) := by decide +kernel
theorem dX12_type_17 : decode cX12_type 17 = .ok (.bipush 100, 2) := by decide +kernel
theorem dX12_type_19 : decode cX12_type 19 = .ok (.if_icmp .ne 6, 3) := by decide +kernel
theorem dX12_type_22 : decode cX12_type 22 = .ok (.bipush (-3), 2) := by decide +kernel
theorem dX12_type_24 : decode cX12_type 24 = .ok (.ireturn, 1) := by decide +kernel
theorem dX12_type_25 : decode cX12_type 25 = .ok (.aload_n 0, 1) := by decide +kernel
theorem dX12_type_26 : decode cX12_type 26 = .ok (.getfield 7, 3) := by decide +kernel
theorem dX12_type_29 : decode cX12_type 29 = .ok (.aload_n 0, 1) := by decide +kernel
theorem dX12_type_30 : decode cX12_type 30 = .ok (.getfield 52, 3) := by decide +kernel
theorem dX12_type_33 : decode cX12_type 33 = .ok (.iload_n 1, 1) := by decide +kernel
theorem dX12_type_34 : decode cX12_type 34 = .ok (.iastore, 1) := by decide +kernel
theorem dX12_type_35 : decode cX12_type 35 = .ok (.aload_n 0, 1) := by decide +kernel
theorem dX12_type_36 : decode cX12_type 36 = .ok (.dup, 1) := by decide +kernel
theorem dX12_type_37 : decode cX12_type 37 = .ok (.getfield 52, 3) := by decide +kernel
theorem dX12_type_40 : decode cX12_type 40 = .ok (.iconst 1, 1) := by decide +kernel
theorem dX12_type_41 : decode cX12_type 41 = .ok (.iadd, 1) := by decide +kernel
theorem dX12_type_42 : decode cX12_type 42 = .ok (.putfield 52, 3) := by decide +kernel
theorem dX12_type_45 : decode cX12_type 45 = .ok (.aload_n 0, 1) := by decide +kernel
theorem dX12_type_46 : decode cX12_type 46 = .ok (.getfield 52, 3) := by decide +kernel
theorem dX12_type_49 : decode cX12_type 49 = .ok (.ireturn, 1) := by decide +kernel
theorem dX12_clear_0 : decode cX12_clear 0 = .ok (.aload_n 0, 1) := by decide +kernel
theorem dX12_clear_1 : decode cX12_clear 1 = .ok (.getfield 52, 3) := by decide +kernel
theorem dX12_clear_4 : decode cX12_clear 4 = .ok (.istore_n 1, 1) := by decide +kernel
theorem dX12_clear_5 : decode cX12_clear 5 = .ok (.aload_n 0, 1) := by decide +kernel
theorem dX12_clear_6 : decode cX12_clear 6 = .ok (.iconst 0, 1) := by decide +kernel
theorem dX12_clear_7 : decode cX12_clear 7 = .ok (.putfield 52, 3) := by decide +kernel
theorem dX12_clear_10 : decode cX12_clear 10 = .ok (.iload_n 1, 1) := by decide +kernel
theorem dX12_clear_11 : decode cX12_clear 11 = .ok (.ireturn, 1) := by decide +kernel
theorem dX12_letterAt_0 : decode cX12_letterAt 0 = .ok (.iload_n 1, 1) := by decide +kernel
theorem dX12_letterAt_1 : decode cX12_letterAt 1 = .ok (.aload_n 0, 1) := by decide +kernel
theorem dX12_letterAt_2 : decode cX12_letterAt 2 = .ok (.getfield 52, 3) := by decide +kernel
theorem dX12_letterAt_5 : decode cX12_letterAt 5 = .ok (.if_icmp .ge 12, 3) := by decide +kernel
theorem dX12_letterAt_8 : decode cX12_letterAt 8 = .ok (.aload_n 0, 1) := by decide +kernel
theorem dX12_letterAt_9 : decode cX12_letterAt 9 = .ok (.getfield 7, 3) := by decide +kernel
theorem dX12_letterAt_12 : decode cX12_letterAt 12 = .ok (.iload_n 1, 1) := by decide +kernel
theorem dX12_letterAt_13 : decode cX12_letterAt 13 = .ok (.iaload, 1) := by decide +kernel
theorem dX12_letterAt_14 : decode cX12_letterAt 14 = .ok (.goto 4, 3) := by decide +kernel
theorem dX12_letterAt_17 : decode cX12_letterAt 17 = .ok (.iconst (-1), 1) := by decide +kernel
theorem dX12_letterAt_18 : decode cX12_letterAt 18 = .ok (.ireturn, 1) := by decide +kernel
theorem dX12_isDigit_0 : decode cX12_isDigit 0 = .ok (.iload_n 0, 1) := by decide +kernel
theorem dX12_isDigit_1 : decode cX12_isDigit 1 = .ok (.bipush 48, 2) := by decide +kernel
theorem dX12_isDigit_3 : decode cX12_isDigit 3 = .ok (.bipush 57, 2) := by decide +kernel
theorem dX12_isDigit_5 : decode cX12_isDigit 5 = .ok (.invokestatic 48, 3) := by decide +kernel
theorem dX12_isDigit_8 : decode cX12_isDigit 8 = .ok (.ireturn, 1) := by decide +kernel
theorem dX12_isWord_0 : decode cX12_isWord 0 = .ok (.iload_n 0, 1) := by decide +kernel
theorem dX12_isWord_1 : decode cX12_isWord 1 = .ok (.bipush 112, 2) := by decide +kernel
theorem dX12_isWord_3 : decode cX12_isWord 3 = .ok (.if_icmp .eq 15, 3) := by decide +kernel
theorem dX12_isWord_6 : decode cX12_isWord 6 = .ok (.iload_n 0, 1) := by decide +kernel
theorem dX12_isWord_7 : decode cX12_isWord 7 = .ok (.bipush 115, 2) := by decide +kernel
theorem dX12_isWord_9 : decode cX12_isWord 9 = .ok (.if_icmp .eq 9, 3) := by decide +kernel
theorem dX12_isWord_12 : decode cX12_isWord 12 = .ok (.iload_n 0, 1) := by decide +kernel
theorem dX12_isWord_13 : decode cX12_isWord 13 = .ok (.bipush 102, 2) := by decide +kernel
theorem dX12_isWord_15 : decode cX12_isWord 15 = .ok (.if_icmp .ne 7, 3) := by decide +kernel
theorem dX12_isWord_18 : decode cX12_isWord 18 = .ok (.iconst 1, 1) := by decide +kernel
theorem dX12_isWord_19 : decode cX12_isWord 19 = .ok (.goto 4, 3) := by decide +kernel
theorem dX12_isWord_22 : decode cX12_isWord 22 = .ok (.iconst 0, 1) := by decide +kernel
theorem dX12_isWord_23 : decode cX12_isWord 23 = .ok (.ireturn, 1) := by decide +kernel
theorem dX12_token_0 : decode cX12_token 0 = .ok (.aload_n 0, 1) := by decide +kernel
theorem dX12_token_1 : decode cX12_token 1 = .ok (.aload_n 0, 1) := by decide +kernel
theorem dX12_token_2 : decode cX12_token 2 = .ok (.getfield 56, 3) := by decide +kernel
theorem dX12_token_5 : decode cX12_token 5 = .ok (.invokevirtual 59, 3) := by decide +kernel
theorem dX12_token_8 : decode cX12_token 8 = .ok (.bipush 32, 2) := by decide +kernel
theorem dX12_token_10 : decode cX12_token 10 = .ok (.if_icmp .ne 16, 3) := by decide +kernel
theorem dX12_token_13 : decode cX12_token 13 = .ok (.aload_n 0, 1) := by decide +kernel
theorem dX12_token_14 : decode cX12_token 14 = .ok (.dup, 1) := by decide +kernel
theorem dX12_token_15 : decode cX12_token 15 = .ok (.getfield 56, 3) := by decide +kernel
theorem dX12_token_18 : decode cX12_token 18 = .ok (.iconst 1, 1) := by decide +kernel
theorem dX12_token_19 : decode cX12_token 19 = .ok (.iadd, 1) := by decide +kernel
theorem dX12_token_20 : decode cX12_token 20 = .ok (.putfield 56, 3) := by decide +kernel
theorem dX12_token_23 : decode cX12_token 23 = .ok (.goto (-23), 3) := by decide +kernel
theorem dX12_token_26 : decode cX12_token 26 = .ok (.aload_n 0, 1) := by decide +kernel
theorem dX12_token_27 : decode cX12_token 27 = .ok (.aload_n 0, 1) := by decide +kernel
theorem dX12_token_28 : decode cX12_token 28 = .ok (.getfield 56, 3) := by decide +kernel
theorem dX12_token_31 : decode cX12_token 31 = .ok (.putfield 63, 3) := by decide +kernel
theorem dX12_token_34 : decode cX12_token 34 = .ok (.aload_n 0, 1) := by decide +kernel
theorem dX12_token_35 : decode cX12_token 35 = .ok (.aload_n 0, 1) := by decide +kernel
theorem dX12_token_36 : decode cX12_token 36 = .ok (.getfield 56, 3) := by decide +kernel
theorem dX12_token_39 : decode cX12_token 39 = .ok (.invokevirtual 59, 3) := by decide +kernel
theorem dX12_token_42 : decode cX12_token 42 = .ok (.istore_n 1, 1) := by decide +kernel
theorem dX12_token_43 : decode cX12_token 43 = .ok (.aload_n 0, 1) := by decide +kernel
theorem dX12_token_44 : decode cX12_token 44 = .ok (.iload_n 1, 1) := by decide +kernel
theorem dX12_token_45 : decode cX12_token 45 = .ok (.ifCond .ge 7, 3) := by decide +kernel
theorem dX12_token_48 : decode cX12_token 48 = .ok (.iconst 0, 1) := by decide +kernel
theorem dX12_token_49 : decode cX12_token 49 = .ok (.goto 36, 3) := by decide +kernel
theorem dX12_token_52 : decode cX12_token 52 = .ok (.iload_n 1, 1) := by decide +kernel
theorem dX12_token_53 : decode cX12_token 53 = .ok (.invokestatic 66, 3) := by decide +kernel
theorem dX12_token_56 : decode cX12_token 56 = .ok (.ifCond .eq 7, 3) := by decide +kernel
theorem dX12_token_59 : decode cX12_token 59 = .ok (.iconst 1, 1) := by decide +kernel
theorem dX12_token_60 : decode cX12_token 60 = .ok (.goto 25, 3) := by decide +kernel
theorem dX12_token_63 : decode cX12_token 63 = .ok (.iload_n 1, 1) := by decide +kernel
theorem dX12_token_64 : decode cX12_token 64 = .ok (.invokestatic 70, 3) := by decide +kernel
theorem dX12_token_67 : decode cX12_token 67 = .ok (.ifCond .eq 7, 3) := by decide +kernel
theorem dX12_token_70 : decode cX12_token 70 = .ok (.iconst 2, 1) := by decide +kernel
theorem dX12_token_71 : decode cX12_token 71 = .ok (.goto 14, 3) := by decide +kernel
theorem dX12_token_74 : decode cX12_token 74 = .ok (.iload_n 1, 1) := by decide +kernel
theorem dX12_token_75 : decode cX12_token 75 = .ok (.bipush 59, 2) := by decide +kernel
theorem dX12_token_77 : decode cX12_token 77 = .ok (.if_icmp .ne 7, 3) := by decide +kernel
theorem dX12_token_80 : decode cX12_token 80 = .ok (.iconst 3, 1) := by decide +kernel
theorem dX12_token_81 : decode cX12_token 81 = .ok (.goto 4, 3) := by decide +kernel
theorem dX12_token_84 : decode cX12_token 84 = .ok (.iconst 4, 1) := by decide +kernel
theorem dX12_token_85 : decode cX12_token 85 = .ok (.putfield 73, 3) := by decide +kernel
theorem dX12_token_88 : decode cX12_token 88 = .ok (.aload_n 0, 1) := by decide +kernel
theorem dX12_token_89 : decode cX12_token 89 = .ok (.iload_n 1, 1) := by decide +kernel
theorem dX12_token_90 : decode cX12_token 90 = .ok (.putfield 76, 3) := by decide +kernel
theorem dX12_token_93 : decode cX12_token 93 = .ok (.aload_n 0, 1) := by decide +kernel
theorem dX12_token_94 : decode cX12_token 94 = .ok (.dup, 1) := by decide +kernel
theorem dX12_token_95 : decode cX12_token 95 = .ok (.getfield 56, 3) := by decide +kernel
theorem dX12_token_98 : decode cX12_token 98 = .ok (.aload_n 0, 1) := by decide +kernel
theorem dX12_token_99 : decode cX12_token 99 = .ok (.getfield 73, 3) := by decide +kernel
theorem dX12_token_102 : decode cX12_token 102 = .ok (.ifCond .ne 7, 3) := by decide +kernel
theorem dX12_token_105 : decode cX12_token 105 = .ok (.iconst 0, 1) := by decide +kernel
theorem dX12_token_106 : decode cX12_token 106 = .ok (.goto 4, 3) := by decide +kernel
theorem dX12_token_109 : decode cX12_token 109 = .ok (.iconst 1, 1) := by decide +kernel
theorem dX12_token_110 : decode cX12_token 110 = .ok (.iadd, 1) := by decide +kernel
theorem dX12_token_111 : decode cX12_token 111 = .ok (.putfield 56, 3) := by decide +kernel
theorem dX12_token_114 : decode cX12_token 114 = .ok (.aload_n 0, 1) := by decide +kernel
theorem dX12_token_115 : decode cX12_token 115 = .ok (.getfield 73, 3) := by decide +kernel
theorem dX12_token_118 : decode cX12_token 118 = .ok (.iconst 2, 1) := by decide +kernel
theorem dX12_token_119 : decode cX12_token 119 = .ok (.if_icmp .ne 83, 3) := by decide +kernel
theorem dX12_token_122 : decode cX12_token 122 = .ok (.aload_n 0, 1) := by decide +kernel
theorem dX12_token_123 : decode cX12_token 123 = .ok (.iload_n 1, 1) := by decide +kernel
theorem dX12_token_124 : decode cX12_token 124 = .ok (.bipush 48, 2) := by decide +kernel
theorem dX12_token_126 : decode cX12_token 126 = .ok (.isub, 1) := by decide +kernel
theorem dX12_token_127 : decode cX12_token 127 = .ok (.putfield 76, 3) := by decide +kernel
theorem dX12_token_130 : decode cX12_token 130 = .ok (.aload_n 0, 1) := by decide +kernel
theorem dX12_token_131 : decode cX12_token 131 = .ok (.aload_n 0, 1) := by decide +kernel
theorem dX12_token_132 : decode cX12_token 132 = .ok (.getfield 56, 3) := by decide +kernel
theorem dX12_token_135 : decode cX12_token 135 = .ok (.invokevirtual 59, 3) := by decide +kernel
theorem dX12_token_138 : decode cX12_token 138 = .ok (.invokestatic 70, 3) := by decide +kernel
theorem dX12_token_141 : decode cX12_token 141 = .ok (.ifCond .eq 61, 3) := by decide +kernel
theorem dX12_token_144 : decode cX12_token 144 = .ok (.aload_n 0, 1) := by decide +kernel
theorem dX12_token_145 : decode cX12_token 145 = .ok (.iload_n 1, 1) := by decide +kernel
theorem dX12_token_146 : decode cX12_token 146 = .ok (.bipush 48, 2) := by decide +kernel
theorem dX12_token_148 : decode cX12_token 148 = .ok (.if_icmp .eq 12, 3) := by decide +kernel
theorem dX12_token_151 : decode cX12_token 151 = .ok (.aload_n 0, 1) := by decide +kernel
theorem dX12_token_152 : decode cX12_token 152 = .ok (.getfield 76, 3) := by decide +kernel
theorem dX12_token_155 : decode cX12_token 155 = .ok (.bipush 99, 2) := by decide +kernel
theorem dX12_token_157 : decode cX12_token 157 = .ok (.if_icmp .le 9, 3) := by decide +kernel
theorem dX12_token_160 : decode cX12_token 160 = .ok (.sipush 1000, 3) := by decide +kernel
theorem dX12_token_163 : decode cX12_token 163 = .ok (.goto 23, 3) := by decide +kernel
theorem dX12_token_166 : decode cX12_token 166 = .ok (.bipush 10, 2) := by decide +kernel
theorem dX12_token_168 : decode cX12_token 168 = .ok (.aload_n 0, 1) := by decide +kernel
theorem dX12_token_169 : decode cX12_token 169 = .ok (.getfield 76, 3) := by decide +kernel
theorem dX12_token_172 : decode cX12_token 172 = .ok (.imul, 1) := by decide +kernel
theorem dX12_token_173 : decode cX12_token 173 = .ok (.aload_n 0, 1) := by decide +kernel
theorem dX12_token_174 : decode cX12_token 174 = .ok (.getfield 7, 3) := by decide +kernel
theorem dX12_token_177 : decode cX12_token 177 = .ok (.aload_n 0, 1) := by decide +kernel
theorem dX12_token_178 : decode cX12_token 178 = .ok (.getfield 56, 3) := by decide +kernel
theorem dX12_token_181 : decode cX12_token 181 = .ok (.iaload, 1) := by decide +kernel
theorem dX12_token_182 : decode cX12_token 182 = .ok (.iadd, 1) := by decide +kernel
theorem dX12_token_183 : decode cX12_token 183 = .ok (.bipush 48, 2) := by decide +kernel
theorem dX12_token_185 : decode cX12_token 185 = .ok (.isub, 1) := by decide +kernel
theorem dX12_token_186 : decode cX12_token 186 = .ok (.putfield 76, 3) := by decide +kernel
theorem dX12_token_189 : decode cX12_token 189 = .ok (.aload_n 0, 1) := by decide +kernel
theorem dX12_token_190 : decode cX12_token 190 = .ok (.dup, 1) := by decide +kernel
theorem dX12_token_191 : decode cX12_token 191 = .ok (.getfield 56, 3) := by decide +kernel
theorem dX12_token_194 : decode cX12_token 194 = .ok (.iconst 1, 1) := by decide +kernel
theorem dX12_token_195 : decode cX12_token 195 = .ok (.iadd, 1) := by decide +kernel
theorem dX12_token_196 : decode cX12_token 196 = .ok (.putfield 56, 3) := by decide +kernel
theorem dX12_token_199 : decode cX12_token 199 = .ok (.goto (-69), 3) := by decide +kernel
theorem dX12_token_202 : decode cX12_token 202 = .ok (.return_, 1) := by decide +kernel
theorem dX12_number_0 : decode cX12_number 0 = .ok (.aload_n 0, 1) := by decide +kernel
theorem dX12_number_1 : decode cX12_number 1 = .ok (.invokevirtual 79, 3) := by decide +kernel
theorem dX12_number_4 : decode cX12_number 4 = .ok (.aload_n 0, 1) := by decide +kernel
theorem dX12_number_5 : decode cX12_number 5 = .ok (.getfield 73, 3) := by decide +kernel
theorem dX12_number_8 : decode cX12_number 8 = .ok (.iconst 2, 1) := by decide +kernel
theorem dX12_number_9 : decode cX12_number 9 = .ok (.if_icmp .ne 19, 3) := by decide +kernel
theorem dX12_number_12 : decode cX12_number 12 = .ok (.aload_n 0, 1) := by decide +kernel
theorem dX12_number_13 : decode cX12_number 13 = .ok (.getfield 76, 3) := by decide +kernel
theorem dX12_number_16 : decode cX12_number 16 = .ok (.iload_n 1, 1) := by decide +kernel
theorem dX12_number_17 : decode cX12_number 17 = .ok (.iload_n 2, 1) := by decide +kernel
theorem dX12_number_18 : decode cX12_number 18 = .ok (.invokestatic 48, 3) := by decide +kernel
theorem dX12_number_21 : decode cX12_number 21 = .ok (.ifCond .eq 7, 3) := by decide +kernel
theorem dX12_number_24 : decode cX12_number 24 = .ok (.iconst 1, 1) := by decide +kernel
theorem dX12_number_25 : decode cX12_number 25 = .ok (.goto 4, 3) := by decide +kernel
theorem dX12_number_28 : decode cX12_number 28 = .ok (.iconst 0, 1) := by decide +kernel
theorem dX12_number_29 : decode cX12_number 29 = .ok (.ireturn, 1) := by decide +kernel
theorem dX12_readsItem_0 : decode cX12_readsItem 0 = .ok (.aload_n 0, 1) := by decide +kernel
theorem dX12_readsItem_1 : decode cX12_readsItem 1 = .ok (.getfield 73, 3) := by decide +kernel
theorem dX12_readsItem_4 : decode cX12_readsItem 4 = .ok (.iconst 1, 1) := by decide +kernel
theorem dX12_readsItem_5 : decode cX12_readsItem 5 = .ok (.if_icmp .ne 10, 3) := by decide +kernel
theorem dX12_readsItem_8 : decode cX12_readsItem 8 = .ok (.aload_n 0, 1) := by decide +kernel
theorem dX12_readsItem_9 : decode cX12_readsItem 9 = .ok (.getfield 76, 3) := by decide +kernel
theorem dX12_readsItem_12 : decode cX12_readsItem 12 = .ok (.goto 4, 3) := by decide +kernel
theorem dX12_readsItem_15 : decode cX12_readsItem 15 = .ok (.iconst 0, 1) := by decide +kernel
theorem dX12_readsItem_16 : decode cX12_readsItem 16 = .ok (.istore_n 1, 1) := by decide +kernel
theorem dX12_readsItem_17 : decode cX12_readsItem 17 = .ok (.aload_n 0, 1) := by decide +kernel
theorem dX12_readsItem_18 : decode cX12_readsItem 18 = .ok (.getfield 16, 3) := by decide +kernel
theorem dX12_readsItem_21 : decode cX12_readsItem 21 = .ok (.iconst 0, 1) := by decide +kernel
theorem dX12_readsItem_22 : decode cX12_readsItem 22 = .ok (.iaload, 1) := by decide +kernel
theorem dX12_readsItem_23 : decode cX12_readsItem 23 = .ok (.istore_n 2, 1) := by decide +kernel
theorem dX12_readsItem_24 : decode cX12_readsItem 24 = .ok (.iload_n 1, 1) := by decide +kernel
theorem dX12_readsItem_25 : decode cX12_readsItem 25 = .ok (.lookupswitch 246 #[(102, 183), (112, 35), (115, 142)], 35) := by decide +kernel
theorem dX12_readsItem_60 : decode cX12_readsItem 60 = .ok (.iload_n 2, 1) := by decide +kernel
theorem dX12_readsItem_61 : decode cX12_readsItem 61 = .ok (.iconst 5, 1) := by decide +kernel
theorem dX12_readsItem_62 : decode cX12_readsItem 62 = .ok (.if_icmp .eq 12, 3) := by decide +kernel
theorem dX12_readsItem_65 : decode cX12_readsItem 65 = .ok (.aload_n 0, 1) := by decide +kernel
theorem dX12_readsItem_66 : decode cX12_readsItem 66 = .ok (.iconst 0, 1) := by decide +kernel
theorem dX12_readsItem_67 : decode cX12_readsItem 67 = .ok (.iconst 5, 1) := by decide +kernel
theorem dX12_readsItem_68 : decode cX12_readsItem 68 = .ok (.invokevirtual 82, 3) := by decide +kernel
theorem dX12_readsItem_71 : decode cX12_readsItem 71 = .ok (.ifCond .ne 5, 3) := by decide +kernel
theorem dX12_readsItem_74 : decode cX12_readsItem 74 = .ok (.iconst 0, 1) := by decide +kernel
theorem dX12_readsItem_75 : decode cX12_readsItem 75 = .ok (.ireturn, 1) := by decide +kernel
theorem dX12_readsItem_76 : decode cX12_readsItem 76 = .ok (.aload_n 0, 1) := by decide +kernel
theorem dX12_readsItem_77 : decode cX12_readsItem 77 = .ok (.getfield 76, 3) := by decide +kernel
theorem dX12_readsItem_80 : decode cX12_readsItem 80 = .ok (.istore_n 3, 1) := by decide +kernel
theorem dX12_readsItem_81 : decode cX12_readsItem 81 = .ok (.aload_n 0, 1) := by decide +kernel
theorem dX12_readsItem_82 : decode cX12_readsItem 82 = .ok (.iconst 0, 1) := by decide +kernel
theorem dX12_readsItem_83 : decode cX12_readsItem 83 = .ok (.iconst 5, 1) := by decide +kernel
theorem dX12_readsItem_84 : decode cX12_readsItem 84 = .ok (.invokevirtual 82, 3) := by decide +kernel
theorem dX12_readsItem_87 : decode cX12_readsItem 87 = .ok (.ifCond .ne 5, 3) := by decide +kernel
theorem dX12_readsItem_90 : decode cX12_readsItem 90 = .ok (.iconst 0, 1) := by decide +kernel
theorem dX12_readsItem_91 : decode cX12_readsItem 91 = .ok (.ireturn, 1) := by decide +kernel
theorem dX12_readsItem_92 : decode cX12_readsItem 92 = .ok (.aload_n 0, 1) := by decide +kernel
theorem dX12_readsItem_93 : decode cX12_readsItem 93 = .ok (.getfield 19, 3) := by decide +kernel
theorem dX12_readsItem_96 : decode cX12_readsItem 96 = .ok (.iload_n 2, 1) := by decide +kernel
theorem dX12_readsItem_97 : decode cX12_readsItem 97 = .ok (.bipush 6, 2) := by decide +kernel
theorem dX12_readsItem_99 : decode cX12_readsItem 99 = .ok (.iload_n 3, 1) := by decide +kernel
theorem dX12_readsItem_100 : decode cX12_readsItem 100 = .ok (.imul, 1) := by decide +kernel
theorem dX12_readsItem_101 : decode cX12_readsItem 101 = .ok (.aload_n 0, 1) := by decide +kernel
theorem dX12_readsItem_102 : decode cX12_readsItem 102 = .ok (.getfield 76, 3) := by decide +kernel
theorem dX12_readsItem_105 : decode cX12_readsItem 105 = .ok (.iadd, 1) := by decide +kernel
theorem dX12_readsItem_106 : decode cX12_readsItem 106 = .ok (.iastore, 1) := by decide +kernel
theorem dX12_readsItem_107 : decode cX12_readsItem 107 = .ok (.aload_n 0, 1) := by decide +kernel
theorem dX12_readsItem_108 : decode cX12_readsItem 108 = .ok (.iconst 1, 1) := by decide +kernel
theorem dX12_readsItem_109 : decode cX12_readsItem 109 = .ok (.iconst 4, 1) := by decide +kernel
theorem dX12_readsItem_110 : decode cX12_readsItem 110 = .ok (.invokevirtual 82, 3) := by decide +kernel
theorem dX12_readsItem_113 : decode cX12_readsItem 113 = .ok (.ifCond .ne 5, 3) := by decide +kernel
theorem dX12_readsItem_116 : decode cX12_readsItem 116 = .ok (.iconst 0, 1) := by decide +kernel
theorem dX12_readsItem_117 : decode cX12_readsItem 117 = .ok (.ireturn, 1) := by decide +kernel
theorem dX12_readsItem_118 : decode cX12_readsItem 118 = .ok (.aload_n 0, 1) := by decide +kernel
theorem dX12_readsItem_119 : decode cX12_readsItem 119 = .ok (.getfield 16, 3) := by decide +kernel
theorem dX12_readsItem_122 : decode cX12_readsItem 122 = .ok (.iconst 4, 1) := by decide +kernel
theorem dX12_readsItem_123 : decode cX12_readsItem 123 = .ok (.iload_n 2, 1) := by decide +kernel
theorem dX12_readsItem_124 : decode cX12_readsItem 124 = .ok (.iadd, 1) := by decide +kernel
theorem dX12_readsItem_125 : decode cX12_readsItem 125 = .ok (.aload_n 0, 1) := by decide +kernel
theorem dX12_readsItem_126 : decode cX12_readsItem 126 = .ok (.getfield 76, 3) := by decide +kernel
theorem dX12_readsItem_129 : decode cX12_readsItem 129 = .ok (.iastore, 1) := by decide +kernel
theorem dX12_readsItem_130 : decode cX12_readsItem 130 = .ok (.aload_n 0, 1) := by decide +kernel
theorem dX12_readsItem_131 : decode cX12_readsItem 131 = .ok (.iconst 0, 1) := by decide +kernel
theorem dX12_readsItem_132 : decode cX12_readsItem 132 = .ok (.bipush 9, 2) := by decide +kernel
theorem dX12_readsItem_134 : decode cX12_readsItem 134 = .ok (.invokevirtual 82, 3) := by decide +kernel
theorem dX12_readsItem_137 : decode cX12_readsItem 137 = .ok (.ifCond .ne 5, 3) := by decide +kernel
theorem dX12_readsItem_140 : decode cX12_readsItem 140 = .ok (.iconst 0, 1) := by decide +kernel
theorem dX12_readsItem_141 : decode cX12_readsItem 141 = .ok (.ireturn, 1) := by decide +kernel
theorem dX12_readsItem_142 : decode cX12_readsItem 142 = .ok (.aload_n 0, 1) := by decide +kernel
theorem dX12_readsItem_143 : decode cX12_readsItem 143 = .ok (.getfield 16, 3) := by decide +kernel
theorem dX12_readsItem_146 : decode cX12_readsItem 146 = .ok (.bipush 9, 2) := by decide +kernel
theorem dX12_readsItem_148 : decode cX12_readsItem 148 = .ok (.iload_n 2, 1) := by decide +kernel
theorem dX12_readsItem_149 : decode cX12_readsItem 149 = .ok (.iadd, 1) := by decide +kernel
theorem dX12_readsItem_150 : decode cX12_readsItem 150 = .ok (.aload_n 0, 1) := by decide +kernel
theorem dX12_readsItem_151 : decode cX12_readsItem 151 = .ok (.getfield 76, 3) := by decide +kernel
theorem dX12_readsItem_154 : decode cX12_readsItem 154 = .ok (.iastore, 1) := by decide +kernel
theorem dX12_readsItem_155 : decode cX12_readsItem 155 = .ok (.aload_n 0, 1) := by decide +kernel
theorem dX12_readsItem_156 : decode cX12_readsItem 156 = .ok (.getfield 16, 3) := by decide +kernel
theorem dX12_readsItem_159 : decode cX12_readsItem 159 = .ok (.iconst 0, 1) := by decide +kernel
theorem dX12_readsItem_160 : decode cX12_readsItem 160 = .ok (.dup2, 1) := by decide +kernel
theorem dX12_readsItem_161 : decode cX12_readsItem 161 = .ok (.iaload, 1) := by decide +kernel
theorem dX12_readsItem_162 : decode cX12_readsItem 162 = .ok (.iconst 1, 1) := by decide +kernel
theorem dX12_readsItem_163 : decode cX12_readsItem 163 = .ok (.iadd, 1) := by decide +kernel
theorem dX12_readsItem_164 : decode cX12_readsItem 164 = .ok (.iastore, 1) := by decide +kernel
theorem dX12_readsItem_165 : decode cX12_readsItem 165 = .ok (.iconst 1, 1) := by decide +kernel
theorem dX12_readsItem_166 : decode cX12_readsItem 166 = .ok (.ireturn, 1) := by decide +kernel
theorem dX12_readsItem_167 : decode cX12_readsItem 167 = .ok (.aload_n 0, 1) := by decide +kernel
theorem dX12_readsItem_168 : decode cX12_readsItem 168 = .ok (.getfield 16, 3) := by decide +kernel
theorem dX12_readsItem_171 : decode cX12_readsItem 171 = .ok (.iconst 3, 1) := by decide +kernel
theorem dX12_readsItem_172 : decode cX12_readsItem 172 = .ok (.iaload, 1) := by decide +kernel
theorem dX12_readsItem_173 : decode cX12_readsItem 173 = .ok (.iconst 1, 1) := by decide +kernel
theorem dX12_readsItem_174 : decode cX12_readsItem 174 = .ok (.if_icmp .eq 13, 3) := by decide +kernel
theorem dX12_readsItem_177 : decode cX12_readsItem 177 = .ok (.aload_n 0, 1) := by decide +kernel
theorem dX12_readsItem_178 : decode cX12_readsItem 178 = .ok (.iconst 1, 1) := by decide +kernel
theorem dX12_readsItem_179 : decode cX12_readsItem 179 = .ok (.bipush 9, 2) := by decide +kernel
theorem dX12_readsItem_181 : decode cX12_readsItem 181 = .ok (.invokevirtual 82, 3) := by decide +kernel
theorem dX12_readsItem_184 : decode cX12_readsItem 184 = .ok (.ifCond .ne 5, 3) := by decide +kernel
theorem dX12_readsItem_187 : decode cX12_readsItem 187 = .ok (.iconst 0, 1) := by decide +kernel
theorem dX12_readsItem_188 : decode cX12_readsItem 188 = .ok (.ireturn, 1) := by decide +kernel
theorem dX12_readsItem_189 : decode cX12_readsItem 189 = .ok (.aload_n 0, 1) := by decide +kernel
theorem dX12_readsItem_190 : decode cX12_readsItem 190 = .ok (.getfield 16, 3) := by decide +kernel
theorem dX12_readsItem_193 : decode cX12_readsItem 193 = .ok (.iconst 3, 1) := by decide +kernel
theorem dX12_readsItem_194 : decode cX12_readsItem 194 = .ok (.iconst 1, 1) := by decide +kernel
theorem dX12_readsItem_195 : decode cX12_readsItem 195 = .ok (.iastore, 1) := by decide +kernel
theorem dX12_readsItem_196 : decode cX12_readsItem 196 = .ok (.aload_n 0, 1) := by decide +kernel
theorem dX12_readsItem_197 : decode cX12_readsItem 197 = .ok (.getfield 16, 3) := by decide +kernel
theorem dX12_readsItem_200 : decode cX12_readsItem 200 = .ok (.iconst 1, 1) := by decide +kernel
theorem dX12_readsItem_201 : decode cX12_readsItem 201 = .ok (.aload_n 0, 1) := by decide +kernel
theorem dX12_readsItem_202 : decode cX12_readsItem 202 = .ok (.getfield 76, 3) := by decide +kernel
theorem dX12_readsItem_205 : decode cX12_readsItem 205 = .ok (.iastore, 1) := by decide +kernel
theorem dX12_readsItem_206 : decode cX12_readsItem 206 = .ok (.iconst 1, 1) := by decide +kernel
theorem dX12_readsItem_207 : decode cX12_readsItem 207 = .ok (.ireturn, 1) := by decide +kernel
theorem dX12_readsItem_208 : decode cX12_readsItem 208 = .ok (.aload_n 0, 1) := by decide +kernel
theorem dX12_readsItem_209 : decode cX12_readsItem 209 = .ok (.iconst 0, 1) := by decide +kernel
theorem dX12_readsItem_210 : decode cX12_readsItem 210 = .ok (.iconst 5, 1) := by decide +kernel
theorem dX12_readsItem_211 : decode cX12_readsItem 211 = .ok (.invokevirtual 82, 3) := by decide +kernel
theorem dX12_readsItem_214 : decode cX12_readsItem 214 = .ok (.ifCond .ne 5, 3) := by decide +kernel
theorem dX12_readsItem_217 : decode cX12_readsItem 217 = .ok (.iconst 0, 1) := by decide +kernel
theorem dX12_readsItem_218 : decode cX12_readsItem 218 = .ok (.ireturn, 1) := by decide +kernel
theorem dX12_readsItem_219 : decode cX12_readsItem 219 = .ok (.aload_n 0, 1) := by decide +kernel
theorem dX12_readsItem_220 : decode cX12_readsItem 220 = .ok (.getfield 76, 3) := by decide +kernel
theorem dX12_readsItem_223 : decode cX12_readsItem 223 = .ok (.istore_n 3, 1) := by decide +kernel
theorem dX12_readsItem_224 : decode cX12_readsItem 224 = .ok (.aload_n 0, 1) := by decide +kernel
theorem dX12_readsItem_225 : decode cX12_readsItem 225 = .ok (.iconst 0, 1) := by decide +kernel
theorem dX12_readsItem_226 : decode cX12_readsItem 226 = .ok (.iconst 5, 1) := by decide +kernel
theorem dX12_readsItem_227 : decode cX12_readsItem 227 = .ok (.invokevirtual 82, 3) := by decide +kernel
theorem dX12_readsItem_230 : decode cX12_readsItem 230 = .ok (.ifCond .ne 5, 3) := by decide +kernel
theorem dX12_readsItem_233 : decode cX12_readsItem 233 = .ok (.iconst 0, 1) := by decide +kernel
theorem dX12_readsItem_234 : decode cX12_readsItem 234 = .ok (.ireturn, 1) := by decide +kernel
theorem dX12_readsItem_235 : decode cX12_readsItem 235 = .ok (.iconst 5, 1) := by decide +kernel
theorem dX12_readsItem_236 : decode cX12_readsItem 236 = .ok (.bipush 6, 2) := by decide +kernel
theorem dX12_readsItem_238 : decode cX12_readsItem 238 = .ok (.iload_n 3, 1) := by decide +kernel
theorem dX12_readsItem_239 : decode cX12_readsItem 239 = .ok (.imul, 1) := by decide +kernel
theorem dX12_readsItem_240 : decode cX12_readsItem 240 = .ok (.iadd, 1) := by decide +kernel
theorem dX12_readsItem_241 : decode cX12_readsItem 241 = .ok (.aload_n 0, 1) := by decide +kernel
theorem dX12_readsItem_242 : decode cX12_readsItem 242 = .ok (.getfield 76, 3) := by decide +kernel
theorem dX12_readsItem_245 : decode cX12_readsItem 245 = .ok (.iadd, 1) := by decide +kernel
theorem dX12_readsItem_246 : decode cX12_readsItem 246 = .ok (.istore_n 3, 1) := by decide +kernel
theorem dX12_readsItem_247 : decode cX12_readsItem 247 = .ok (.aload_n 0, 1) := by decide +kernel
theorem dX12_readsItem_248 : decode cX12_readsItem 248 = .ok (.iconst 0, 1) := by decide +kernel
theorem dX12_readsItem_249 : decode cX12_readsItem 249 = .ok (.bipush 9, 2) := by decide +kernel
theorem dX12_readsItem_251 : decode cX12_readsItem 251 = .ok (.invokevirtual 82, 3) := by decide +kernel
theorem dX12_readsItem_254 : decode cX12_readsItem 254 = .ok (.ifCond .ne 5, 3) := by decide +kernel
theorem dX12_readsItem_257 : decode cX12_readsItem 257 = .ok (.iconst 0, 1) := by decide +kernel
theorem dX12_readsItem_258 : decode cX12_readsItem 258 = .ok (.ireturn, 1) := by decide +kernel
theorem dX12_readsItem_259 : decode cX12_readsItem 259 = .ok (.aload_n 0, 1) := by decide +kernel
theorem dX12_readsItem_260 : decode cX12_readsItem 260 = .ok (.getfield 19, 3) := by decide +kernel
theorem dX12_readsItem_263 : decode cX12_readsItem 263 = .ok (.iload_n 3, 1) := by decide +kernel
theorem dX12_readsItem_264 : decode cX12_readsItem 264 = .ok (.aload_n 0, 1) := by decide +kernel
theorem dX12_readsItem_265 : decode cX12_readsItem 265 = .ok (.getfield 76, 3) := by decide +kernel
theorem dX12_readsItem_268 : decode cX12_readsItem 268 = .ok (.iastore, 1) := by decide +kernel
theorem dX12_readsItem_269 : decode cX12_readsItem 269 = .ok (.iconst 1, 1) := by decide +kernel
theorem dX12_readsItem_270 : decode cX12_readsItem 270 = .ok (.ireturn, 1) := by decide +kernel
theorem dX12_readsItem_271 : decode cX12_readsItem 271 = .ok (.iconst 0, 1) := by decide +kernel
theorem dX12_readsItem_272 : decode cX12_readsItem 272 = .ok (.ireturn, 1) := by decide +kernel
theorem dX12_reads_0 : decode cX12_reads 0 = .ok (.iconst 0, 1) := by decide +kernel
theorem dX12_reads_1 : decode cX12_reads 1 = .ok (.istore_n 1, 1) := by decide +kernel
theorem dX12_reads_2 : decode cX12_reads 2 = .ok (.iload_n 1, 1) := by decide +kernel
theorem dX12_reads_3 : decode cX12_reads 3 = .ok (.bipush 14, 2) := by decide +kernel
theorem dX12_reads_5 : decode cX12_reads 5 = .ok (.if_icmp .ge 16, 3) := by decide +kernel
theorem dX12_reads_8 : decode cX12_reads 8 = .ok (.aload_n 0, 1) := by decide +kernel
theorem dX12_reads_9 : decode cX12_reads 9 = .ok (.getfield 16, 3) := by decide +kernel
theorem dX12_reads_12 : decode cX12_reads 12 = .ok (.iload_n 1, 1) := by decide +kernel
theorem dX12_reads_13 : decode cX12_reads 13 = .ok (.iconst 0, 1) := by decide +kernel
theorem dX12_reads_14 : decode cX12_reads 14 = .ok (.iastore, 1) := by decide +kernel
theorem dX12_reads_15 : decode cX12_reads 15 = .ok (.iinc 1 1, 3) := by decide +kernel
theorem dX12_reads_18 : decode cX12_reads 18 = .ok (.goto (-16), 3) := by decide +kernel
theorem dX12_reads_21 : decode cX12_reads 21 = .ok (.iconst 0, 1) := by decide +kernel
theorem dX12_reads_22 : decode cX12_reads 22 = .ok (.istore_n 1, 1) := by decide +kernel
theorem dX12_reads_23 : decode cX12_reads 23 = .ok (.iload_n 1, 1) := by decide +kernel
theorem dX12_reads_24 : decode cX12_reads 24 = .ok (.bipush 44, 2) := by decide +kernel
theorem dX12_reads_26 : decode cX12_reads 26 = .ok (.if_icmp .ge 16, 3) := by decide +kernel
theorem dX12_reads_29 : decode cX12_reads 29 = .ok (.aload_n 0, 1) := by decide +kernel
theorem dX12_reads_30 : decode cX12_reads 30 = .ok (.getfield 19, 3) := by decide +kernel
theorem dX12_reads_33 : decode cX12_reads 33 = .ok (.iload_n 1, 1) := by decide +kernel
theorem dX12_reads_34 : decode cX12_reads 34 = .ok (.iconst 0, 1) := by decide +kernel
theorem dX12_reads_35 : decode cX12_reads 35 = .ok (.iastore, 1) := by decide +kernel
theorem dX12_reads_36 : decode cX12_reads 36 = .ok (.iinc 1 1, 3) := by decide +kernel
theorem dX12_reads_39 : decode cX12_reads 39 = .ok (.goto (-16), 3) := by decide +kernel
theorem dX12_reads_42 : decode cX12_reads 42 = .ok (.aload_n 0, 1) := by decide +kernel
theorem dX12_reads_43 : decode cX12_reads 43 = .ok (.getfield 16, 3) := by decide +kernel
theorem dX12_reads_46 : decode cX12_reads 46 = .ok (.iconst 1, 1) := by decide +kernel
theorem dX12_reads_47 : decode cX12_reads 47 = .ok (.iconst 1, 1) := by decide +kernel
theorem dX12_reads_48 : decode cX12_reads 48 = .ok (.iastore, 1) := by decide +kernel
theorem dX12_reads_49 : decode cX12_reads 49 = .ok (.aload_n 0, 1) := by decide +kernel
theorem dX12_reads_50 : decode cX12_reads 50 = .ok (.iconst 0, 1) := by decide +kernel
theorem dX12_reads_51 : decode cX12_reads 51 = .ok (.putfield 56, 3) := by decide +kernel
theorem dX12_reads_54 : decode cX12_reads 54 = .ok (.aload_n 0, 1) := by decide +kernel
theorem dX12_reads_55 : decode cX12_reads 55 = .ok (.invokevirtual 79, 3) := by decide +kernel
theorem dX12_reads_58 : decode cX12_reads 58 = .ok (.aload_n 0, 1) := by decide +kernel
theorem dX12_reads_59 : decode cX12_reads 59 = .ok (.getfield 73, 3) := by decide +kernel
theorem dX12_reads_62 : decode cX12_reads 62 = .ok (.ifCond .eq 43, 3) := by decide +kernel
theorem dX12_reads_65 : decode cX12_reads 65 = .ok (.aload_n 0, 1) := by decide +kernel
theorem dX12_reads_66 : decode cX12_reads 66 = .ok (.invokevirtual 86, 3) := by decide +kernel
theorem dX12_reads_69 : decode cX12_reads 69 = .ok (.ifCond .ne 5, 3) := by decide +kernel
theorem dX12_reads_72 : decode cX12_reads 72 = .ok (.iconst 0, 1) := by decide +kernel
theorem dX12_reads_73 : decode cX12_reads 73 = .ok (.ireturn, 1) := by decide +kernel
theorem dX12_reads_74 : decode cX12_reads 74 = .ok (.aload_n 0, 1) := by decide +kernel
theorem dX12_reads_75 : decode cX12_reads 75 = .ok (.invokevirtual 79, 3) := by decide +kernel
theorem dX12_reads_78 : decode cX12_reads 78 = .ok (.aload_n 0, 1) := by decide +kernel
theorem dX12_reads_79 : decode cX12_reads 79 = .ok (.getfield 73, 3) := by decide +kernel
theorem dX12_reads_82 : decode cX12_reads 82 = .ok (.iconst 3, 1) := by decide +kernel
theorem dX12_reads_83 : decode cX12_reads 83 = .ok (.if_icmp .eq 5, 3) := by decide +kernel
theorem dX12_reads_86 : decode cX12_reads 86 = .ok (.iconst 0, 1) := by decide +kernel
theorem dX12_reads_87 : decode cX12_reads 87 = .ok (.ireturn, 1) := by decide +kernel
theorem dX12_reads_88 : decode cX12_reads 88 = .ok (.aload_n 0, 1) := by decide +kernel
theorem dX12_reads_89 : decode cX12_reads 89 = .ok (.getfield 16, 3) := by decide +kernel
theorem dX12_reads_92 : decode cX12_reads 92 = .ok (.iconst 2, 1) := by decide +kernel
theorem dX12_reads_93 : decode cX12_reads 93 = .ok (.dup2, 1) := by decide +kernel
theorem dX12_reads_94 : decode cX12_reads 94 = .ok (.iaload, 1) := by decide +kernel
theorem dX12_reads_95 : decode cX12_reads 95 = .ok (.iconst 1, 1) := by decide +kernel
theorem dX12_reads_96 : decode cX12_reads 96 = .ok (.iadd, 1) := by decide +kernel
theorem dX12_reads_97 : decode cX12_reads 97 = .ok (.iastore, 1) := by decide +kernel
theorem dX12_reads_98 : decode cX12_reads 98 = .ok (.aload_n 0, 1) := by decide +kernel
theorem dX12_reads_99 : decode cX12_reads 99 = .ok (.invokevirtual 79, 3) := by decide +kernel
theorem dX12_reads_102 : decode cX12_reads 102 = .ok (.goto (-44), 3) := by decide +kernel
theorem dX12_reads_105 : decode cX12_reads 105 = .ok (.iconst 1, 1) := by decide +kernel
theorem dX12_reads_106 : decode cX12_reads 106 = .ok (.ireturn, 1) := by decide +kernel
theorem dX12_begins_0 : decode cX12_begins 0 = .ok (.iconst 0, 1) := by decide +kernel
theorem dX12_begins_1 : decode cX12_begins 1 = .ok (.istore_n 1, 1) := by decide +kernel
theorem dX12_begins_2 : decode cX12_begins 2 = .ok (.iload_n 1, 1) := by decide +kernel
theorem dX12_begins_3 : decode cX12_begins 3 = .ok (.bipush 14, 2) := by decide +kernel
theorem dX12_begins_5 : decode cX12_begins 5 = .ok (.if_icmp .ge 21, 3) := by decide +kernel
theorem dX12_begins_8 : decode cX12_begins 8 = .ok (.aload_n 0, 1) := by decide +kernel
theorem dX12_begins_9 : decode cX12_begins 9 = .ok (.getfield 13, 3) := by decide +kernel
theorem dX12_begins_12 : decode cX12_begins 12 = .ok (.iload_n 1, 1) := by decide +kernel
theorem dX12_begins_13 : decode cX12_begins 13 = .ok (.aload_n 0, 1) := by decide +kernel
theorem dX12_begins_14 : decode cX12_begins 14 = .ok (.getfield 16, 3) := by decide +kernel
theorem dX12_begins_17 : decode cX12_begins 17 = .ok (.iload_n 1, 1) := by decide +kernel
theorem dX12_begins_18 : decode cX12_begins 18 = .ok (.iaload, 1) := by decide +kernel
theorem dX12_begins_19 : decode cX12_begins 19 = .ok (.iastore, 1) := by decide +kernel
theorem dX12_begins_20 : decode cX12_begins 20 = .ok (.iinc 1 1, 3) := by decide +kernel
theorem dX12_begins_23 : decode cX12_begins 23 = .ok (.goto (-21), 3) := by decide +kernel
theorem dX12_begins_26 : decode cX12_begins 26 = .ok (.iconst 0, 1) := by decide +kernel
theorem dX12_begins_27 : decode cX12_begins 27 = .ok (.istore_n 1, 1) := by decide +kernel
theorem dX12_begins_28 : decode cX12_begins 28 = .ok (.iload_n 1, 1) := by decide +kernel
theorem dX12_begins_29 : decode cX12_begins 29 = .ok (.bipush 44, 2) := by decide +kernel
theorem dX12_begins_31 : decode cX12_begins 31 = .ok (.if_icmp .ge 21, 3) := by decide +kernel
theorem dX12_begins_34 : decode cX12_begins 34 = .ok (.aload_n 0, 1) := by decide +kernel
theorem dX12_begins_35 : decode cX12_begins 35 = .ok (.getfield 22, 3) := by decide +kernel
theorem dX12_begins_38 : decode cX12_begins 38 = .ok (.iload_n 1, 1) := by decide +kernel
theorem dX12_begins_39 : decode cX12_begins 39 = .ok (.aload_n 0, 1) := by decide +kernel
theorem dX12_begins_40 : decode cX12_begins 40 = .ok (.getfield 19, 3) := by decide +kernel
theorem dX12_begins_43 : decode cX12_begins 43 = .ok (.iload_n 1, 1) := by decide +kernel
theorem dX12_begins_44 : decode cX12_begins 44 = .ok (.iaload, 1) := by decide +kernel
theorem dX12_begins_45 : decode cX12_begins 45 = .ok (.iastore, 1) := by decide +kernel
theorem dX12_begins_46 : decode cX12_begins 46 = .ok (.iinc 1 1, 3) := by decide +kernel
theorem dX12_begins_49 : decode cX12_begins 49 = .ok (.goto (-21), 3) := by decide +kernel
theorem dX12_begins_52 : decode cX12_begins 52 = .ok (.aload_n 0, 1) := by decide +kernel
theorem dX12_begins_53 : decode cX12_begins 53 = .ok (.iconst 0, 1) := by decide +kernel
theorem dX12_begins_54 : decode cX12_begins 54 = .ok (.putfield 89, 3) := by decide +kernel
theorem dX12_begins_57 : decode cX12_begins 57 = .ok (.aload_n 0, 1) := by decide +kernel
theorem dX12_begins_58 : decode cX12_begins 58 = .ok (.iconst 0, 1) := by decide +kernel
theorem dX12_begins_59 : decode cX12_begins 59 = .ok (.putfield 92, 3) := by decide +kernel
theorem dX12_begins_62 : decode cX12_begins 62 = .ok (.aload_n 0, 1) := by decide +kernel
theorem dX12_begins_63 : decode cX12_begins 63 = .ok (.getfield 31, 3) := by decide +kernel
theorem dX12_begins_66 : decode cX12_begins 66 = .ok (.iconst 0, 1) := by decide +kernel
theorem dX12_begins_67 : decode cX12_begins 67 = .ok (.iconst 0, 1) := by decide +kernel
theorem dX12_begins_68 : decode cX12_begins 68 = .ok (.bastore, 1) := by decide +kernel
theorem dX12_begins_69 : decode cX12_begins 69 = .ok (.aload_n 0, 1) := by decide +kernel
theorem dX12_begins_70 : decode cX12_begins 70 = .ok (.getfield 31, 3) := by decide +kernel
theorem dX12_begins_73 : decode cX12_begins 73 = .ok (.iconst 1, 1) := by decide +kernel
theorem dX12_begins_74 : decode cX12_begins 74 = .ok (.iconst 0, 1) := by decide +kernel
theorem dX12_begins_75 : decode cX12_begins 75 = .ok (.bastore, 1) := by decide +kernel
theorem dX12_begins_76 : decode cX12_begins 76 = .ok (.return_, 1) := by decide +kernel
theorem dX12_field_0 : decode cX12_field 0 = .ok (.aload_n 0, 1) := by decide +kernel
theorem dX12_field_1 : decode cX12_field 1 = .ok (.invokevirtual 41, 3) := by decide +kernel
theorem dX12_field_4 : decode cX12_field 4 = .ok (.ifCond .ne 11, 3) := by decide +kernel
theorem dX12_field_7 : decode cX12_field 7 = .ok (.bipush (-10), 2) := by decide +kernel
theorem dX12_field_9 : decode cX12_field 9 = .ok (.aload_n 0, 1) := by decide +kernel
theorem dX12_field_10 : decode cX12_field 10 = .ok (.getfield 63, 3) := by decide +kernel
theorem dX12_field_13 : decode cX12_field 13 = .ok (.isub, 1) := by decide +kernel
theorem dX12_field_14 : decode cX12_field 14 = .ok (.ireturn, 1) := by decide +kernel
theorem dX12_field_15 : decode cX12_field 15 = .ok (.aload_n 0, 1) := by decide +kernel
theorem dX12_field_16 : decode cX12_field 16 = .ok (.invokevirtual 45, 3) := by decide +kernel
theorem dX12_field_19 : decode cX12_field 19 = .ok (.aload_n 0, 1) := by decide +kernel
theorem dX12_field_20 : decode cX12_field 20 = .ok (.iconst 0, 1) := by decide +kernel
theorem dX12_field_21 : decode cX12_field 21 = .ok (.putfield 52, 3) := by decide +kernel
theorem dX12_field_24 : decode cX12_field 24 = .ok (.aload_n 0, 1) := by decide +kernel
theorem dX12_field_25 : decode cX12_field 25 = .ok (.getfield 13, 3) := by decide +kernel
theorem dX12_field_28 : decode cX12_field 28 = .ok (.iconst 2, 1) := by decide +kernel
theorem dX12_field_29 : decode cX12_field 29 = .ok (.iaload, 1) := by decide +kernel
theorem dX12_field_30 : decode cX12_field 30 = .ok (.ireturn, 1) := by decide +kernel
theorem dX12_deep_0 : decode cX12_deep 0 = .ok (.aload_n 0, 1) := by decide +kernel
theorem dX12_deep_1 : decode cX12_deep 1 = .ok (.getfield 22, 3) := by decide +kernel
theorem dX12_deep_4 : decode cX12_deep 4 = .ok (.iconst 5, 1) := by decide +kernel
theorem dX12_deep_5 : decode cX12_deep 5 = .ok (.iload_n 1, 1) := by decide +kernel
theorem dX12_deep_6 : decode cX12_deep 6 = .ok (.iadd, 1) := by decide +kernel
theorem dX12_deep_7 : decode cX12_deep 7 = .ok (.iaload, 1) := by decide +kernel
theorem dX12_deep_8 : decode cX12_deep 8 = .ok (.bipush 16, 2) := by decide +kernel
theorem dX12_deep_10 : decode cX12_deep 10 = .ok (.irem, 1) := by decide +kernel
theorem dX12_deep_11 : decode cX12_deep 11 = .ok (.ireturn, 1) := by decide +kernel
theorem dX12_peopleAt_0 : decode cX12_peopleAt 0 = .ok (.iconst 0, 1) := by decide +kernel
theorem dX12_peopleAt_1 : decode cX12_peopleAt 1 = .ok (.istore_n 2, 1) := by decide +kernel
theorem dX12_peopleAt_2 : decode cX12_peopleAt 2 = .ok (.iconst 0, 1) := by decide +kernel
theorem dX12_peopleAt_3 : decode cX12_peopleAt 3 = .ok (.istore_n 3, 1) := by decide +kernel
theorem dX12_peopleAt_4 : decode cX12_peopleAt 4 = .ok (.iload_n 3, 1) := by decide +kernel
theorem dX12_peopleAt_5 : decode cX12_peopleAt 5 = .ok (.aload_n 0, 1) := by decide +kernel
theorem dX12_peopleAt_6 : decode cX12_peopleAt 6 = .ok (.getfield 13, 3) := by decide +kernel
theorem dX12_peopleAt_9 : decode cX12_peopleAt 9 = .ok (.iconst 0, 1) := by decide +kernel
theorem dX12_peopleAt_10 : decode cX12_peopleAt 10 = .ok (.iaload, 1) := by decide +kernel
theorem dX12_peopleAt_11 : decode cX12_peopleAt 11 = .ok (.if_icmp .ge 29, 3) := by decide +kernel
theorem dX12_peopleAt_14 : decode cX12_peopleAt 14 = .ok (.iload_n 2, 1) := by decide +kernel
theorem dX12_peopleAt_15 : decode cX12_peopleAt 15 = .ok (.aload_n 0, 1) := by decide +kernel
theorem dX12_peopleAt_16 : decode cX12_peopleAt 16 = .ok (.getfield 22, 3) := by decide +kernel
theorem dX12_peopleAt_19 : decode cX12_peopleAt 19 = .ok (.iload_n 3, 1) := by decide +kernel
theorem dX12_peopleAt_20 : decode cX12_peopleAt 20 = .ok (.iaload, 1) := by decide +kernel
theorem dX12_peopleAt_21 : decode cX12_peopleAt 21 = .ok (.iload_n 1, 1) := by decide +kernel
theorem dX12_peopleAt_22 : decode cX12_peopleAt 22 = .ok (.if_icmp .ne 9, 3) := by decide +kernel
theorem dX12_peopleAt_25 : decode cX12_peopleAt 25 = .ok (.iconst 1, 1) := by decide +kernel
theorem dX12_peopleAt_26 : decode cX12_peopleAt 26 = .ok (.iload_n 3, 1) := by decide +kernel
theorem dX12_peopleAt_27 : decode cX12_peopleAt 27 = .ok (.ishl, 1) := by decide +kernel
theorem dX12_peopleAt_28 : decode cX12_peopleAt 28 = .ok (.goto 4, 3) := by decide +kernel
theorem dX12_peopleAt_31 : decode cX12_peopleAt 31 = .ok (.iconst 0, 1) := by decide +kernel
theorem dX12_peopleAt_32 : decode cX12_peopleAt 32 = .ok (.ior, 1) := by decide +kernel
theorem dX12_peopleAt_33 : decode cX12_peopleAt 33 = .ok (.istore_n 2, 1) := by decide +kernel
theorem dX12_peopleAt_34 : decode cX12_peopleAt 34 = .ok (.iinc 3 1, 3) := by decide +kernel
theorem dX12_peopleAt_37 : decode cX12_peopleAt 37 = .ok (.goto (-33), 3) := by decide +kernel
theorem dX12_peopleAt_40 : decode cX12_peopleAt 40 = .ok (.iload_n 2, 1) := by decide +kernel
theorem dX12_peopleAt_41 : decode cX12_peopleAt 41 = .ok (.ireturn, 1) := by decide +kernel
theorem dX12_gone_0 : decode cX12_gone 0 = .ok (.aload_n 0, 1) := by decide +kernel
theorem dX12_gone_1 : decode cX12_gone 1 = .ok (.iload_n 1, 1) := by decide +kernel
theorem dX12_gone_2 : decode cX12_gone 2 = .ok (.invokevirtual 95, 3) := by decide +kernel
theorem dX12_gone_5 : decode cX12_gone 5 = .ok (.aload_n 0, 1) := by decide +kernel
theorem dX12_gone_6 : decode cX12_gone 6 = .ok (.getfield 13, 3) := by decide +kernel
theorem dX12_gone_9 : decode cX12_gone 9 = .ok (.iconst 1, 1) := by decide +kernel
theorem dX12_gone_10 : decode cX12_gone 10 = .ok (.iaload, 1) := by decide +kernel
theorem dX12_gone_11 : decode cX12_gone 11 = .ok (.iadd, 1) := by decide +kernel
theorem dX12_gone_12 : decode cX12_gone 12 = .ok (.iconst 1, 1) := by decide +kernel
theorem dX12_gone_13 : decode cX12_gone 13 = .ok (.isub, 1) := by decide +kernel
theorem dX12_gone_14 : decode cX12_gone 14 = .ok (.aload_n 0, 1) := by decide +kernel
theorem dX12_gone_15 : decode cX12_gone 15 = .ok (.getfield 13, 3) := by decide +kernel
theorem dX12_gone_18 : decode cX12_gone 18 = .ok (.iconst 1, 1) := by decide +kernel
theorem dX12_gone_19 : decode cX12_gone 19 = .ok (.iaload, 1) := by decide +kernel
theorem dX12_gone_20 : decode cX12_gone 20 = .ok (.idiv, 1) := by decide +kernel
theorem dX12_gone_21 : decode cX12_gone 21 = .ok (.ireturn, 1) := by decide +kernel
theorem dX12_cell_0 : decode cX12_cell 0 = .ok (.iload_n 1, 1) := by decide +kernel
theorem dX12_cell_1 : decode cX12_cell 1 = .ok (.invokestatic 98, 3) := by decide +kernel
theorem dX12_cell_4 : decode cX12_cell 4 = .ok (.ifCond .ne 5, 3) := by decide +kernel
theorem dX12_cell_7 : decode cX12_cell 7 = .ok (.iconst (-1), 1) := by decide +kernel
theorem dX12_cell_8 : decode cX12_cell 8 = .ok (.ireturn, 1) := by decide +kernel
theorem dX12_cell_9 : decode cX12_cell 9 = .ok (.bipush 6, 2) := by decide +kernel
theorem dX12_cell_11 : decode cX12_cell 11 = .ok (.iload_n 1, 1) := by decide +kernel
theorem dX12_cell_12 : decode cX12_cell 12 = .ok (.bipush 10, 2) := by decide +kernel
theorem dX12_cell_14 : decode cX12_cell 14 = .ok (.idiv, 1) := by decide +kernel
theorem dX12_cell_15 : decode cX12_cell 15 = .ok (.imul, 1) := by decide +kernel
theorem dX12_cell_16 : decode cX12_cell 16 = .ok (.iload_n 1, 1) := by decide +kernel
theorem dX12_cell_17 : decode cX12_cell 17 = .ok (.bipush 10, 2) := by decide +kernel
theorem dX12_cell_19 : decode cX12_cell 19 = .ok (.irem, 1) := by decide +kernel
theorem dX12_cell_20 : decode cX12_cell 20 = .ok (.iadd, 1) := by decide +kernel
theorem dX12_cell_21 : decode cX12_cell 21 = .ok (.istore_n 3, 1) := by decide +kernel
theorem dX12_cell_22 : decode cX12_cell 22 = .ok (.iload_n 2, 1) := by decide +kernel
theorem dX12_cell_23 : decode cX12_cell 23 = .ok (.tableswitch 79 0 3 #[29, 35, 67, 73], 29) := by decide +kernel
theorem dX12_cell_52 : decode cX12_cell 52 = .ok (.aload_n 0, 1) := by decide +kernel
theorem dX12_cell_53 : decode cX12_cell 53 = .ok (.iload_n 3, 1) := by decide +kernel
theorem dX12_cell_54 : decode cX12_cell 54 = .ok (.invokevirtual 95, 3) := by decide +kernel
theorem dX12_cell_57 : decode cX12_cell 57 = .ok (.ireturn, 1) := by decide +kernel
theorem dX12_cell_58 : decode cX12_cell 58 = .ok (.aload_n 0, 1) := by decide +kernel
theorem dX12_cell_59 : decode cX12_cell 59 = .ok (.getfield 22, 3) := by decide +kernel
theorem dX12_cell_62 : decode cX12_cell 62 = .ok (.iconst 5, 1) := by decide +kernel
theorem dX12_cell_63 : decode cX12_cell 63 = .ok (.iload_n 3, 1) := by decide +kernel
theorem dX12_cell_64 : decode cX12_cell 64 = .ok (.iadd, 1) := by decide +kernel
theorem dX12_cell_65 : decode cX12_cell 65 = .ok (.iaload, 1) := by decide +kernel
theorem dX12_cell_66 : decode cX12_cell 66 = .ok (.bipush 16, 2) := by decide +kernel
theorem dX12_cell_68 : decode cX12_cell 68 = .ok (.if_icmp .ge 8, 3) := by decide +kernel
theorem dX12_cell_71 : decode cX12_cell 71 = .ok (.bipush (-9), 2) := by decide +kernel
theorem dX12_cell_73 : decode cX12_cell 73 = .ok (.goto 16, 3) := by decide +kernel
theorem dX12_cell_76 : decode cX12_cell 76 = .ok (.aload_n 0, 1) := by decide +kernel
theorem dX12_cell_77 : decode cX12_cell 77 = .ok (.getfield 22, 3) := by decide +kernel
theorem dX12_cell_80 : decode cX12_cell 80 = .ok (.iconst 5, 1) := by decide +kernel
theorem dX12_cell_81 : decode cX12_cell 81 = .ok (.iload_n 3, 1) := by decide +kernel
theorem dX12_cell_82 : decode cX12_cell 82 = .ok (.iadd, 1) := by decide +kernel
theorem dX12_cell_83 : decode cX12_cell 83 = .ok (.iaload, 1) := by decide +kernel
theorem dX12_cell_84 : decode cX12_cell 84 = .ok (.bipush 16, 2) := by decide +kernel
theorem dX12_cell_86 : decode cX12_cell 86 = .ok (.idiv, 1) := by decide +kernel
theorem dX12_cell_87 : decode cX12_cell 87 = .ok (.iconst 1, 1) := by decide +kernel
theorem dX12_cell_88 : decode cX12_cell 88 = .ok (.isub, 1) := by decide +kernel
theorem dX12_cell_89 : decode cX12_cell 89 = .ok (.ireturn, 1) := by decide +kernel
theorem dX12_cell_90 : decode cX12_cell 90 = .ok (.aload_n 0, 1) := by decide +kernel
theorem dX12_cell_91 : decode cX12_cell 91 = .ok (.iload_n 3, 1) := by decide +kernel
theorem dX12_cell_92 : decode cX12_cell 92 = .ok (.invokevirtual 101, 3) := by decide +kernel
theorem dX12_cell_95 : decode cX12_cell 95 = .ok (.ireturn, 1) := by decide +kernel
theorem dX12_cell_96 : decode cX12_cell 96 = .ok (.aload_n 0, 1) := by decide +kernel
theorem dX12_cell_97 : decode cX12_cell 97 = .ok (.iload_n 3, 1) := by decide +kernel
theorem dX12_cell_98 : decode cX12_cell 98 = .ok (.invokevirtual 104, 3) := by decide +kernel
theorem dX12_cell_101 : decode cX12_cell 101 = .ok (.ireturn, 1) := by decide +kernel
theorem dX12_cell_102 : decode cX12_cell 102 = .ok (.iconst (-1), 1) := by decide +kernel
theorem dX12_cell_103 : decode cX12_cell 103 = .ok (.ireturn, 1) := by decide +kernel
theorem dX12_named_0 : decode cX12_named 0 = .ok (.bipush 10, 2) := by decide +kernel
theorem dX12_named_2 : decode cX12_named 2 = .ok (.iload_n 0, 1) := by decide +kernel
theorem dX12_named_3 : decode cX12_named 3 = .ok (.bipush 6, 2) := by decide +kernel
theorem dX12_named_5 : decode cX12_named 5 = .ok (.idiv, 1) := by decide +kernel
theorem dX12_named_6 : decode cX12_named 6 = .ok (.imul, 1) := by decide +kernel
theorem dX12_named_7 : decode cX12_named 7 = .ok (.iload_n 0, 1) := by decide +kernel
theorem dX12_named_8 : decode cX12_named 8 = .ok (.bipush 6, 2) := by decide +kernel
theorem dX12_named_10 : decode cX12_named 10 = .ok (.irem, 1) := by decide +kernel
theorem dX12_named_11 : decode cX12_named 11 = .ok (.iadd, 1) := by decide +kernel
theorem dX12_named_12 : decode cX12_named 12 = .ok (.ireturn, 1) := by decide +kernel
theorem dX12_person_0 : decode cX12_person 0 = .ok (.aload_n 0, 1) := by decide +kernel
theorem dX12_person_1 : decode cX12_person 1 = .ok (.iload_n 1, 1) := by decide +kernel
theorem dX12_person_2 : decode cX12_person 2 = .ok (.invokevirtual 107, 3) := by decide +kernel
theorem dX12_person_5 : decode cX12_person 5 = .ok (.ifCond .ne 5, 3) := by decide +kernel
theorem dX12_person_8 : decode cX12_person 8 = .ok (.iconst (-1), 1) := by decide +kernel
theorem dX12_person_9 : decode cX12_person 9 = .ok (.ireturn, 1) := by decide +kernel
theorem dX12_person_10 : decode cX12_person 10 = .ok (.iload_n 2, 1) := by decide +kernel
theorem dX12_person_11 : decode cX12_person 11 = .ok (.tableswitch 54 0 2 #[25, 35, 44], 25) := by decide +kernel
theorem dX12_person_36 : decode cX12_person 36 = .ok (.aload_n 0, 1) := by decide +kernel
theorem dX12_person_37 : decode cX12_person 37 = .ok (.getfield 22, 3) := by decide +kernel
theorem dX12_person_40 : decode cX12_person 40 = .ok (.iload_n 1, 1) := by decide +kernel
theorem dX12_person_41 : decode cX12_person 41 = .ok (.iaload, 1) := by decide +kernel
theorem dX12_person_42 : decode cX12_person 42 = .ok (.invokestatic 110, 3) := by decide +kernel
theorem dX12_person_45 : decode cX12_person 45 = .ok (.ireturn, 1) := by decide +kernel
theorem dX12_person_46 : decode cX12_person 46 = .ok (.aload_n 0, 1) := by decide +kernel
theorem dX12_person_47 : decode cX12_person 47 = .ok (.getfield 13, 3) := by decide +kernel
theorem dX12_person_50 : decode cX12_person 50 = .ok (.iconst 4, 1) := by decide +kernel
theorem dX12_person_51 : decode cX12_person 51 = .ok (.iload_n 1, 1) := by decide +kernel
theorem dX12_person_52 : decode cX12_person 52 = .ok (.iadd, 1) := by decide +kernel
theorem dX12_person_53 : decode cX12_person 53 = .ok (.iaload, 1) := by decide +kernel
theorem dX12_person_54 : decode cX12_person 54 = .ok (.ireturn, 1) := by decide +kernel
theorem dX12_person_55 : decode cX12_person 55 = .ok (.aload_n 0, 1) := by decide +kernel
theorem dX12_person_56 : decode cX12_person 56 = .ok (.getfield 13, 3) := by decide +kernel
theorem dX12_person_59 : decode cX12_person 59 = .ok (.bipush 9, 2) := by decide +kernel
theorem dX12_person_61 : decode cX12_person 61 = .ok (.iload_n 1, 1) := by decide +kernel
theorem dX12_person_62 : decode cX12_person 62 = .ok (.iadd, 1) := by decide +kernel
theorem dX12_person_63 : decode cX12_person 63 = .ok (.iaload, 1) := by decide +kernel
theorem dX12_person_64 : decode cX12_person 64 = .ok (.ireturn, 1) := by decide +kernel
theorem dX12_person_65 : decode cX12_person 65 = .ok (.iconst (-1), 1) := by decide +kernel
theorem dX12_person_66 : decode cX12_person 66 = .ok (.ireturn, 1) := by decide +kernel
theorem dX12_voices_0 : decode cX12_voices 0 = .ok (.iconst 0, 1) := by decide +kernel
theorem dX12_voices_1 : decode cX12_voices 1 = .ok (.istore_n 2, 1) := by decide +kernel
theorem dX12_voices_2 : decode cX12_voices 2 = .ok (.iconst 0, 1) := by decide +kernel
theorem dX12_voices_3 : decode cX12_voices 3 = .ok (.istore_n 3, 1) := by decide +kernel
theorem dX12_voices_4 : decode cX12_voices 4 = .ok (.iload_n 3, 1) := by decide +kernel
theorem dX12_voices_5 : decode cX12_voices 5 = .ok (.aload_n 0, 1) := by decide +kernel
theorem dX12_voices_6 : decode cX12_voices 6 = .ok (.getfield 13, 3) := by decide +kernel
theorem dX12_voices_9 : decode cX12_voices 9 = .ok (.iconst 0, 1) := by decide +kernel
theorem dX12_voices_10 : decode cX12_voices 10 = .ok (.iaload, 1) := by decide +kernel
theorem dX12_voices_11 : decode cX12_voices 11 = .ok (.if_icmp .ge 33, 3) := by decide +kernel
theorem dX12_voices_14 : decode cX12_voices 14 = .ok (.iload_n 2, 1) := by decide +kernel
theorem dX12_voices_15 : decode cX12_voices 15 = .ok (.iload_n 1, 1) := by decide +kernel
theorem dX12_voices_16 : decode cX12_voices 16 = .ok (.iload_n 3, 1) := by decide +kernel
theorem dX12_voices_17 : decode cX12_voices 17 = .ok (.invokestatic 113, 3) := by decide +kernel
theorem dX12_voices_20 : decode cX12_voices 20 = .ok (.ifCond .eq 15, 3) := by decide +kernel
theorem dX12_voices_23 : decode cX12_voices 23 = .ok (.aload_n 0, 1) := by decide +kernel
theorem dX12_voices_24 : decode cX12_voices 24 = .ok (.getfield 13, 3) := by decide +kernel
theorem dX12_voices_27 : decode cX12_voices 27 = .ok (.bipush 9, 2) := by decide +kernel
theorem dX12_voices_29 : decode cX12_voices 29 = .ok (.iload_n 3, 1) := by decide +kernel
theorem dX12_voices_30 : decode cX12_voices 30 = .ok (.iadd, 1) := by decide +kernel
theorem dX12_voices_31 : decode cX12_voices 31 = .ok (.iaload, 1) := by decide +kernel
theorem dX12_voices_32 : decode cX12_voices 32 = .ok (.goto 4, 3) := by decide +kernel
theorem dX12_voices_35 : decode cX12_voices 35 = .ok (.iconst 0, 1) := by decide +kernel
theorem dX12_voices_36 : decode cX12_voices 36 = .ok (.iadd, 1) := by decide +kernel
theorem dX12_voices_37 : decode cX12_voices 37 = .ok (.istore_n 2, 1) := by decide +kernel
theorem dX12_voices_38 : decode cX12_voices 38 = .ok (.iinc 3 1, 3) := by decide +kernel
theorem dX12_voices_41 : decode cX12_voices 41 = .ok (.goto (-37), 3) := by decide +kernel
theorem dX12_voices_44 : decode cX12_voices 44 = .ok (.iload_n 2, 1) := by decide +kernel
theorem dX12_voices_45 : decode cX12_voices 45 = .ok (.ireturn, 1) := by decide +kernel
theorem dX12_isPassed_0 : decode cX12_isPassed 0 = .ok (.iconst 0, 1) := by decide +kernel
theorem dX12_isPassed_1 : decode cX12_isPassed 1 = .ok (.istore_n 2, 1) := by decide +kernel
theorem dX12_isPassed_2 : decode cX12_isPassed 2 = .ok (.iconst 0, 1) := by decide +kernel
theorem dX12_isPassed_3 : decode cX12_isPassed 3 = .ok (.istore_n 3, 1) := by decide +kernel
theorem dX12_isPassed_4 : decode cX12_isPassed 4 = .ok (.iconst 0, 1) := by decide +kernel
theorem dX12_isPassed_5 : decode cX12_isPassed 5 = .ok (.istore 4, 2) := by decide +kernel
theorem dX12_isPassed_7 : decode cX12_isPassed 7 = .ok (.iload 4, 2) := by decide +kernel
theorem dX12_isPassed_9 : decode cX12_isPassed 9 = .ok (.aload_n 0, 1) := by decide +kernel
theorem dX12_isPassed_10 : decode cX12_isPassed 10 = .ok (.getfield 13, 3) := by decide +kernel
theorem dX12_isPassed_13 : decode cX12_isPassed 13 = .ok (.iconst 0, 1) := by decide +kernel
theorem dX12_isPassed_14 : decode cX12_isPassed 14 = .ok (.iaload, 1) := by decide +kernel
theorem dX12_isPassed_15 : decode cX12_isPassed 15 = .ok (.if_icmp .ge 59, 3) := by decide +kernel
theorem dX12_isPassed_18 : decode cX12_isPassed 18 = .ok (.iload_n 2, 1) := by decide +kernel
theorem dX12_isPassed_19 : decode cX12_isPassed 19 = .ok (.aload_n 0, 1) := by decide +kernel
theorem dX12_isPassed_20 : decode cX12_isPassed 20 = .ok (.getfield 22, 3) := by decide +kernel
theorem dX12_isPassed_23 : decode cX12_isPassed 23 = .ok (.iload 4, 2) := by decide +kernel
theorem dX12_isPassed_25 : decode cX12_isPassed 25 = .ok (.iaload, 1) := by decide +kernel
theorem dX12_isPassed_26 : decode cX12_isPassed 26 = .ok (.bipush 6, 2) := by decide +kernel
theorem dX12_isPassed_28 : decode cX12_isPassed 28 = .ok (.idiv, 1) := by decide +kernel
theorem dX12_isPassed_29 : decode cX12_isPassed 29 = .ok (.iload_n 1, 1) := by decide +kernel
theorem dX12_isPassed_30 : decode cX12_isPassed 30 = .ok (.if_icmp .ge 10, 3) := by decide +kernel
theorem dX12_isPassed_33 : decode cX12_isPassed 33 = .ok (.iconst 1, 1) := by decide +kernel
theorem dX12_isPassed_34 : decode cX12_isPassed 34 = .ok (.iload 4, 2) := by decide +kernel
theorem dX12_isPassed_36 : decode cX12_isPassed 36 = .ok (.ishl, 1) := by decide +kernel
theorem dX12_isPassed_37 : decode cX12_isPassed 37 = .ok (.goto 4, 3) := by decide +kernel
theorem dX12_isPassed_40 : decode cX12_isPassed 40 = .ok (.iconst 0, 1) := by decide +kernel
theorem dX12_isPassed_41 : decode cX12_isPassed 41 = .ok (.ior, 1) := by decide +kernel
theorem dX12_isPassed_42 : decode cX12_isPassed 42 = .ok (.istore_n 2, 1) := by decide +kernel
theorem dX12_isPassed_43 : decode cX12_isPassed 43 = .ok (.iload_n 3, 1) := by decide +kernel
theorem dX12_isPassed_44 : decode cX12_isPassed 44 = .ok (.aload_n 0, 1) := by decide +kernel
theorem dX12_isPassed_45 : decode cX12_isPassed 45 = .ok (.getfield 22, 3) := by decide +kernel
theorem dX12_isPassed_48 : decode cX12_isPassed 48 = .ok (.iload 4, 2) := by decide +kernel
theorem dX12_isPassed_50 : decode cX12_isPassed 50 = .ok (.iaload, 1) := by decide +kernel
theorem dX12_isPassed_51 : decode cX12_isPassed 51 = .ok (.bipush 6, 2) := by decide +kernel
theorem dX12_isPassed_53 : decode cX12_isPassed 53 = .ok (.idiv, 1) := by decide +kernel
theorem dX12_isPassed_54 : decode cX12_isPassed 54 = .ok (.iload_n 1, 1) := by decide +kernel
theorem dX12_isPassed_55 : decode cX12_isPassed 55 = .ok (.if_icmp .le 10, 3) := by decide +kernel
theorem dX12_isPassed_58 : decode cX12_isPassed 58 = .ok (.iconst 1, 1) := by decide +kernel
theorem dX12_isPassed_59 : decode cX12_isPassed 59 = .ok (.iload 4, 2) := by decide +kernel
theorem dX12_isPassed_61 : decode cX12_isPassed 61 = .ok (.ishl, 1) := by decide +kernel
theorem dX12_isPassed_62 : decode cX12_isPassed 62 = .ok (.goto 4, 3) := by decide +kernel
theorem dX12_isPassed_65 : decode cX12_isPassed 65 = .ok (.iconst 0, 1) := by decide +kernel
theorem dX12_isPassed_66 : decode cX12_isPassed 66 = .ok (.ior, 1) := by decide +kernel
theorem dX12_isPassed_67 : decode cX12_isPassed 67 = .ok (.istore_n 3, 1) := by decide +kernel
theorem dX12_isPassed_68 : decode cX12_isPassed 68 = .ok (.iinc 4 1, 3) := by decide +kernel
theorem dX12_isPassed_71 : decode cX12_isPassed 71 = .ok (.goto (-64), 3) := by decide +kernel
theorem dX12_isPassed_74 : decode cX12_isPassed 74 = .ok (.aload_n 0, 1) := by decide +kernel
theorem dX12_isPassed_75 : decode cX12_isPassed 75 = .ok (.iload_n 2, 1) := by decide +kernel
theorem dX12_isPassed_76 : decode cX12_isPassed 76 = .ok (.invokevirtual 116, 3) := by decide +kernel
theorem dX12_isPassed_79 : decode cX12_isPassed 79 = .ok (.aload_n 0, 1) := by decide +kernel
theorem dX12_isPassed_80 : decode cX12_isPassed 80 = .ok (.iload_n 3, 1) := by decide +kernel
theorem dX12_isPassed_81 : decode cX12_isPassed 81 = .ok (.invokevirtual 116, 3) := by decide +kernel
theorem dX12_isPassed_84 : decode cX12_isPassed 84 = .ok (.if_icmp .le 7, 3) := by decide +kernel
theorem dX12_isPassed_87 : decode cX12_isPassed 87 = .ok (.iconst 1, 1) := by decide +kernel
theorem dX12_isPassed_88 : decode cX12_isPassed 88 = .ok (.goto 4, 3) := by decide +kernel
theorem dX12_isPassed_91 : decode cX12_isPassed 91 = .ok (.iconst 0, 1) := by decide +kernel
theorem dX12_isPassed_92 : decode cX12_isPassed 92 = .ok (.ireturn, 1) := by decide +kernel
theorem dX12_lines_0 : decode cX12_lines 0 = .ok (.iconst 0, 1) := by decide +kernel
theorem dX12_lines_1 : decode cX12_lines 1 = .ok (.istore_n 1, 1) := by decide +kernel
theorem dX12_lines_2 : decode cX12_lines 2 = .ok (.iconst 0, 1) := by decide +kernel
theorem dX12_lines_3 : decode cX12_lines 3 = .ok (.istore_n 2, 1) := by decide +kernel
theorem dX12_lines_4 : decode cX12_lines 4 = .ok (.iload_n 2, 1) := by decide +kernel
theorem dX12_lines_5 : decode cX12_lines 5 = .ok (.bipush 6, 2) := by decide +kernel
theorem dX12_lines_7 : decode cX12_lines 7 = .ok (.if_icmp .ge 27, 3) := by decide +kernel
theorem dX12_lines_10 : decode cX12_lines 10 = .ok (.iload_n 1, 1) := by decide +kernel
theorem dX12_lines_11 : decode cX12_lines 11 = .ok (.aload_n 0, 1) := by decide +kernel
theorem dX12_lines_12 : decode cX12_lines 12 = .ok (.iload_n 2, 1) := by decide +kernel
theorem dX12_lines_13 : decode cX12_lines 13 = .ok (.invokevirtual 119, 3) := by decide +kernel
theorem dX12_lines_16 : decode cX12_lines 16 = .ok (.ifCond .eq 9, 3) := by decide +kernel
theorem dX12_lines_19 : decode cX12_lines 19 = .ok (.iconst 1, 1) := by decide +kernel
theorem dX12_lines_20 : decode cX12_lines 20 = .ok (.iload_n 2, 1) := by decide +kernel
theorem dX12_lines_21 : decode cX12_lines 21 = .ok (.ishl, 1) := by decide +kernel
theorem dX12_lines_22 : decode cX12_lines 22 = .ok (.goto 4, 3) := by decide +kernel
theorem dX12_lines_25 : decode cX12_lines 25 = .ok (.iconst 0, 1) := by decide +kernel
theorem dX12_lines_26 : decode cX12_lines 26 = .ok (.ior, 1) := by decide +kernel
theorem dX12_lines_27 : decode cX12_lines 27 = .ok (.istore_n 1, 1) := by decide +kernel
theorem dX12_lines_28 : decode cX12_lines 28 = .ok (.iinc 2 1, 3) := by decide +kernel
theorem dX12_lines_31 : decode cX12_lines 31 = .ok (.goto (-27), 3) := by decide +kernel
theorem dX12_lines_34 : decode cX12_lines 34 = .ok (.iload_n 1, 1) := by decide +kernel
theorem dX12_lines_35 : decode cX12_lines 35 = .ok (.ireturn, 1) := by decide +kernel
theorem dX12_clearFrom_0 : decode cX12_clearFrom 0 = .ok (.iconst 0, 1) := by decide +kernel
theorem dX12_clearFrom_1 : decode cX12_clearFrom 1 = .ok (.istore_n 3, 1) := by decide +kernel
theorem dX12_clearFrom_2 : decode cX12_clearFrom 2 = .ok (.iconst 1, 1) := by decide +kernel
theorem dX12_clearFrom_3 : decode cX12_clearFrom 3 = .ok (.istore 4, 2) := by decide +kernel
theorem dX12_clearFrom_5 : decode cX12_clearFrom 5 = .ok (.iload 4, 2) := by decide +kernel
theorem dX12_clearFrom_7 : decode cX12_clearFrom 7 = .ok (.ifCond .eq 105, 3) := by decide +kernel
theorem dX12_clearFrom_10 : decode cX12_clearFrom 10 = .ok (.iload_n 1, 1) := by decide +kernel
theorem dX12_clearFrom_11 : decode cX12_clearFrom 11 = .ok (.iload_n 3, 1) := by decide +kernel
theorem dX12_clearFrom_12 : decode cX12_clearFrom 12 = .ok (.iadd, 1) := by decide +kernel
theorem dX12_clearFrom_13 : decode cX12_clearFrom 13 = .ok (.bipush 6, 2) := by decide +kernel
theorem dX12_clearFrom_15 : decode cX12_clearFrom 15 = .ok (.if_icmp .ge 15, 3) := by decide +kernel
theorem dX12_clearFrom_18 : decode cX12_clearFrom 18 = .ok (.iload_n 2, 1) := by decide +kernel
theorem dX12_clearFrom_19 : decode cX12_clearFrom 19 = .ok (.iload_n 3, 1) := by decide +kernel
theorem dX12_clearFrom_20 : decode cX12_clearFrom 20 = .ok (.iadd, 1) := by decide +kernel
theorem dX12_clearFrom_21 : decode cX12_clearFrom 21 = .ok (.bipush 6, 2) := by decide +kernel
theorem dX12_clearFrom_23 : decode cX12_clearFrom 23 = .ok (.if_icmp .ge 7, 3) := by decide +kernel
theorem dX12_clearFrom_26 : decode cX12_clearFrom 26 = .ok (.iconst 1, 1) := by decide +kernel
theorem dX12_clearFrom_27 : decode cX12_clearFrom 27 = .ok (.goto 4, 3) := by decide +kernel
theorem dX12_clearFrom_30 : decode cX12_clearFrom 30 = .ok (.iconst 0, 1) := by decide +kernel
theorem dX12_clearFrom_31 : decode cX12_clearFrom 31 = .ok (.istore 4, 2) := by decide +kernel
theorem dX12_clearFrom_33 : decode cX12_clearFrom 33 = .ok (.iconst 0, 1) := by decide +kernel
theorem dX12_clearFrom_34 : decode cX12_clearFrom 34 = .ok (.istore 5, 2) := by decide +kernel
theorem dX12_clearFrom_36 : decode cX12_clearFrom 36 = .ok (.iload 5, 2) := by decide +kernel
theorem dX12_clearFrom_38 : decode cX12_clearFrom 38 = .ok (.iload_n 3, 1) := by decide +kernel
theorem dX12_clearFrom_39 : decode cX12_clearFrom 39 = .ok (.if_icmp .gt 57, 3) := by decide +kernel
theorem dX12_clearFrom_42 : decode cX12_clearFrom 42 = .ok (.iload 4, 2) := by decide +kernel
theorem dX12_clearFrom_44 : decode cX12_clearFrom 44 = .ok (.ifCond .eq 52, 3) := by decide +kernel
theorem dX12_clearFrom_47 : decode cX12_clearFrom 47 = .ok (.aload_n 0, 1) := by decide +kernel
theorem dX12_clearFrom_48 : decode cX12_clearFrom 48 = .ok (.bipush 6, 2) := by decide +kernel
theorem dX12_clearFrom_50 : decode cX12_clearFrom 50 = .ok (.iload_n 1, 1) := by decide +kernel
theorem dX12_clearFrom_51 : decode cX12_clearFrom 51 = .ok (.iload_n 3, 1) := by decide +kernel
theorem dX12_clearFrom_52 : decode cX12_clearFrom 52 = .ok (.iadd, 1) := by decide +kernel
theorem dX12_clearFrom_53 : decode cX12_clearFrom 53 = .ok (.imul, 1) := by decide +kernel
theorem dX12_clearFrom_54 : decode cX12_clearFrom 54 = .ok (.iload_n 2, 1) := by decide +kernel
theorem dX12_clearFrom_55 : decode cX12_clearFrom 55 = .ok (.iadd, 1) := by decide +kernel
theorem dX12_clearFrom_56 : decode cX12_clearFrom 56 = .ok (.iload 5, 2) := by decide +kernel
theorem dX12_clearFrom_58 : decode cX12_clearFrom 58 = .ok (.iadd, 1) := by decide +kernel
theorem dX12_clearFrom_59 : decode cX12_clearFrom 59 = .ok (.invokevirtual 95, 3) := by decide +kernel
theorem dX12_clearFrom_62 : decode cX12_clearFrom 62 = .ok (.ifCond .ne 25, 3) := by decide +kernel
theorem dX12_clearFrom_65 : decode cX12_clearFrom 65 = .ok (.aload_n 0, 1) := by decide +kernel
theorem dX12_clearFrom_66 : decode cX12_clearFrom 66 = .ok (.bipush 6, 2) := by decide +kernel
theorem dX12_clearFrom_68 : decode cX12_clearFrom 68 = .ok (.iload_n 1, 1) := by decide +kernel
theorem dX12_clearFrom_69 : decode cX12_clearFrom 69 = .ok (.iload 5, 2) := by decide +kernel
theorem dX12_clearFrom_71 : decode cX12_clearFrom 71 = .ok (.iadd, 1) := by decide +kernel
theorem dX12_clearFrom_72 : decode cX12_clearFrom 72 = .ok (.imul, 1) := by decide +kernel
theorem dX12_clearFrom_73 : decode cX12_clearFrom 73 = .ok (.iload_n 2, 1) := by decide +kernel
theorem dX12_clearFrom_74 : decode cX12_clearFrom 74 = .ok (.iadd, 1) := by decide +kernel
theorem dX12_clearFrom_75 : decode cX12_clearFrom 75 = .ok (.iload_n 3, 1) := by decide +kernel
theorem dX12_clearFrom_76 : decode cX12_clearFrom 76 = .ok (.iadd, 1) := by decide +kernel
theorem dX12_clearFrom_77 : decode cX12_clearFrom 77 = .ok (.invokevirtual 95, 3) := by decide +kernel
theorem dX12_clearFrom_80 : decode cX12_clearFrom 80 = .ok (.ifCond .ne 7, 3) := by decide +kernel
theorem dX12_clearFrom_83 : decode cX12_clearFrom 83 = .ok (.iconst 1, 1) := by decide +kernel
theorem dX12_clearFrom_84 : decode cX12_clearFrom 84 = .ok (.goto 4, 3) := by decide +kernel
theorem dX12_clearFrom_87 : decode cX12_clearFrom 87 = .ok (.iconst 0, 1) := by decide +kernel
theorem dX12_clearFrom_88 : decode cX12_clearFrom 88 = .ok (.istore 4, 2) := by decide +kernel
theorem dX12_clearFrom_90 : decode cX12_clearFrom 90 = .ok (.iinc 5 1, 3) := by decide +kernel
theorem dX12_clearFrom_93 : decode cX12_clearFrom 93 = .ok (.goto (-57), 3) := by decide +kernel
theorem dX12_clearFrom_96 : decode cX12_clearFrom 96 = .ok (.iload_n 3, 1) := by decide +kernel
theorem dX12_clearFrom_97 : decode cX12_clearFrom 97 = .ok (.iload 4, 2) := by decide +kernel
theorem dX12_clearFrom_99 : decode cX12_clearFrom 99 = .ok (.ifCond .eq 7, 3) := by decide +kernel
theorem dX12_clearFrom_102 : decode cX12_clearFrom 102 = .ok (.iconst 1, 1) := by decide +kernel
theorem dX12_clearFrom_103 : decode cX12_clearFrom 103 = .ok (.goto 4, 3) := by decide +kernel
theorem dX12_clearFrom_106 : decode cX12_clearFrom 106 = .ok (.iconst 0, 1) := by decide +kernel
theorem dX12_clearFrom_107 : decode cX12_clearFrom 107 = .ok (.iadd, 1) := by decide +kernel
theorem dX12_clearFrom_108 : decode cX12_clearFrom 108 = .ok (.istore_n 3, 1) := by decide +kernel
theorem dX12_clearFrom_109 : decode cX12_clearFrom 109 = .ok (.goto (-104), 3) := by decide +kernel
theorem dX12_clearFrom_112 : decode cX12_clearFrom 112 = .ok (.iload_n 3, 1) := by decide +kernel
theorem dX12_clearFrom_113 : decode cX12_clearFrom 113 = .ok (.ireturn, 1) := by decide +kernel
theorem dX12_clearest_0 : decode cX12_clearest 0 = .ok (.iconst 0, 1) := by decide +kernel
theorem dX12_clearest_1 : decode cX12_clearest 1 = .ok (.istore_n 2, 1) := by decide +kernel
theorem dX12_clearest_2 : decode cX12_clearest 2 = .ok (.bipush (-9), 2) := by decide +kernel
theorem dX12_clearest_4 : decode cX12_clearest 4 = .ok (.istore_n 3, 1) := by decide +kernel
theorem dX12_clearest_5 : decode cX12_clearest 5 = .ok (.iconst 0, 1) := by decide +kernel
theorem dX12_clearest_6 : decode cX12_clearest 6 = .ok (.istore 4, 2) := by decide +kernel
theorem dX12_clearest_8 : decode cX12_clearest 8 = .ok (.iload 4, 2) := by decide +kernel
theorem dX12_clearest_10 : decode cX12_clearest 10 = .ok (.bipush 36, 2) := by decide +kernel
theorem dX12_clearest_12 : decode cX12_clearest 12 = .ok (.if_icmp .ge 54, 3) := by decide +kernel
theorem dX12_clearest_15 : decode cX12_clearest 15 = .ok (.aload_n 0, 1) := by decide +kernel
theorem dX12_clearest_16 : decode cX12_clearest 16 = .ok (.iload 4, 2) := by decide +kernel
theorem dX12_clearest_18 : decode cX12_clearest 18 = .ok (.bipush 6, 2) := by decide +kernel
theorem dX12_clearest_20 : decode cX12_clearest 20 = .ok (.idiv, 1) := by decide +kernel
theorem dX12_clearest_21 : decode cX12_clearest 21 = .ok (.iload 4, 2) := by decide +kernel
theorem dX12_clearest_23 : decode cX12_clearest 23 = .ok (.bipush 6, 2) := by decide +kernel
theorem dX12_clearest_25 : decode cX12_clearest 25 = .ok (.irem, 1) := by decide +kernel
theorem dX12_clearest_26 : decode cX12_clearest 26 = .ok (.invokevirtual 122, 3) := by decide +kernel
theorem dX12_clearest_29 : decode cX12_clearest 29 = .ok (.istore 5, 2) := by decide +kernel
theorem dX12_clearest_31 : decode cX12_clearest 31 = .ok (.iload 5, 2) := by decide +kernel
theorem dX12_clearest_33 : decode cX12_clearest 33 = .ok (.iload_n 2, 1) := by decide +kernel
theorem dX12_clearest_34 : decode cX12_clearest 34 = .ok (.if_icmp .le 11, 3) := by decide +kernel
theorem dX12_clearest_37 : decode cX12_clearest 37 = .ok (.iload 4, 2) := by decide +kernel
theorem dX12_clearest_39 : decode cX12_clearest 39 = .ok (.invokestatic 110, 3) := by decide +kernel
theorem dX12_clearest_42 : decode cX12_clearest 42 = .ok (.goto 4, 3) := by decide +kernel
theorem dX12_clearest_45 : decode cX12_clearest 45 = .ok (.iload_n 3, 1) := by decide +kernel
theorem dX12_clearest_46 : decode cX12_clearest 46 = .ok (.istore_n 3, 1) := by decide +kernel
theorem dX12_clearest_47 : decode cX12_clearest 47 = .ok (.iload 5, 2) := by decide +kernel
theorem dX12_clearest_49 : decode cX12_clearest 49 = .ok (.iload_n 2, 1) := by decide +kernel
theorem dX12_clearest_50 : decode cX12_clearest 50 = .ok (.if_icmp .le 8, 3) := by decide +kernel
theorem dX12_clearest_53 : decode cX12_clearest 53 = .ok (.iload 5, 2) := by decide +kernel
theorem dX12_clearest_55 : decode cX12_clearest 55 = .ok (.goto 4, 3) := by decide +kernel
theorem dX12_clearest_58 : decode cX12_clearest 58 = .ok (.iload_n 2, 1) := by decide +kernel
theorem dX12_clearest_59 : decode cX12_clearest 59 = .ok (.istore_n 2, 1) := by decide +kernel
theorem dX12_clearest_60 : decode cX12_clearest 60 = .ok (.iinc 4 1, 3) := by decide +kernel
theorem dX12_clearest_63 : decode cX12_clearest 63 = .ok (.goto (-55), 3) := by decide +kernel
theorem dX12_clearest_66 : decode cX12_clearest 66 = .ok (.iload_n 1, 1) := by decide +kernel
theorem dX12_clearest_67 : decode cX12_clearest 67 = .ok (.ifCond .eq 7, 3) := by decide +kernel
theorem dX12_clearest_70 : decode cX12_clearest 70 = .ok (.iload_n 3, 1) := by decide +kernel
theorem dX12_clearest_71 : decode cX12_clearest 71 = .ok (.goto 4, 3) := by decide +kernel
theorem dX12_clearest_74 : decode cX12_clearest 74 = .ok (.iload_n 2, 1) := by decide +kernel
theorem dX12_clearest_75 : decode cX12_clearest 75 = .ok (.ireturn, 1) := by decide +kernel
theorem dX12_now_0 : decode cX12_now 0 = .ok (.iconst 0, 1) := by decide +kernel
theorem dX12_now_1 : decode cX12_now 1 = .ok (.istore_n 2, 1) := by decide +kernel
theorem dX12_now_2 : decode cX12_now 2 = .ok (.iconst 0, 1) := by decide +kernel
theorem dX12_now_3 : decode cX12_now 3 = .ok (.istore_n 3, 1) := by decide +kernel
theorem dX12_now_4 : decode cX12_now 4 = .ok (.iload_n 3, 1) := by decide +kernel
theorem dX12_now_5 : decode cX12_now 5 = .ok (.bipush 36, 2) := by decide +kernel
theorem dX12_now_7 : decode cX12_now 7 = .ok (.if_icmp .ge 17, 3) := by decide +kernel
theorem dX12_now_10 : decode cX12_now 10 = .ok (.iload_n 2, 1) := by decide +kernel
theorem dX12_now_11 : decode cX12_now 11 = .ok (.aload_n 0, 1) := by decide +kernel
theorem dX12_now_12 : decode cX12_now 12 = .ok (.iload_n 3, 1) := by decide +kernel
theorem dX12_now_13 : decode cX12_now 13 = .ok (.invokevirtual 95, 3) := by decide +kernel
theorem dX12_now_16 : decode cX12_now 16 = .ok (.iadd, 1) := by decide +kernel
theorem dX12_now_17 : decode cX12_now 17 = .ok (.istore_n 2, 1) := by decide +kernel
theorem dX12_now_18 : decode cX12_now 18 = .ok (.iinc 3 1, 3) := by decide +kernel
theorem dX12_now_21 : decode cX12_now 21 = .ok (.goto (-17), 3) := by decide +kernel
theorem dX12_now_24 : decode cX12_now 24 = .ok (.iload_n 1, 1) := by decide +kernel
theorem dX12_now_25 : decode cX12_now 25 = .ok (.tableswitch 95 0 7 #[47, 49, 57, 65, 73, 78, 84, 90], 47) := by decide +kernel
theorem dX12_now_72 : decode cX12_now 72 = .ok (.iload_n 2, 1) := by decide +kernel
theorem dX12_now_73 : decode cX12_now 73 = .ok (.ireturn, 1) := by decide +kernel
theorem dX12_now_74 : decode cX12_now 74 = .ok (.aload_n 0, 1) := by decide +kernel
theorem dX12_now_75 : decode cX12_now 75 = .ok (.getfield 22, 3) := by decide +kernel
theorem dX12_now_78 : decode cX12_now 78 = .ok (.bipush 41, 2) := by decide +kernel
theorem dX12_now_80 : decode cX12_now 80 = .ok (.iaload, 1) := by decide +kernel
theorem dX12_now_81 : decode cX12_now 81 = .ok (.ireturn, 1) := by decide +kernel
theorem dX12_now_82 : decode cX12_now 82 = .ok (.aload_n 0, 1) := by decide +kernel
theorem dX12_now_83 : decode cX12_now 83 = .ok (.getfield 22, 3) := by decide +kernel
theorem dX12_now_86 : decode cX12_now 86 = .ok (.bipush 42, 2) := by decide +kernel
theorem dX12_now_88 : decode cX12_now 88 = .ok (.iaload, 1) := by decide +kernel
theorem dX12_now_89 : decode cX12_now 89 = .ok (.ireturn, 1) := by decide +kernel
theorem dX12_now_90 : decode cX12_now 90 = .ok (.aload_n 0, 1) := by decide +kernel
theorem dX12_now_91 : decode cX12_now 91 = .ok (.getfield 22, 3) := by decide +kernel
theorem dX12_now_94 : decode cX12_now 94 = .ok (.bipush 43, 2) := by decide +kernel
theorem dX12_now_96 : decode cX12_now 96 = .ok (.iaload, 1) := by decide +kernel
theorem dX12_now_97 : decode cX12_now 97 = .ok (.ireturn, 1) := by decide +kernel
theorem dX12_now_98 : decode cX12_now 98 = .ok (.aload_n 0, 1) := by decide +kernel
theorem dX12_now_99 : decode cX12_now 99 = .ok (.invokevirtual 126, 3) := by decide +kernel
theorem dX12_now_102 : decode cX12_now 102 = .ok (.ireturn, 1) := by decide +kernel
theorem dX12_now_103 : decode cX12_now 103 = .ok (.aload_n 0, 1) := by decide +kernel
theorem dX12_now_104 : decode cX12_now 104 = .ok (.iconst 0, 1) := by decide +kernel
theorem dX12_now_105 : decode cX12_now 105 = .ok (.invokevirtual 130, 3) := by decide +kernel
theorem dX12_now_108 : decode cX12_now 108 = .ok (.ireturn, 1) := by decide +kernel
theorem dX12_now_109 : decode cX12_now 109 = .ok (.aload_n 0, 1) := by decide +kernel
theorem dX12_now_110 : decode cX12_now 110 = .ok (.iconst 1, 1) := by decide +kernel
theorem dX12_now_111 : decode cX12_now 111 = .ok (.invokevirtual 130, 3) := by decide +kernel
theorem dX12_now_114 : decode cX12_now 114 = .ok (.ireturn, 1) := by decide +kernel
theorem dX12_now_115 : decode cX12_now 115 = .ok (.aload_n 0, 1) := by decide +kernel
theorem dX12_now_116 : decode cX12_now 116 = .ok (.getfield 89, 3) := by decide +kernel
theorem dX12_now_119 : decode cX12_now 119 = .ok (.ireturn, 1) := by decide +kernel
theorem dX12_now_120 : decode cX12_now 120 = .ok (.iconst (-1), 1) := by decide +kernel
theorem dX12_now_121 : decode cX12_now 121 = .ok (.ireturn, 1) := by decide +kernel
theorem dX12_keeps_0 : decode cX12_keeps 0 = .ok (.aload_n 0, 1) := by decide +kernel
theorem dX12_keeps_1 : decode cX12_keeps 1 = .ok (.getfield 89, 3) := by decide +kernel
theorem dX12_keeps_4 : decode cX12_keeps 4 = .ok (.bipush 10, 2) := by decide +kernel
theorem dX12_keeps_6 : decode cX12_keeps 6 = .ok (.if_icmp .ne 43, 3) := by decide +kernel
theorem dX12_keeps_9 : decode cX12_keeps 9 = .ok (.iconst 0, 1) := by decide +kernel
theorem dX12_keeps_10 : decode cX12_keeps 10 = .ok (.istore_n 1, 1) := by decide +kernel
theorem dX12_keeps_11 : decode cX12_keeps 11 = .ok (.iload_n 1, 1) := by decide +kernel
theorem dX12_keeps_12 : decode cX12_keeps 12 = .ok (.sipush 396, 3) := by decide +kernel
theorem dX12_keeps_15 : decode cX12_keeps 15 = .ok (.if_icmp .ge 24, 3) := by decide +kernel
theorem dX12_keeps_18 : decode cX12_keeps 18 = .ok (.aload_n 0, 1) := by decide +kernel
theorem dX12_keeps_19 : decode cX12_keeps 19 = .ok (.getfield 25, 3) := by decide +kernel
theorem dX12_keeps_22 : decode cX12_keeps 22 = .ok (.iload_n 1, 1) := by decide +kernel
theorem dX12_keeps_23 : decode cX12_keeps 23 = .ok (.aload_n 0, 1) := by decide +kernel
theorem dX12_keeps_24 : decode cX12_keeps 24 = .ok (.getfield 25, 3) := by decide +kernel
theorem dX12_keeps_27 : decode cX12_keeps 27 = .ok (.iload_n 1, 1) := by decide +kernel
theorem dX12_keeps_28 : decode cX12_keeps 28 = .ok (.bipush 44, 2) := by decide +kernel
theorem dX12_keeps_30 : decode cX12_keeps 30 = .ok (.iadd, 1) := by decide +kernel
theorem dX12_keeps_31 : decode cX12_keeps 31 = .ok (.iaload, 1) := by decide +kernel
theorem dX12_keeps_32 : decode cX12_keeps 32 = .ok (.iastore, 1) := by decide +kernel
theorem dX12_keeps_33 : decode cX12_keeps 33 = .ok (.iinc 1 1, 3) := by decide +kernel
theorem dX12_keeps_36 : decode cX12_keeps 36 = .ok (.goto (-25), 3) := by decide +kernel
theorem dX12_keeps_39 : decode cX12_keeps 39 = .ok (.aload_n 0, 1) := by decide +kernel
theorem dX12_keeps_40 : decode cX12_keeps 40 = .ok (.dup, 1) := by decide +kernel
theorem dX12_keeps_41 : decode cX12_keeps 41 = .ok (.getfield 89, 3) := by decide +kernel
theorem dX12_keeps_44 : decode cX12_keeps 44 = .ok (.iconst 1, 1) := by decide +kernel
theorem dX12_keeps_45 : decode cX12_keeps 45 = .ok (.isub, 1) := by decide +kernel
theorem dX12_keeps_46 : decode cX12_keeps 46 = .ok (.putfield 89, 3) := by decide +kernel
theorem dX12_keeps_49 : decode cX12_keeps 49 = .ok (.iconst 0, 1) := by decide +kernel
theorem dX12_keeps_50 : decode cX12_keeps 50 = .ok (.istore_n 1, 1) := by decide +kernel
theorem dX12_keeps_51 : decode cX12_keeps 51 = .ok (.iload_n 1, 1) := by decide +kernel
theorem dX12_keeps_52 : decode cX12_keeps 52 = .ok (.bipush 44, 2) := by decide +kernel
theorem dX12_keeps_54 : decode cX12_keeps 54 = .ok (.if_icmp .ge 29, 3) := by decide +kernel
theorem dX12_keeps_57 : decode cX12_keeps 57 = .ok (.aload_n 0, 1) := by decide +kernel
theorem dX12_keeps_58 : decode cX12_keeps 58 = .ok (.getfield 25, 3) := by decide +kernel
theorem dX12_keeps_61 : decode cX12_keeps 61 = .ok (.bipush 44, 2) := by decide +kernel
theorem dX12_keeps_63 : decode cX12_keeps 63 = .ok (.aload_n 0, 1) := by decide +kernel
theorem dX12_keeps_64 : decode cX12_keeps 64 = .ok (.getfield 89, 3) := by decide +kernel
theorem dX12_keeps_67 : decode cX12_keeps 67 = .ok (.imul, 1) := by decide +kernel
theorem dX12_keeps_68 : decode cX12_keeps 68 = .ok (.iload_n 1, 1) := by decide +kernel
theorem dX12_keeps_69 : decode cX12_keeps 69 = .ok (.iadd, 1) := by decide +kernel
theorem dX12_keeps_70 : decode cX12_keeps 70 = .ok (.aload_n 0, 1) := by decide +kernel
theorem dX12_keeps_71 : decode cX12_keeps 71 = .ok (.getfield 22, 3) := by decide +kernel
theorem dX12_keeps_74 : decode cX12_keeps 74 = .ok (.iload_n 1, 1) := by decide +kernel
theorem dX12_keeps_75 : decode cX12_keeps 75 = .ok (.iaload, 1) := by decide +kernel
theorem dX12_keeps_76 : decode cX12_keeps 76 = .ok (.iastore, 1) := by decide +kernel
theorem dX12_keeps_77 : decode cX12_keeps 77 = .ok (.iinc 1 1, 3) := by decide +kernel
theorem dX12_keeps_80 : decode cX12_keeps 80 = .ok (.goto (-29), 3) := by decide +kernel
theorem dX12_keeps_83 : decode cX12_keeps 83 = .ok (.aload_n 0, 1) := by decide +kernel
theorem dX12_keeps_84 : decode cX12_keeps 84 = .ok (.dup, 1) := by decide +kernel
theorem dX12_keeps_85 : decode cX12_keeps 85 = .ok (.getfield 89, 3) := by decide +kernel
theorem dX12_keeps_88 : decode cX12_keeps 88 = .ok (.iconst 1, 1) := by decide +kernel
theorem dX12_keeps_89 : decode cX12_keeps 89 = .ok (.iadd, 1) := by decide +kernel
theorem dX12_keeps_90 : decode cX12_keeps 90 = .ok (.putfield 89, 3) := by decide +kernel
theorem dX12_keeps_93 : decode cX12_keeps 93 = .ok (.return_, 1) := by decide +kernel
theorem dX12_prints_0 : decode cX12_prints 0 = .ok (.aload_n 0, 1) := by decide +kernel
theorem dX12_prints_1 : decode cX12_prints 1 = .ok (.aload_n 0, 1) := by decide +kernel
theorem dX12_prints_2 : decode cX12_prints 2 = .ok (.getfield 22, 3) := by decide +kernel
theorem dX12_prints_5 : decode cX12_prints 5 = .ok (.iload_n 1, 1) := by decide +kernel
theorem dX12_prints_6 : decode cX12_prints 6 = .ok (.iaload, 1) := by decide +kernel
theorem dX12_prints_7 : decode cX12_prints 7 = .ok (.invokevirtual 95, 3) := by decide +kernel
theorem dX12_prints_10 : decode cX12_prints 10 = .ok (.aload_n 0, 1) := by decide +kernel
theorem dX12_prints_11 : decode cX12_prints 11 = .ok (.getfield 13, 3) := by decide +kernel
theorem dX12_prints_14 : decode cX12_prints 14 = .ok (.iconst 4, 1) := by decide +kernel
theorem dX12_prints_15 : decode cX12_prints 15 = .ok (.iload_n 1, 1) := by decide +kernel
theorem dX12_prints_16 : decode cX12_prints 16 = .ok (.iadd, 1) := by decide +kernel
theorem dX12_prints_17 : decode cX12_prints 17 = .ok (.iaload, 1) := by decide +kernel
theorem dX12_prints_18 : decode cX12_prints 18 = .ok (.iadd, 1) := by decide +kernel
theorem dX12_prints_19 : decode cX12_prints 19 = .ok (.istore_n 3, 1) := by decide +kernel
theorem dX12_prints_20 : decode cX12_prints 20 = .ok (.aload_n 0, 1) := by decide +kernel
theorem dX12_prints_21 : decode cX12_prints 21 = .ok (.getfield 22, 3) := by decide +kernel
theorem dX12_prints_24 : decode cX12_prints 24 = .ok (.iconst 5, 1) := by decide +kernel
theorem dX12_prints_25 : decode cX12_prints 25 = .ok (.aload_n 0, 1) := by decide +kernel
theorem dX12_prints_26 : decode cX12_prints 26 = .ok (.getfield 22, 3) := by decide +kernel
theorem dX12_prints_29 : decode cX12_prints 29 = .ok (.iload_n 1, 1) := by decide +kernel
theorem dX12_prints_30 : decode cX12_prints 30 = .ok (.iaload, 1) := by decide +kernel
theorem dX12_prints_31 : decode cX12_prints 31 = .ok (.iadd, 1) := by decide +kernel
theorem dX12_prints_32 : decode cX12_prints 32 = .ok (.iload_n 3, 1) := by decide +kernel
theorem dX12_prints_33 : decode cX12_prints 33 = .ok (.bipush 9, 2) := by decide +kernel
theorem dX12_prints_35 : decode cX12_prints 35 = .ok (.if_icmp .le 8, 3) := by decide +kernel
theorem dX12_prints_38 : decode cX12_prints 38 = .ok (.bipush 9, 2) := by decide +kernel
theorem dX12_prints_40 : decode cX12_prints 40 = .ok (.goto 4, 3) := by decide +kernel
theorem dX12_prints_43 : decode cX12_prints 43 = .ok (.iload_n 3, 1) := by decide +kernel
theorem dX12_prints_44 : decode cX12_prints 44 = .ok (.bipush 16, 2) := by decide +kernel
theorem dX12_prints_46 : decode cX12_prints 46 = .ok (.iload_n 2, 1) := by decide +kernel
theorem dX12_prints_47 : decode cX12_prints 47 = .ok (.iconst 1, 1) := by decide +kernel
theorem dX12_prints_48 : decode cX12_prints 48 = .ok (.iadd, 1) := by decide +kernel
theorem dX12_prints_49 : decode cX12_prints 49 = .ok (.imul, 1) := by decide +kernel
theorem dX12_prints_50 : decode cX12_prints 50 = .ok (.iadd, 1) := by decide +kernel
theorem dX12_prints_51 : decode cX12_prints 51 = .ok (.iastore, 1) := by decide +kernel
theorem dX12_prints_52 : decode cX12_prints 52 = .ok (.aload_n 0, 1) := by decide +kernel
theorem dX12_prints_53 : decode cX12_prints 53 = .ok (.aload_n 0, 1) := by decide +kernel
theorem dX12_prints_54 : decode cX12_prints 54 = .ok (.getfield 22, 3) := by decide +kernel
theorem dX12_prints_57 : decode cX12_prints 57 = .ok (.iload_n 1, 1) := by decide +kernel
theorem dX12_prints_58 : decode cX12_prints 58 = .ok (.iaload, 1) := by decide +kernel
theorem dX12_prints_59 : decode cX12_prints 59 = .ok (.invokevirtual 95, 3) := by decide +kernel
theorem dX12_prints_62 : decode cX12_prints 62 = .ok (.ireturn, 1) := by decide +kernel
theorem dX12_beside_0 : decode cX12_beside 0 = .ok (.iload_n 0, 1) := by decide +kernel
theorem dX12_beside_1 : decode cX12_beside 1 = .ok (.bipush 6, 2) := by decide +kernel
theorem dX12_beside_3 : decode cX12_beside 3 = .ok (.idiv, 1) := by decide +kernel
theorem dX12_beside_4 : decode cX12_beside 4 = .ok (.iload_n 1, 1) := by decide +kernel
theorem dX12_beside_5 : decode cX12_beside 5 = .ok (.ifCond .ne 7, 3) := by decide +kernel
theorem dX12_beside_8 : decode cX12_beside 8 = .ok (.iconst (-1), 1) := by decide +kernel
theorem dX12_beside_9 : decode cX12_beside 9 = .ok (.goto 13, 3) := by decide +kernel
theorem dX12_beside_12 : decode cX12_beside 12 = .ok (.iload_n 1, 1) := by decide +kernel
theorem dX12_beside_13 : decode cX12_beside 13 = .ok (.iconst 1, 1) := by decide +kernel
theorem dX12_beside_14 : decode cX12_beside 14 = .ok (.if_icmp .ne 7, 3) := by decide +kernel
theorem dX12_beside_17 : decode cX12_beside 17 = .ok (.iconst 1, 1) := by decide +kernel
theorem dX12_beside_18 : decode cX12_beside 18 = .ok (.goto 4, 3) := by decide +kernel
theorem dX12_beside_21 : decode cX12_beside 21 = .ok (.iconst 0, 1) := by decide +kernel
theorem dX12_beside_22 : decode cX12_beside 22 = .ok (.iadd, 1) := by decide +kernel
theorem dX12_beside_23 : decode cX12_beside 23 = .ok (.istore_n 2, 1) := by decide +kernel
theorem dX12_beside_24 : decode cX12_beside 24 = .ok (.iload_n 0, 1) := by decide +kernel
theorem dX12_beside_25 : decode cX12_beside 25 = .ok (.bipush 6, 2) := by decide +kernel
theorem dX12_beside_27 : decode cX12_beside 27 = .ok (.irem, 1) := by decide +kernel
theorem dX12_beside_28 : decode cX12_beside 28 = .ok (.iload_n 1, 1) := by decide +kernel
theorem dX12_beside_29 : decode cX12_beside 29 = .ok (.iconst 2, 1) := by decide +kernel
theorem dX12_beside_30 : decode cX12_beside 30 = .ok (.if_icmp .ne 7, 3) := by decide +kernel
theorem dX12_beside_33 : decode cX12_beside 33 = .ok (.iconst (-1), 1) := by decide +kernel
theorem dX12_beside_34 : decode cX12_beside 34 = .ok (.goto 13, 3) := by decide +kernel
theorem dX12_beside_37 : decode cX12_beside 37 = .ok (.iload_n 1, 1) := by decide +kernel
theorem dX12_beside_38 : decode cX12_beside 38 = .ok (.iconst 3, 1) := by decide +kernel
theorem dX12_beside_39 : decode cX12_beside 39 = .ok (.if_icmp .ne 7, 3) := by decide +kernel
theorem dX12_beside_42 : decode cX12_beside 42 = .ok (.iconst 1, 1) := by decide +kernel
theorem dX12_beside_43 : decode cX12_beside 43 = .ok (.goto 4, 3) := by decide +kernel
theorem dX12_beside_46 : decode cX12_beside 46 = .ok (.iconst 0, 1) := by decide +kernel
theorem dX12_beside_47 : decode cX12_beside 47 = .ok (.iadd, 1) := by decide +kernel
theorem dX12_beside_48 : decode cX12_beside 48 = .ok (.istore_n 3, 1) := by decide +kernel
theorem dX12_beside_49 : decode cX12_beside 49 = .ok (.iload_n 2, 1) := by decide +kernel
theorem dX12_beside_50 : decode cX12_beside 50 = .ok (.iconst 0, 1) := by decide +kernel
theorem dX12_beside_51 : decode cX12_beside 51 = .ok (.iconst 5, 1) := by decide +kernel
theorem dX12_beside_52 : decode cX12_beside 52 = .ok (.invokestatic 48, 3) := by decide +kernel
theorem dX12_beside_55 : decode cX12_beside 55 = .ok (.ifCond .eq 21, 3) := by decide +kernel
theorem dX12_beside_58 : decode cX12_beside 58 = .ok (.iload_n 3, 1) := by decide +kernel
theorem dX12_beside_59 : decode cX12_beside 59 = .ok (.iconst 0, 1) := by decide +kernel
theorem dX12_beside_60 : decode cX12_beside 60 = .ok (.iconst 5, 1) := by decide +kernel
theorem dX12_beside_61 : decode cX12_beside 61 = .ok (.invokestatic 48, 3) := by decide +kernel
theorem dX12_beside_64 : decode cX12_beside 64 = .ok (.ifCond .eq 12, 3) := by decide +kernel
theorem dX12_beside_67 : decode cX12_beside 67 = .ok (.bipush 6, 2) := by decide +kernel
theorem dX12_beside_69 : decode cX12_beside 69 = .ok (.iload_n 2, 1) := by decide +kernel
theorem dX12_beside_70 : decode cX12_beside 70 = .ok (.imul, 1) := by decide +kernel
theorem dX12_beside_71 : decode cX12_beside 71 = .ok (.iload_n 3, 1) := by decide +kernel
theorem dX12_beside_72 : decode cX12_beside 72 = .ok (.iadd, 1) := by decide +kernel
theorem dX12_beside_73 : decode cX12_beside 73 = .ok (.goto 5, 3) := by decide +kernel
theorem dX12_beside_76 : decode cX12_beside 76 = .ok (.bipush (-9), 2) := by decide +kernel
theorem dX12_beside_78 : decode cX12_beside 78 = .ok (.ireturn, 1) := by decide +kernel
theorem dX12_walks_0 : decode cX12_walks 0 = .ok (.aload_n 0, 1) := by decide +kernel
theorem dX12_walks_1 : decode cX12_walks 1 = .ok (.iload_n 1, 1) := by decide +kernel
theorem dX12_walks_2 : decode cX12_walks 2 = .ok (.invokevirtual 107, 3) := by decide +kernel
theorem dX12_walks_5 : decode cX12_walks 5 = .ok (.ifCond .eq 12, 3) := by decide +kernel
theorem dX12_walks_8 : decode cX12_walks 8 = .ok (.iload_n 2, 1) := by decide +kernel
theorem dX12_walks_9 : decode cX12_walks 9 = .ok (.iconst 0, 1) := by decide +kernel
theorem dX12_walks_10 : decode cX12_walks 10 = .ok (.iconst 3, 1) := by decide +kernel
theorem dX12_walks_11 : decode cX12_walks 11 = .ok (.invokestatic 48, 3) := by decide +kernel
theorem dX12_walks_14 : decode cX12_walks 14 = .ok (.ifCond .ne 5, 3) := by decide +kernel
theorem dX12_walks_17 : decode cX12_walks 17 = .ok (.iconst (-1), 1) := by decide +kernel
theorem dX12_walks_18 : decode cX12_walks 18 = .ok (.ireturn, 1) := by decide +kernel
theorem dX12_walks_19 : decode cX12_walks 19 = .ok (.aload_n 0, 1) := by decide +kernel
theorem dX12_walks_20 : decode cX12_walks 20 = .ok (.getfield 22, 3) := by decide +kernel
theorem dX12_walks_23 : decode cX12_walks 23 = .ok (.iload_n 1, 1) := by decide +kernel
theorem dX12_walks_24 : decode cX12_walks 24 = .ok (.iaload, 1) := by decide +kernel
theorem dX12_walks_25 : decode cX12_walks 25 = .ok (.iload_n 2, 1) := by decide +kernel
theorem dX12_walks_26 : decode cX12_walks 26 = .ok (.invokestatic 134, 3) := by decide +kernel
theorem dX12_walks_29 : decode cX12_walks 29 = .ok (.istore_n 3, 1) := by decide +kernel
theorem dX12_walks_30 : decode cX12_walks 30 = .ok (.iload_n 3, 1) := by decide +kernel
theorem dX12_walks_31 : decode cX12_walks 31 = .ok (.bipush (-9), 2) := by decide +kernel
theorem dX12_walks_33 : decode cX12_walks 33 = .ok (.if_icmp .ne 6, 3) := by decide +kernel
theorem dX12_walks_36 : decode cX12_walks 36 = .ok (.bipush (-2), 2) := by decide +kernel
theorem dX12_walks_38 : decode cX12_walks 38 = .ok (.ireturn, 1) := by decide +kernel
theorem dX12_walks_39 : decode cX12_walks 39 = .ok (.aload_n 0, 1) := by decide +kernel
theorem dX12_walks_40 : decode cX12_walks 40 = .ok (.invokevirtual 137, 3) := by decide +kernel
theorem dX12_walks_43 : decode cX12_walks 43 = .ok (.aload_n 0, 1) := by decide +kernel
theorem dX12_walks_44 : decode cX12_walks 44 = .ok (.getfield 22, 3) := by decide +kernel
theorem dX12_walks_47 : decode cX12_walks 47 = .ok (.iload_n 1, 1) := by decide +kernel
theorem dX12_walks_48 : decode cX12_walks 48 = .ok (.iload_n 3, 1) := by decide +kernel
theorem dX12_walks_49 : decode cX12_walks 49 = .ok (.iastore, 1) := by decide +kernel
theorem dX12_walks_50 : decode cX12_walks 50 = .ok (.aload_n 0, 1) := by decide +kernel
theorem dX12_walks_51 : decode cX12_walks 51 = .ok (.iload_n 1, 1) := by decide +kernel
theorem dX12_walks_52 : decode cX12_walks 52 = .ok (.iload_n 2, 1) := by decide +kernel
theorem dX12_walks_53 : decode cX12_walks 53 = .ok (.invokevirtual 140, 3) := by decide +kernel
theorem dX12_walks_56 : decode cX12_walks 56 = .ok (.ireturn, 1) := by decide +kernel
theorem dX12_stands_0 : decode cX12_stands 0 = .ok (.aload_n 0, 1) := by decide +kernel
theorem dX12_stands_1 : decode cX12_stands 1 = .ok (.iload_n 1, 1) := by decide +kernel
theorem dX12_stands_2 : decode cX12_stands 2 = .ok (.invokevirtual 107, 3) := by decide +kernel
theorem dX12_stands_5 : decode cX12_stands 5 = .ok (.ifCond .eq 12, 3) := by decide +kernel
theorem dX12_stands_8 : decode cX12_stands 8 = .ok (.iload_n 2, 1) := by decide +kernel
theorem dX12_stands_9 : decode cX12_stands 9 = .ok (.iconst 0, 1) := by decide +kernel
theorem dX12_stands_10 : decode cX12_stands 10 = .ok (.iconst 3, 1) := by decide +kernel
theorem dX12_stands_11 : decode cX12_stands 11 = .ok (.invokestatic 48, 3) := by decide +kernel
theorem dX12_stands_14 : decode cX12_stands 14 = .ok (.ifCond .ne 5, 3) := by decide +kernel
theorem dX12_stands_17 : decode cX12_stands 17 = .ok (.iconst (-1), 1) := by decide +kernel
theorem dX12_stands_18 : decode cX12_stands 18 = .ok (.ireturn, 1) := by decide +kernel
theorem dX12_stands_19 : decode cX12_stands 19 = .ok (.aload_n 0, 1) := by decide +kernel
theorem dX12_stands_20 : decode cX12_stands 20 = .ok (.invokevirtual 137, 3) := by decide +kernel
theorem dX12_stands_23 : decode cX12_stands 23 = .ok (.aload_n 0, 1) := by decide +kernel
theorem dX12_stands_24 : decode cX12_stands 24 = .ok (.iload_n 1, 1) := by decide +kernel
theorem dX12_stands_25 : decode cX12_stands 25 = .ok (.iload_n 2, 1) := by decide +kernel
theorem dX12_stands_26 : decode cX12_stands 26 = .ok (.invokevirtual 140, 3) := by decide +kernel
theorem dX12_stands_29 : decode cX12_stands 29 = .ok (.ireturn, 1) := by decide +kernel
theorem dX12_rains_0 : decode cX12_rains 0 = .ok (.aload_n 0, 1) := by decide +kernel
theorem dX12_rains_1 : decode cX12_rains 1 = .ok (.invokevirtual 137, 3) := by decide +kernel
theorem dX12_rains_4 : decode cX12_rains 4 = .ok (.iconst 0, 1) := by decide +kernel
theorem dX12_rains_5 : decode cX12_rains 5 = .ok (.istore_n 1, 1) := by decide +kernel
theorem dX12_rains_6 : decode cX12_rains 6 = .ok (.iconst 0, 1) := by decide +kernel
theorem dX12_rains_7 : decode cX12_rains 7 = .ok (.istore_n 2, 1) := by decide +kernel
theorem dX12_rains_8 : decode cX12_rains 8 = .ok (.iload_n 2, 1) := by decide +kernel
theorem dX12_rains_9 : decode cX12_rains 9 = .ok (.bipush 36, 2) := by decide +kernel
theorem dX12_rains_11 : decode cX12_rains 11 = .ok (.if_icmp .ge 93, 3) := by decide +kernel
theorem dX12_rains_14 : decode cX12_rains 14 = .ok (.aload_n 0, 1) := by decide +kernel
theorem dX12_rains_15 : decode cX12_rains 15 = .ok (.iload_n 2, 1) := by decide +kernel
theorem dX12_rains_16 : decode cX12_rains 16 = .ok (.invokevirtual 95, 3) := by decide +kernel
theorem dX12_rains_19 : decode cX12_rains 19 = .ok (.ifCond .le 7, 3) := by decide +kernel
theorem dX12_rains_22 : decode cX12_rains 22 = .ok (.iconst 1, 1) := by decide +kernel
theorem dX12_rains_23 : decode cX12_rains 23 = .ok (.goto 4, 3) := by decide +kernel
theorem dX12_rains_26 : decode cX12_rains 26 = .ok (.iconst 0, 1) := by decide +kernel
theorem dX12_rains_27 : decode cX12_rains 27 = .ok (.istore_n 3, 1) := by decide +kernel
theorem dX12_rains_28 : decode cX12_rains 28 = .ok (.aload_n 0, 1) := by decide +kernel
theorem dX12_rains_29 : decode cX12_rains 29 = .ok (.iload_n 2, 1) := by decide +kernel
theorem dX12_rains_30 : decode cX12_rains 30 = .ok (.invokevirtual 95, 3) := by decide +kernel
theorem dX12_rains_33 : decode cX12_rains 33 = .ok (.aload_n 0, 1) := by decide +kernel
theorem dX12_rains_34 : decode cX12_rains 34 = .ok (.getfield 13, 3) := by decide +kernel
theorem dX12_rains_37 : decode cX12_rains 37 = .ok (.iconst 1, 1) := by decide +kernel
theorem dX12_rains_38 : decode cX12_rains 38 = .ok (.iaload, 1) := by decide +kernel
theorem dX12_rains_39 : decode cX12_rains 39 = .ok (.if_icmp .le 7, 3) := by decide +kernel
theorem dX12_rains_42 : decode cX12_rains 42 = .ok (.iconst 1, 1) := by decide +kernel
theorem dX12_rains_43 : decode cX12_rains 43 = .ok (.goto 4, 3) := by decide +kernel
theorem dX12_rains_46 : decode cX12_rains 46 = .ok (.iconst 0, 1) := by decide +kernel
theorem dX12_rains_47 : decode cX12_rains 47 = .ok (.istore 4, 2) := by decide +kernel
theorem dX12_rains_49 : decode cX12_rains 49 = .ok (.aload_n 0, 1) := by decide +kernel
theorem dX12_rains_50 : decode cX12_rains 50 = .ok (.getfield 22, 3) := by decide +kernel
theorem dX12_rains_53 : decode cX12_rains 53 = .ok (.iconst 5, 1) := by decide +kernel
theorem dX12_rains_54 : decode cX12_rains 54 = .ok (.iload_n 2, 1) := by decide +kernel
theorem dX12_rains_55 : decode cX12_rains 55 = .ok (.iadd, 1) := by decide +kernel
theorem dX12_rains_56 : decode cX12_rains 56 = .ok (.iload 4, 2) := by decide +kernel
theorem dX12_rains_58 : decode cX12_rains 58 = .ok (.ifCond .eq 21, 3) := by decide +kernel
theorem dX12_rains_61 : decode cX12_rains 61 = .ok (.aload_n 0, 1) := by decide +kernel
theorem dX12_rains_62 : decode cX12_rains 62 = .ok (.getfield 22, 3) := by decide +kernel
theorem dX12_rains_65 : decode cX12_rains 65 = .ok (.iconst 5, 1) := by decide +kernel
theorem dX12_rains_66 : decode cX12_rains 66 = .ok (.iload_n 2, 1) := by decide +kernel
theorem dX12_rains_67 : decode cX12_rains 67 = .ok (.iadd, 1) := by decide +kernel
theorem dX12_rains_68 : decode cX12_rains 68 = .ok (.iaload, 1) := by decide +kernel
theorem dX12_rains_69 : decode cX12_rains 69 = .ok (.aload_n 0, 1) := by decide +kernel
theorem dX12_rains_70 : decode cX12_rains 70 = .ok (.getfield 13, 3) := by decide +kernel
theorem dX12_rains_73 : decode cX12_rains 73 = .ok (.iconst 1, 1) := by decide +kernel
theorem dX12_rains_74 : decode cX12_rains 74 = .ok (.iaload, 1) := by decide +kernel
theorem dX12_rains_75 : decode cX12_rains 75 = .ok (.isub, 1) := by decide +kernel
theorem dX12_rains_76 : decode cX12_rains 76 = .ok (.goto 4, 3) := by decide +kernel
theorem dX12_rains_79 : decode cX12_rains 79 = .ok (.iconst 0, 1) := by decide +kernel
theorem dX12_rains_80 : decode cX12_rains 80 = .ok (.iastore, 1) := by decide +kernel
theorem dX12_rains_81 : decode cX12_rains 81 = .ok (.iload_n 1, 1) := by decide +kernel
theorem dX12_rains_82 : decode cX12_rains 82 = .ok (.iload_n 3, 1) := by decide +kernel
theorem dX12_rains_83 : decode cX12_rains 83 = .ok (.ifCond .eq 12, 3) := by decide +kernel
theorem dX12_rains_86 : decode cX12_rains 86 = .ok (.iload 4, 2) := by decide +kernel
theorem dX12_rains_88 : decode cX12_rains 88 = .ok (.ifCond .ne 7, 3) := by decide +kernel
theorem dX12_rains_91 : decode cX12_rains 91 = .ok (.iconst 1, 1) := by decide +kernel
theorem dX12_rains_92 : decode cX12_rains 92 = .ok (.goto 4, 3) := by decide +kernel
theorem dX12_rains_95 : decode cX12_rains 95 = .ok (.iconst 0, 1) := by decide +kernel
theorem dX12_rains_96 : decode cX12_rains 96 = .ok (.iadd, 1) := by decide +kernel
theorem dX12_rains_97 : decode cX12_rains 97 = .ok (.istore_n 1, 1) := by decide +kernel
theorem dX12_rains_98 : decode cX12_rains 98 = .ok (.iinc 2 1, 3) := by decide +kernel
theorem dX12_rains_101 : decode cX12_rains 101 = .ok (.goto (-93), 3) := by decide +kernel
theorem dX12_rains_104 : decode cX12_rains 104 = .ok (.iload_n 1, 1) := by decide +kernel
theorem dX12_rains_105 : decode cX12_rains 105 = .ok (.ireturn, 1) := by decide +kernel
theorem dX12_corner_0 : decode cX12_corner 0 = .ok (.bipush 6, 2) := by decide +kernel
theorem dX12_corner_2 : decode cX12_corner 2 = .ok (.iload_n 0, 1) := by decide +kernel
theorem dX12_corner_3 : decode cX12_corner 3 = .ok (.iconst 5, 1) := by decide +kernel
theorem dX12_corner_4 : decode cX12_corner 4 = .ok (.idiv, 1) := by decide +kernel
theorem dX12_corner_5 : decode cX12_corner 5 = .ok (.imul, 1) := by decide +kernel
theorem dX12_corner_6 : decode cX12_corner 6 = .ok (.iload_n 0, 1) := by decide +kernel
theorem dX12_corner_7 : decode cX12_corner 7 = .ok (.iconst 5, 1) := by decide +kernel
theorem dX12_corner_8 : decode cX12_corner 8 = .ok (.irem, 1) := by decide +kernel
theorem dX12_corner_9 : decode cX12_corner 9 = .ok (.iadd, 1) := by decide +kernel
theorem dX12_corner_10 : decode cX12_corner 10 = .ok (.ireturn, 1) := by decide +kernel
theorem dX12_inTray_0 : decode cX12_inTray 0 = .ok (.iload_n 1, 1) := by decide +kernel
theorem dX12_inTray_1 : decode cX12_inTray 1 = .ok (.invokestatic 143, 3) := by decide +kernel
theorem dX12_inTray_4 : decode cX12_inTray 4 = .ok (.istore_n 2, 1) := by decide +kernel
theorem dX12_inTray_5 : decode cX12_inTray 5 = .ok (.aload_n 0, 1) := by decide +kernel
theorem dX12_inTray_6 : decode cX12_inTray 6 = .ok (.iload_n 2, 1) := by decide +kernel
theorem dX12_inTray_7 : decode cX12_inTray 7 = .ok (.invokevirtual 95, 3) := by decide +kernel
theorem dX12_inTray_10 : decode cX12_inTray 10 = .ok (.aload_n 0, 1) := by decide +kernel
theorem dX12_inTray_11 : decode cX12_inTray 11 = .ok (.iload_n 2, 1) := by decide +kernel
theorem dX12_inTray_12 : decode cX12_inTray 12 = .ok (.iconst 1, 1) := by decide +kernel
theorem dX12_inTray_13 : decode cX12_inTray 13 = .ok (.iadd, 1) := by decide +kernel
theorem dX12_inTray_14 : decode cX12_inTray 14 = .ok (.invokevirtual 95, 3) := by decide +kernel
theorem dX12_inTray_17 : decode cX12_inTray 17 = .ok (.iadd, 1) := by decide +kernel
theorem dX12_inTray_18 : decode cX12_inTray 18 = .ok (.aload_n 0, 1) := by decide +kernel
theorem dX12_inTray_19 : decode cX12_inTray 19 = .ok (.iload_n 2, 1) := by decide +kernel
theorem dX12_inTray_20 : decode cX12_inTray 20 = .ok (.bipush 6, 2) := by decide +kernel
theorem dX12_inTray_22 : decode cX12_inTray 22 = .ok (.iadd, 1) := by decide +kernel
theorem dX12_inTray_23 : decode cX12_inTray 23 = .ok (.invokevirtual 95, 3) := by decide +kernel
theorem dX12_inTray_26 : decode cX12_inTray 26 = .ok (.iadd, 1) := by decide +kernel
theorem dX12_inTray_27 : decode cX12_inTray 27 = .ok (.aload_n 0, 1) := by decide +kernel
theorem dX12_inTray_28 : decode cX12_inTray 28 = .ok (.iload_n 2, 1) := by decide +kernel
theorem dX12_inTray_29 : decode cX12_inTray 29 = .ok (.bipush 6, 2) := by decide +kernel
theorem dX12_inTray_31 : decode cX12_inTray 31 = .ok (.iadd, 1) := by decide +kernel
theorem dX12_inTray_32 : decode cX12_inTray 32 = .ok (.iconst 1, 1) := by decide +kernel
theorem dX12_inTray_33 : decode cX12_inTray 33 = .ok (.iadd, 1) := by decide +kernel
theorem dX12_inTray_34 : decode cX12_inTray 34 = .ok (.invokevirtual 95, 3) := by decide +kernel
theorem dX12_inTray_37 : decode cX12_inTray 37 = .ok (.iadd, 1) := by decide +kernel
theorem dX12_inTray_38 : decode cX12_inTray 38 = .ok (.ireturn, 1) := by decide +kernel
theorem dX12_lifts_0 : decode cX12_lifts 0 = .ok (.iload_n 1, 1) := by decide +kernel
theorem dX12_lifts_1 : decode cX12_lifts 1 = .ok (.iconst 0, 1) := by decide +kernel
theorem dX12_lifts_2 : decode cX12_lifts 2 = .ok (.iconst 4, 1) := by decide +kernel
theorem dX12_lifts_3 : decode cX12_lifts 3 = .ok (.invokestatic 48, 3) := by decide +kernel
theorem dX12_lifts_6 : decode cX12_lifts 6 = .ok (.ifCond .eq 12, 3) := by decide +kernel
theorem dX12_lifts_9 : decode cX12_lifts 9 = .ok (.iload_n 2, 1) := by decide +kernel
theorem dX12_lifts_10 : decode cX12_lifts 10 = .ok (.iconst 0, 1) := by decide +kernel
theorem dX12_lifts_11 : decode cX12_lifts 11 = .ok (.iconst 4, 1) := by decide +kernel
theorem dX12_lifts_12 : decode cX12_lifts 12 = .ok (.invokestatic 48, 3) := by decide +kernel
theorem dX12_lifts_15 : decode cX12_lifts 15 = .ok (.ifCond .ne 5, 3) := by decide +kernel
theorem dX12_lifts_18 : decode cX12_lifts 18 = .ok (.iconst (-1), 1) := by decide +kernel
theorem dX12_lifts_19 : decode cX12_lifts 19 = .ok (.ireturn, 1) := by decide +kernel
theorem dX12_lifts_20 : decode cX12_lifts 20 = .ok (.aload_n 0, 1) := by decide +kernel
theorem dX12_lifts_21 : decode cX12_lifts 21 = .ok (.iconst 5, 1) := by decide +kernel
theorem dX12_lifts_22 : decode cX12_lifts 22 = .ok (.iload_n 1, 1) := by decide +kernel
theorem dX12_lifts_23 : decode cX12_lifts 23 = .ok (.imul, 1) := by decide +kernel
theorem dX12_lifts_24 : decode cX12_lifts 24 = .ok (.iload_n 2, 1) := by decide +kernel
theorem dX12_lifts_25 : decode cX12_lifts 25 = .ok (.iadd, 1) := by decide +kernel
theorem dX12_lifts_26 : decode cX12_lifts 26 = .ok (.invokevirtual 146, 3) := by decide +kernel
theorem dX12_lifts_29 : decode cX12_lifts 29 = .ok (.istore_n 3, 1) := by decide +kernel
theorem dX12_lifts_30 : decode cX12_lifts 30 = .ok (.iload_n 3, 1) := by decide +kernel
theorem dX12_lifts_31 : decode cX12_lifts 31 = .ok (.ifCond .ne 6, 3) := by decide +kernel
theorem dX12_lifts_34 : decode cX12_lifts 34 = .ok (.bipush (-2), 2) := by decide +kernel
theorem dX12_lifts_36 : decode cX12_lifts 36 = .ok (.ireturn, 1) := by decide +kernel
theorem dX12_lifts_37 : decode cX12_lifts 37 = .ok (.aload_n 0, 1) := by decide +kernel
theorem dX12_lifts_38 : decode cX12_lifts 38 = .ok (.invokevirtual 137, 3) := by decide +kernel
theorem dX12_lifts_41 : decode cX12_lifts 41 = .ok (.bipush 6, 2) := by decide +kernel
theorem dX12_lifts_43 : decode cX12_lifts 43 = .ok (.iload_n 1, 1) := by decide +kernel
theorem dX12_lifts_44 : decode cX12_lifts 44 = .ok (.imul, 1) := by decide +kernel
theorem dX12_lifts_45 : decode cX12_lifts 45 = .ok (.iload_n 2, 1) := by decide +kernel
theorem dX12_lifts_46 : decode cX12_lifts 46 = .ok (.iadd, 1) := by decide +kernel
theorem dX12_lifts_47 : decode cX12_lifts 47 = .ok (.istore 4, 2) := by decide +kernel
theorem dX12_lifts_49 : decode cX12_lifts 49 = .ok (.aload_n 0, 1) := by decide +kernel
theorem dX12_lifts_50 : decode cX12_lifts 50 = .ok (.getfield 22, 3) := by decide +kernel
theorem dX12_lifts_53 : decode cX12_lifts 53 = .ok (.iconst 5, 1) := by decide +kernel
theorem dX12_lifts_54 : decode cX12_lifts 54 = .ok (.iload 4, 2) := by decide +kernel
theorem dX12_lifts_56 : decode cX12_lifts 56 = .ok (.iadd, 1) := by decide +kernel
theorem dX12_lifts_57 : decode cX12_lifts 57 = .ok (.iconst 0, 1) := by decide +kernel
theorem dX12_lifts_58 : decode cX12_lifts 58 = .ok (.iastore, 1) := by decide +kernel
theorem dX12_lifts_59 : decode cX12_lifts 59 = .ok (.aload_n 0, 1) := by decide +kernel
theorem dX12_lifts_60 : decode cX12_lifts 60 = .ok (.getfield 22, 3) := by decide +kernel
theorem dX12_lifts_63 : decode cX12_lifts 63 = .ok (.iconst 5, 1) := by decide +kernel
theorem dX12_lifts_64 : decode cX12_lifts 64 = .ok (.iload 4, 2) := by decide +kernel
theorem dX12_lifts_66 : decode cX12_lifts 66 = .ok (.iadd, 1) := by decide +kernel
theorem dX12_lifts_67 : decode cX12_lifts 67 = .ok (.iconst 1, 1) := by decide +kernel
theorem dX12_lifts_68 : decode cX12_lifts 68 = .ok (.iadd, 1) := by decide +kernel
theorem dX12_lifts_69 : decode cX12_lifts 69 = .ok (.iconst 0, 1) := by decide +kernel
theorem dX12_lifts_70 : decode cX12_lifts 70 = .ok (.iastore, 1) := by decide +kernel
theorem dX12_lifts_71 : decode cX12_lifts 71 = .ok (.aload_n 0, 1) := by decide +kernel
theorem dX12_lifts_72 : decode cX12_lifts 72 = .ok (.getfield 22, 3) := by decide +kernel
theorem dX12_lifts_75 : decode cX12_lifts 75 = .ok (.iconst 5, 1) := by decide +kernel
theorem dX12_lifts_76 : decode cX12_lifts 76 = .ok (.iload 4, 2) := by decide +kernel
theorem dX12_lifts_78 : decode cX12_lifts 78 = .ok (.iadd, 1) := by decide +kernel
theorem dX12_lifts_79 : decode cX12_lifts 79 = .ok (.bipush 6, 2) := by decide +kernel
theorem dX12_lifts_81 : decode cX12_lifts 81 = .ok (.iadd, 1) := by decide +kernel
theorem dX12_lifts_82 : decode cX12_lifts 82 = .ok (.iconst 0, 1) := by decide +kernel
theorem dX12_lifts_83 : decode cX12_lifts 83 = .ok (.iastore, 1) := by decide +kernel
theorem dX12_lifts_84 : decode cX12_lifts 84 = .ok (.aload_n 0, 1) := by decide +kernel
theorem dX12_lifts_85 : decode cX12_lifts 85 = .ok (.getfield 22, 3) := by decide +kernel
theorem dX12_lifts_88 : decode cX12_lifts 88 = .ok (.iconst 5, 1) := by decide +kernel
theorem dX12_lifts_89 : decode cX12_lifts 89 = .ok (.iload 4, 2) := by decide +kernel
theorem dX12_lifts_91 : decode cX12_lifts 91 = .ok (.iadd, 1) := by decide +kernel
theorem dX12_lifts_92 : decode cX12_lifts 92 = .ok (.bipush 6, 2) := by decide +kernel
theorem dX12_lifts_94 : decode cX12_lifts 94 = .ok (.iadd, 1) := by decide +kernel
theorem dX12_lifts_95 : decode cX12_lifts 95 = .ok (.iconst 1, 1) := by decide +kernel
theorem dX12_lifts_96 : decode cX12_lifts 96 = .ok (.iadd, 1) := by decide +kernel
theorem dX12_lifts_97 : decode cX12_lifts 97 = .ok (.iconst 0, 1) := by decide +kernel
theorem dX12_lifts_98 : decode cX12_lifts 98 = .ok (.iastore, 1) := by decide +kernel
theorem dX12_lifts_99 : decode cX12_lifts 99 = .ok (.aload_n 0, 1) := by decide +kernel
theorem dX12_lifts_100 : decode cX12_lifts 100 = .ok (.getfield 22, 3) := by decide +kernel
theorem dX12_lifts_103 : decode cX12_lifts 103 = .ok (.bipush 41, 2) := by decide +kernel
theorem dX12_lifts_105 : decode cX12_lifts 105 = .ok (.aload_n 0, 1) := by decide +kernel
theorem dX12_lifts_106 : decode cX12_lifts 106 = .ok (.getfield 22, 3) := by decide +kernel
theorem dX12_lifts_109 : decode cX12_lifts 109 = .ok (.bipush 41, 2) := by decide +kernel
theorem dX12_lifts_111 : decode cX12_lifts 111 = .ok (.iaload, 1) := by decide +kernel
theorem dX12_lifts_112 : decode cX12_lifts 112 = .ok (.iload_n 3, 1) := by decide +kernel
theorem dX12_lifts_113 : decode cX12_lifts 113 = .ok (.iadd, 1) := by decide +kernel
theorem dX12_lifts_114 : decode cX12_lifts 114 = .ok (.sipush 999, 3) := by decide +kernel
theorem dX12_lifts_117 : decode cX12_lifts 117 = .ok (.if_icmp .le 9, 3) := by decide +kernel
theorem dX12_lifts_120 : decode cX12_lifts 120 = .ok (.sipush 999, 3) := by decide +kernel
theorem dX12_lifts_123 : decode cX12_lifts 123 = .ok (.goto 12, 3) := by decide +kernel
theorem dX12_lifts_126 : decode cX12_lifts 126 = .ok (.aload_n 0, 1) := by decide +kernel
theorem dX12_lifts_127 : decode cX12_lifts 127 = .ok (.getfield 22, 3) := by decide +kernel
theorem dX12_lifts_130 : decode cX12_lifts 130 = .ok (.bipush 41, 2) := by decide +kernel
theorem dX12_lifts_132 : decode cX12_lifts 132 = .ok (.iaload, 1) := by decide +kernel
theorem dX12_lifts_133 : decode cX12_lifts 133 = .ok (.iload_n 3, 1) := by decide +kernel
theorem dX12_lifts_134 : decode cX12_lifts 134 = .ok (.iadd, 1) := by decide +kernel
theorem dX12_lifts_135 : decode cX12_lifts 135 = .ok (.iastore, 1) := by decide +kernel
theorem dX12_lifts_136 : decode cX12_lifts 136 = .ok (.iload_n 3, 1) := by decide +kernel
theorem dX12_lifts_137 : decode cX12_lifts 137 = .ok (.ireturn, 1) := by decide +kernel
theorem dX12_votes_0 : decode cX12_votes 0 = .ok (.iload_n 1, 1) := by decide +kernel
theorem dX12_votes_1 : decode cX12_votes 1 = .ok (.iconst 0, 1) := by decide +kernel
theorem dX12_votes_2 : decode cX12_votes 2 = .ok (.iconst 5, 1) := by decide +kernel
theorem dX12_votes_3 : decode cX12_votes 3 = .ok (.invokestatic 48, 3) := by decide +kernel
theorem dX12_votes_6 : decode cX12_votes 6 = .ok (.ifCond .ne 5, 3) := by decide +kernel
theorem dX12_votes_9 : decode cX12_votes 9 = .ok (.iconst (-1), 1) := by decide +kernel
theorem dX12_votes_10 : decode cX12_votes 10 = .ok (.ireturn, 1) := by decide +kernel
theorem dX12_votes_11 : decode cX12_votes 11 = .ok (.aload_n 0, 1) := by decide +kernel
theorem dX12_votes_12 : decode cX12_votes 12 = .ok (.invokevirtual 137, 3) := by decide +kernel
theorem dX12_votes_15 : decode cX12_votes 15 = .ok (.aload_n 0, 1) := by decide +kernel
theorem dX12_votes_16 : decode cX12_votes 16 = .ok (.iload_n 1, 1) := by decide +kernel
theorem dX12_votes_17 : decode cX12_votes 17 = .ok (.invokevirtual 119, 3) := by decide +kernel
theorem dX12_votes_20 : decode cX12_votes 20 = .ok (.istore_n 2, 1) := by decide +kernel
theorem dX12_votes_21 : decode cX12_votes 21 = .ok (.aload_n 0, 1) := by decide +kernel
theorem dX12_votes_22 : decode cX12_votes 22 = .ok (.getfield 22, 3) := by decide +kernel
theorem dX12_votes_25 : decode cX12_votes 25 = .ok (.bipush 42, 2) := by decide +kernel
theorem dX12_votes_27 : decode cX12_votes 27 = .ok (.dup2, 1) := by decide +kernel
theorem dX12_votes_28 : decode cX12_votes 28 = .ok (.iaload, 1) := by decide +kernel
theorem dX12_votes_29 : decode cX12_votes 29 = .ok (.iconst 1, 1) := by decide +kernel
theorem dX12_votes_30 : decode cX12_votes 30 = .ok (.iadd, 1) := by decide +kernel
theorem dX12_votes_31 : decode cX12_votes 31 = .ok (.iastore, 1) := by decide +kernel
theorem dX12_votes_32 : decode cX12_votes 32 = .ok (.aload_n 0, 1) := by decide +kernel
theorem dX12_votes_33 : decode cX12_votes 33 = .ok (.getfield 22, 3) := by decide +kernel
theorem dX12_votes_36 : decode cX12_votes 36 = .ok (.bipush 43, 2) := by decide +kernel
theorem dX12_votes_38 : decode cX12_votes 38 = .ok (.dup2, 1) := by decide +kernel
theorem dX12_votes_39 : decode cX12_votes 39 = .ok (.iaload, 1) := by decide +kernel
theorem dX12_votes_40 : decode cX12_votes 40 = .ok (.iload_n 2, 1) := by decide +kernel
theorem dX12_votes_41 : decode cX12_votes 41 = .ok (.ifCond .eq 7, 3) := by decide +kernel
theorem dX12_votes_44 : decode cX12_votes 44 = .ok (.iconst 1, 1) := by decide +kernel
theorem dX12_votes_45 : decode cX12_votes 45 = .ok (.goto 4, 3) := by decide +kernel
theorem dX12_votes_48 : decode cX12_votes 48 = .ok (.iconst 0, 1) := by decide +kernel
theorem dX12_votes_49 : decode cX12_votes 49 = .ok (.iadd, 1) := by decide +kernel
theorem dX12_votes_50 : decode cX12_votes 50 = .ok (.iastore, 1) := by decide +kernel
theorem dX12_votes_51 : decode cX12_votes 51 = .ok (.iload_n 2, 1) := by decide +kernel
theorem dX12_votes_52 : decode cX12_votes 52 = .ok (.ifCond .eq 7, 3) := by decide +kernel
theorem dX12_votes_55 : decode cX12_votes 55 = .ok (.iconst 1, 1) := by decide +kernel
theorem dX12_votes_56 : decode cX12_votes 56 = .ok (.goto 4, 3) := by decide +kernel
theorem dX12_votes_59 : decode cX12_votes 59 = .ok (.iconst 0, 1) := by decide +kernel
theorem dX12_votes_60 : decode cX12_votes 60 = .ok (.ireturn, 1) := by decide +kernel
theorem dX12_undo_0 : decode cX12_undo 0 = .ok (.aload_n 0, 1) := by decide +kernel
theorem dX12_undo_1 : decode cX12_undo 1 = .ok (.getfield 89, 3) := by decide +kernel
theorem dX12_undo_4 : decode cX12_undo 4 = .ok (.ifCond .ne 6, 3) := by decide +kernel
theorem dX12_undo_7 : decode cX12_undo 7 = .ok (.bipush (-2), 2) := by decide +kernel
theorem dX12_undo_9 : decode cX12_undo 9 = .ok (.ireturn, 1) := by decide +kernel
theorem dX12_undo_10 : decode cX12_undo 10 = .ok (.aload_n 0, 1) := by decide +kernel
theorem dX12_undo_11 : decode cX12_undo 11 = .ok (.dup, 1) := by decide +kernel
theorem dX12_undo_12 : decode cX12_undo 12 = .ok (.getfield 89, 3) := by decide +kernel
theorem dX12_undo_15 : decode cX12_undo 15 = .ok (.iconst 1, 1) := by decide +kernel
theorem dX12_undo_16 : decode cX12_undo 16 = .ok (.isub, 1) := by decide +kernel
theorem dX12_undo_17 : decode cX12_undo 17 = .ok (.putfield 89, 3) := by decide +kernel
theorem dX12_undo_20 : decode cX12_undo 20 = .ok (.iconst 0, 1) := by decide +kernel
theorem dX12_undo_21 : decode cX12_undo 21 = .ok (.istore_n 1, 1) := by decide +kernel
theorem dX12_undo_22 : decode cX12_undo 22 = .ok (.iload_n 1, 1) := by decide +kernel
theorem dX12_undo_23 : decode cX12_undo 23 = .ok (.bipush 44, 2) := by decide +kernel
theorem dX12_undo_25 : decode cX12_undo 25 = .ok (.if_icmp .ge 29, 3) := by decide +kernel
theorem dX12_undo_28 : decode cX12_undo 28 = .ok (.aload_n 0, 1) := by decide +kernel
theorem dX12_undo_29 : decode cX12_undo 29 = .ok (.getfield 22, 3) := by decide +kernel
theorem dX12_undo_32 : decode cX12_undo 32 = .ok (.iload_n 1, 1) := by decide +kernel
theorem dX12_undo_33 : decode cX12_undo 33 = .ok (.aload_n 0, 1) := by decide +kernel
theorem dX12_undo_34 : decode cX12_undo 34 = .ok (.getfield 25, 3) := by decide +kernel
theorem dX12_undo_37 : decode cX12_undo 37 = .ok (.bipush 44, 2) := by decide +kernel
theorem dX12_undo_39 : decode cX12_undo 39 = .ok (.aload_n 0, 1) := by decide +kernel
theorem dX12_undo_40 : decode cX12_undo 40 = .ok (.getfield 89, 3) := by decide +kernel
theorem dX12_undo_43 : decode cX12_undo 43 = .ok (.imul, 1) := by decide +kernel
theorem dX12_undo_44 : decode cX12_undo 44 = .ok (.iload_n 1, 1) := by decide +kernel
theorem dX12_undo_45 : decode cX12_undo 45 = .ok (.iadd, 1) := by decide +kernel
theorem dX12_undo_46 : decode cX12_undo 46 = .ok (.iaload, 1) := by decide +kernel
theorem dX12_undo_47 : decode cX12_undo 47 = .ok (.iastore, 1) := by decide +kernel
theorem dX12_undo_48 : decode cX12_undo 48 = .ok (.iinc 1 1, 3) := by decide +kernel
theorem dX12_undo_51 : decode cX12_undo 51 = .ok (.goto (-29), 3) := by decide +kernel
theorem dX12_undo_54 : decode cX12_undo 54 = .ok (.aload_n 0, 1) := by decide +kernel
theorem dX12_undo_55 : decode cX12_undo 55 = .ok (.getfield 89, 3) := by decide +kernel
theorem dX12_undo_58 : decode cX12_undo 58 = .ok (.ireturn, 1) := by decide +kernel
theorem dX12_power_0 : decode cX12_power 0 = .ok (.aload_n 0, 1) := by decide +kernel
theorem dX12_power_1 : decode cX12_power 1 = .ok (.iload_n 1, 1) := by decide +kernel
theorem dX12_power_2 : decode cX12_power 2 = .ok (.invokevirtual 107, 3) := by decide +kernel
theorem dX12_power_5 : decode cX12_power 5 = .ok (.ifCond .eq 13, 3) := by decide +kernel
theorem dX12_power_8 : decode cX12_power 8 = .ok (.iload_n 2, 1) := by decide +kernel
theorem dX12_power_9 : decode cX12_power 9 = .ok (.iconst 1, 1) := by decide +kernel
theorem dX12_power_10 : decode cX12_power 10 = .ok (.bipush 45, 2) := by decide +kernel
theorem dX12_power_12 : decode cX12_power 12 = .ok (.invokestatic 48, 3) := by decide +kernel
theorem dX12_power_15 : decode cX12_power 15 = .ok (.ifCond .ne 5, 3) := by decide +kernel
theorem dX12_power_18 : decode cX12_power 18 = .ok (.iconst (-1), 1) := by decide +kernel
theorem dX12_power_19 : decode cX12_power 19 = .ok (.ireturn, 1) := by decide +kernel
theorem dX12_power_20 : decode cX12_power 20 = .ok (.iconst 0, 1) := by decide +kernel
theorem dX12_power_21 : decode cX12_power 21 = .ok (.istore_n 3, 1) := by decide +kernel
theorem dX12_power_22 : decode cX12_power 22 = .ok (.iconst 0, 1) := by decide +kernel
theorem dX12_power_23 : decode cX12_power 23 = .ok (.istore 4, 2) := by decide +kernel
theorem dX12_power_25 : decode cX12_power 25 = .ok (.iload 4, 2) := by decide +kernel
theorem dX12_power_27 : decode cX12_power 27 = .ok (.iconst 1, 1) := by decide +kernel
theorem dX12_power_28 : decode cX12_power 28 = .ok (.aload_n 0, 1) := by decide +kernel
theorem dX12_power_29 : decode cX12_power 29 = .ok (.getfield 13, 3) := by decide +kernel
theorem dX12_power_32 : decode cX12_power 32 = .ok (.iconst 0, 1) := by decide +kernel
theorem dX12_power_33 : decode cX12_power 33 = .ok (.iaload, 1) := by decide +kernel
theorem dX12_power_34 : decode cX12_power 34 = .ok (.ishl, 1) := by decide +kernel
theorem dX12_power_35 : decode cX12_power 35 = .ok (.if_icmp .ge 50, 3) := by decide +kernel
theorem dX12_power_38 : decode cX12_power 38 = .ok (.iload_n 3, 1) := by decide +kernel
theorem dX12_power_39 : decode cX12_power 39 = .ok (.iload 4, 2) := by decide +kernel
theorem dX12_power_41 : decode cX12_power 41 = .ok (.iload_n 1, 1) := by decide +kernel
theorem dX12_power_42 : decode cX12_power 42 = .ok (.invokestatic 113, 3) := by decide +kernel
theorem dX12_power_45 : decode cX12_power 45 = .ok (.ifCond .ne 31, 3) := by decide +kernel
theorem dX12_power_48 : decode cX12_power 48 = .ok (.aload_n 0, 1) := by decide +kernel
theorem dX12_power_49 : decode cX12_power 49 = .ok (.iload 4, 2) := by decide +kernel
theorem dX12_power_51 : decode cX12_power 51 = .ok (.invokevirtual 116, 3) := by decide +kernel
theorem dX12_power_54 : decode cX12_power 54 = .ok (.iload_n 2, 1) := by decide +kernel
theorem dX12_power_55 : decode cX12_power 55 = .ok (.if_icmp .ge 21, 3) := by decide +kernel
theorem dX12_power_58 : decode cX12_power 58 = .ok (.aload_n 0, 1) := by decide +kernel
theorem dX12_power_59 : decode cX12_power 59 = .ok (.iload 4, 2) := by decide +kernel
theorem dX12_power_61 : decode cX12_power 61 = .ok (.iconst 1, 1) := by decide +kernel
theorem dX12_power_62 : decode cX12_power 62 = .ok (.iload_n 1, 1) := by decide +kernel
theorem dX12_power_63 : decode cX12_power 63 = .ok (.ishl, 1) := by decide +kernel
theorem dX12_power_64 : decode cX12_power 64 = .ok (.ior, 1) := by decide +kernel
theorem dX12_power_65 : decode cX12_power 65 = .ok (.invokevirtual 116, 3) := by decide +kernel
theorem dX12_power_68 : decode cX12_power 68 = .ok (.iload_n 2, 1) := by decide +kernel
theorem dX12_power_69 : decode cX12_power 69 = .ok (.if_icmp .lt 7, 3) := by decide +kernel
theorem dX12_power_72 : decode cX12_power 72 = .ok (.iconst 1, 1) := by decide +kernel
theorem dX12_power_73 : decode cX12_power 73 = .ok (.goto 4, 3) := by decide +kernel
theorem dX12_power_76 : decode cX12_power 76 = .ok (.iconst 0, 1) := by decide +kernel
theorem dX12_power_77 : decode cX12_power 77 = .ok (.iadd, 1) := by decide +kernel
theorem dX12_power_78 : decode cX12_power 78 = .ok (.istore_n 3, 1) := by decide +kernel
theorem dX12_power_79 : decode cX12_power 79 = .ok (.iinc 4 1, 3) := by decide +kernel
theorem dX12_power_82 : decode cX12_power 82 = .ok (.goto (-57), 3) := by decide +kernel
theorem dX12_power_85 : decode cX12_power 85 = .ok (.iload_n 3, 1) := by decide +kernel
theorem dX12_power_86 : decode cX12_power 86 = .ok (.ireturn, 1) := by decide +kernel
theorem dX12_areApart_0 : decode cX12_areApart 0 = .ok (.iload_n 0, 1) := by decide +kernel
theorem dX12_areApart_1 : decode cX12_areApart 1 = .ok (.iconst 5, 1) := by decide +kernel
theorem dX12_areApart_2 : decode cX12_areApart 2 = .ok (.idiv, 1) := by decide +kernel
theorem dX12_areApart_3 : decode cX12_areApart 3 = .ok (.iload_n 1, 1) := by decide +kernel
theorem dX12_areApart_4 : decode cX12_areApart 4 = .ok (.iconst 5, 1) := by decide +kernel
theorem dX12_areApart_5 : decode cX12_areApart 5 = .ok (.idiv, 1) := by decide +kernel
theorem dX12_areApart_6 : decode cX12_areApart 6 = .ok (.isub, 1) := by decide +kernel
theorem dX12_areApart_7 : decode cX12_areApart 7 = .ok (.istore_n 2, 1) := by decide +kernel
theorem dX12_areApart_8 : decode cX12_areApart 8 = .ok (.iload_n 0, 1) := by decide +kernel
theorem dX12_areApart_9 : decode cX12_areApart 9 = .ok (.iconst 5, 1) := by decide +kernel
theorem dX12_areApart_10 : decode cX12_areApart 10 = .ok (.irem, 1) := by decide +kernel
theorem dX12_areApart_11 : decode cX12_areApart 11 = .ok (.iload_n 1, 1) := by decide +kernel
theorem dX12_areApart_12 : decode cX12_areApart 12 = .ok (.iconst 5, 1) := by decide +kernel
theorem dX12_areApart_13 : decode cX12_areApart 13 = .ok (.irem, 1) := by decide +kernel
theorem dX12_areApart_14 : decode cX12_areApart 14 = .ok (.isub, 1) := by decide +kernel
theorem dX12_areApart_15 : decode cX12_areApart 15 = .ok (.istore_n 3, 1) := by decide +kernel
theorem dX12_areApart_16 : decode cX12_areApart 16 = .ok (.iload_n 2, 1) := by decide +kernel
theorem dX12_areApart_17 : decode cX12_areApart 17 = .ok (.iconst (-1), 1) := by decide +kernel
theorem dX12_areApart_18 : decode cX12_areApart 18 = .ok (.iconst 1, 1) := by decide +kernel
theorem dX12_areApart_19 : decode cX12_areApart 19 = .ok (.invokestatic 48, 3) := by decide +kernel
theorem dX12_areApart_22 : decode cX12_areApart 22 = .ok (.ifCond .eq 12, 3) := by decide +kernel
theorem dX12_areApart_25 : decode cX12_areApart 25 = .ok (.iload_n 3, 1) := by decide +kernel
theorem dX12_areApart_26 : decode cX12_areApart 26 = .ok (.iconst (-1), 1) := by decide +kernel
theorem dX12_areApart_27 : decode cX12_areApart 27 = .ok (.iconst 1, 1) := by decide +kernel
theorem dX12_areApart_28 : decode cX12_areApart 28 = .ok (.invokestatic 48, 3) := by decide +kernel
theorem dX12_areApart_31 : decode cX12_areApart 31 = .ok (.ifCond .ne 7, 3) := by decide +kernel
theorem dX12_areApart_34 : decode cX12_areApart 34 = .ok (.iconst 1, 1) := by decide +kernel
theorem dX12_areApart_35 : decode cX12_areApart 35 = .ok (.goto 4, 3) := by decide +kernel
theorem dX12_areApart_38 : decode cX12_areApart 38 = .ok (.iconst 0, 1) := by decide +kernel
theorem dX12_areApart_39 : decode cX12_areApart 39 = .ok (.ireturn, 1) := by decide +kernel
theorem dX12_best_0 : decode cX12_best 0 = .ok (.iload_n 1, 1) := by decide +kernel
theorem dX12_best_1 : decode cX12_best 1 = .ok (.iconst 1, 1) := by decide +kernel
theorem dX12_best_2 : decode cX12_best 2 = .ok (.iconst 3, 1) := by decide +kernel
theorem dX12_best_3 : decode cX12_best 3 = .ok (.invokestatic 48, 3) := by decide +kernel
theorem dX12_best_6 : decode cX12_best 6 = .ok (.ifCond .eq 12, 3) := by decide +kernel
theorem dX12_best_9 : decode cX12_best 9 = .ok (.iload_n 2, 1) := by decide +kernel
theorem dX12_best_10 : decode cX12_best 10 = .ok (.iconst (-1), 1) := by decide +kernel
theorem dX12_best_11 : decode cX12_best 11 = .ok (.iconst 2, 1) := by decide +kernel
theorem dX12_best_12 : decode cX12_best 12 = .ok (.invokestatic 48, 3) := by decide +kernel
theorem dX12_best_15 : decode cX12_best 15 = .ok (.ifCond .ne 5, 3) := by decide +kernel
theorem dX12_best_18 : decode cX12_best 18 = .ok (.iconst (-1), 1) := by decide +kernel
theorem dX12_best_19 : decode cX12_best 19 = .ok (.ireturn, 1) := by decide +kernel
theorem dX12_best_20 : decode cX12_best 20 = .ok (.iconst (-1), 1) := by decide +kernel
theorem dX12_best_21 : decode cX12_best 21 = .ok (.istore_n 3, 1) := by decide +kernel
theorem dX12_best_22 : decode cX12_best 22 = .ok (.bipush (-9), 2) := by decide +kernel
theorem dX12_best_24 : decode cX12_best 24 = .ok (.istore 4, 2) := by decide +kernel
theorem dX12_best_26 : decode cX12_best 26 = .ok (.iconst 0, 1) := by decide +kernel
theorem dX12_best_27 : decode cX12_best 27 = .ok (.istore 5, 2) := by decide +kernel
theorem dX12_best_29 : decode cX12_best 29 = .ok (.iload 5, 2) := by decide +kernel
theorem dX12_best_31 : decode cX12_best 31 = .ok (.bipush 25, 2) := by decide +kernel
theorem dX12_best_33 : decode cX12_best 33 = .ok (.if_icmp .ge 234, 3) := by decide +kernel
theorem dX12_best_36 : decode cX12_best 36 = .ok (.iload_n 1, 1) := by decide +kernel
theorem dX12_best_37 : decode cX12_best 37 = .ok (.iconst 1, 1) := by decide +kernel
theorem dX12_best_38 : decode cX12_best 38 = .ok (.if_icmp .le 10, 3) := by decide +kernel
theorem dX12_best_41 : decode cX12_best 41 = .ok (.iload 5, 2) := by decide +kernel
theorem dX12_best_43 : decode cX12_best 43 = .ok (.iconst 1, 1) := by decide +kernel
theorem dX12_best_44 : decode cX12_best 44 = .ok (.iadd, 1) := by decide +kernel
theorem dX12_best_45 : decode cX12_best 45 = .ok (.goto 5, 3) := by decide +kernel
theorem dX12_best_48 : decode cX12_best 48 = .ok (.bipush 25, 2) := by decide +kernel
theorem dX12_best_50 : decode cX12_best 50 = .ok (.istore 6, 2) := by decide +kernel
theorem dX12_best_52 : decode cX12_best 52 = .ok (.iload 6, 2) := by decide +kernel
theorem dX12_best_54 : decode cX12_best 54 = .ok (.iload_n 1, 1) := by decide +kernel
theorem dX12_best_55 : decode cX12_best 55 = .ok (.iconst 1, 1) := by decide +kernel
theorem dX12_best_56 : decode cX12_best 56 = .ok (.if_icmp .le 8, 3) := by decide +kernel
theorem dX12_best_59 : decode cX12_best 59 = .ok (.bipush 25, 2) := by decide +kernel
theorem dX12_best_61 : decode cX12_best 61 = .ok (.goto 5, 3) := by decide +kernel
theorem dX12_best_64 : decode cX12_best 64 = .ok (.bipush 26, 2) := by decide +kernel
theorem dX12_best_66 : decode cX12_best 66 = .ok (.if_icmp .ge 195, 3) := by decide +kernel
theorem dX12_best_69 : decode cX12_best 69 = .ok (.iload_n 1, 1) := by decide +kernel
theorem dX12_best_70 : decode cX12_best 70 = .ok (.iconst 2, 1) := by decide +kernel
theorem dX12_best_71 : decode cX12_best 71 = .ok (.if_icmp .le 10, 3) := by decide +kernel
theorem dX12_best_74 : decode cX12_best 74 = .ok (.iload 6, 2) := by decide +kernel
theorem dX12_best_76 : decode cX12_best 76 = .ok (.iconst 1, 1) := by decide +kernel
theorem dX12_best_77 : decode cX12_best 77 = .ok (.iadd, 1) := by decide +kernel
theorem dX12_best_78 : decode cX12_best 78 = .ok (.goto 5, 3) := by decide +kernel
theorem dX12_best_81 : decode cX12_best 81 = .ok (.bipush 25, 2) := by decide +kernel
theorem dX12_best_83 : decode cX12_best 83 = .ok (.istore 7, 2) := by decide +kernel
theorem dX12_best_85 : decode cX12_best 85 = .ok (.iload 7, 2) := by decide +kernel
theorem dX12_best_87 : decode cX12_best 87 = .ok (.iload_n 1, 1) := by decide +kernel
theorem dX12_best_88 : decode cX12_best 88 = .ok (.iconst 2, 1) := by decide +kernel
theorem dX12_best_89 : decode cX12_best 89 = .ok (.if_icmp .le 8, 3) := by decide +kernel
theorem dX12_best_92 : decode cX12_best 92 = .ok (.bipush 25, 2) := by decide +kernel
theorem dX12_best_94 : decode cX12_best 94 = .ok (.goto 5, 3) := by decide +kernel
theorem dX12_best_97 : decode cX12_best 97 = .ok (.bipush 26, 2) := by decide +kernel
theorem dX12_best_99 : decode cX12_best 99 = .ok (.if_icmp .ge 156, 3) := by decide +kernel
theorem dX12_best_102 : decode cX12_best 102 = .ok (.iload_n 1, 1) := by decide +kernel
theorem dX12_best_103 : decode cX12_best 103 = .ok (.iconst 2, 1) := by decide +kernel
theorem dX12_best_104 : decode cX12_best 104 = .ok (.if_icmp .lt 13, 3) := by decide +kernel
theorem dX12_best_107 : decode cX12_best 107 = .ok (.iload 5, 2) := by decide +kernel
theorem dX12_best_109 : decode cX12_best 109 = .ok (.iload 6, 2) := by decide +kernel
theorem dX12_best_111 : decode cX12_best 111 = .ok (.invokestatic 149, 3) := by decide +kernel
theorem dX12_best_114 : decode cX12_best 114 = .ok (.ifCond .eq 32, 3) := by decide +kernel
theorem dX12_best_117 : decode cX12_best 117 = .ok (.iload_n 1, 1) := by decide +kernel
theorem dX12_best_118 : decode cX12_best 118 = .ok (.iconst 3, 1) := by decide +kernel
theorem dX12_best_119 : decode cX12_best 119 = .ok (.if_icmp .lt 23, 3) := by decide +kernel
theorem dX12_best_122 : decode cX12_best 122 = .ok (.iload 5, 2) := by decide +kernel
theorem dX12_best_124 : decode cX12_best 124 = .ok (.iload 7, 2) := by decide +kernel
theorem dX12_best_126 : decode cX12_best 126 = .ok (.invokestatic 149, 3) := by decide +kernel
theorem dX12_best_129 : decode cX12_best 129 = .ok (.ifCond .eq 17, 3) := by decide +kernel
theorem dX12_best_132 : decode cX12_best 132 = .ok (.iload 6, 2) := by decide +kernel
theorem dX12_best_134 : decode cX12_best 134 = .ok (.iload 7, 2) := by decide +kernel
theorem dX12_best_136 : decode cX12_best 136 = .ok (.invokestatic 149, 3) := by decide +kernel
theorem dX12_best_139 : decode cX12_best 139 = .ok (.ifCond .eq 7, 3) := by decide +kernel
theorem dX12_best_142 : decode cX12_best 142 = .ok (.iconst 1, 1) := by decide +kernel
theorem dX12_best_143 : decode cX12_best 143 = .ok (.goto 4, 3) := by decide +kernel
theorem dX12_best_146 : decode cX12_best 146 = .ok (.iconst 0, 1) := by decide +kernel
theorem dX12_best_147 : decode cX12_best 147 = .ok (.istore 8, 2) := by decide +kernel
theorem dX12_best_149 : decode cX12_best 149 = .ok (.iload 8, 2) := by decide +kernel
theorem dX12_best_151 : decode cX12_best 151 = .ok (.ifCond .eq 44, 3) := by decide +kernel
theorem dX12_best_154 : decode cX12_best 154 = .ok (.aload_n 0, 1) := by decide +kernel
theorem dX12_best_155 : decode cX12_best 155 = .ok (.iload 5, 2) := by decide +kernel
theorem dX12_best_157 : decode cX12_best 157 = .ok (.invokevirtual 146, 3) := by decide +kernel
theorem dX12_best_160 : decode cX12_best 160 = .ok (.iload_n 1, 1) := by decide +kernel
theorem dX12_best_161 : decode cX12_best 161 = .ok (.iconst 1, 1) := by decide +kernel
theorem dX12_best_162 : decode cX12_best 162 = .ok (.if_icmp .le 12, 3) := by decide +kernel
theorem dX12_best_165 : decode cX12_best 165 = .ok (.aload_n 0, 1) := by decide +kernel
theorem dX12_best_166 : decode cX12_best 166 = .ok (.iload 6, 2) := by decide +kernel
theorem dX12_best_168 : decode cX12_best 168 = .ok (.invokevirtual 146, 3) := by decide +kernel
theorem dX12_best_171 : decode cX12_best 171 = .ok (.goto 4, 3) := by decide +kernel
theorem dX12_best_174 : decode cX12_best 174 = .ok (.iconst 0, 1) := by decide +kernel
theorem dX12_best_175 : decode cX12_best 175 = .ok (.iadd, 1) := by decide +kernel
theorem dX12_best_176 : decode cX12_best 176 = .ok (.iload_n 1, 1) := by decide +kernel
theorem dX12_best_177 : decode cX12_best 177 = .ok (.iconst 2, 1) := by decide +kernel
theorem dX12_best_178 : decode cX12_best 178 = .ok (.if_icmp .le 12, 3) := by decide +kernel
theorem dX12_best_181 : decode cX12_best 181 = .ok (.aload_n 0, 1) := by decide +kernel
theorem dX12_best_182 : decode cX12_best 182 = .ok (.iload 7, 2) := by decide +kernel
theorem dX12_best_184 : decode cX12_best 184 = .ok (.invokevirtual 146, 3) := by decide +kernel
theorem dX12_best_187 : decode cX12_best 187 = .ok (.goto 4, 3) := by decide +kernel
theorem dX12_best_190 : decode cX12_best 190 = .ok (.iconst 0, 1) := by decide +kernel
theorem dX12_best_191 : decode cX12_best 191 = .ok (.iadd, 1) := by decide +kernel
theorem dX12_best_192 : decode cX12_best 192 = .ok (.goto 4, 3) := by decide +kernel
theorem dX12_best_195 : decode cX12_best 195 = .ok (.iconst (-1), 1) := by decide +kernel
theorem dX12_best_196 : decode cX12_best 196 = .ok (.istore 9, 2) := by decide +kernel
theorem dX12_best_198 : decode cX12_best 198 = .ok (.iload_n 2, 1) := by decide +kernel
theorem dX12_best_199 : decode cX12_best 199 = .ok (.ifCond .ne 8, 3) := by decide +kernel
theorem dX12_best_202 : decode cX12_best 202 = .ok (.iload 5, 2) := by decide +kernel
theorem dX12_best_204 : decode cX12_best 204 = .ok (.goto 15, 3) := by decide +kernel
theorem dX12_best_207 : decode cX12_best 207 = .ok (.iload_n 2, 1) := by decide +kernel
theorem dX12_best_208 : decode cX12_best 208 = .ok (.iconst 1, 1) := by decide +kernel
theorem dX12_best_209 : decode cX12_best 209 = .ok (.if_icmp .ne 8, 3) := by decide +kernel
theorem dX12_best_212 : decode cX12_best 212 = .ok (.iload 6, 2) := by decide +kernel
theorem dX12_best_214 : decode cX12_best 214 = .ok (.goto 5, 3) := by decide +kernel
theorem dX12_best_217 : decode cX12_best 217 = .ok (.iload 7, 2) := by decide +kernel
theorem dX12_best_219 : decode cX12_best 219 = .ok (.istore 10, 2) := by decide +kernel
theorem dX12_best_221 : decode cX12_best 221 = .ok (.iload 9, 2) := by decide +kernel
theorem dX12_best_223 : decode cX12_best 223 = .ok (.iload_n 3, 1) := by decide +kernel
theorem dX12_best_224 : decode cX12_best 224 = .ok (.if_icmp .le 8, 3) := by decide +kernel
theorem dX12_best_227 : decode cX12_best 227 = .ok (.iload 10, 2) := by decide +kernel
theorem dX12_best_229 : decode cX12_best 229 = .ok (.goto 5, 3) := by decide +kernel
theorem dX12_best_232 : decode cX12_best 232 = .ok (.iload 4, 2) := by decide +kernel
theorem dX12_best_234 : decode cX12_best 234 = .ok (.istore 4, 2) := by decide +kernel
theorem dX12_best_236 : decode cX12_best 236 = .ok (.iload 9, 2) := by decide +kernel
theorem dX12_best_238 : decode cX12_best 238 = .ok (.iload_n 3, 1) := by decide +kernel
theorem dX12_best_239 : decode cX12_best 239 = .ok (.if_icmp .le 8, 3) := by decide +kernel
theorem dX12_best_242 : decode cX12_best 242 = .ok (.iload 9, 2) := by decide +kernel
theorem dX12_best_244 : decode cX12_best 244 = .ok (.goto 4, 3) := by decide +kernel
theorem dX12_best_247 : decode cX12_best 247 = .ok (.iload_n 3, 1) := by decide +kernel
theorem dX12_best_248 : decode cX12_best 248 = .ok (.istore_n 3, 1) := by decide +kernel
theorem dX12_best_249 : decode cX12_best 249 = .ok (.iinc 7 1, 3) := by decide +kernel
theorem dX12_best_252 : decode cX12_best 252 = .ok (.goto (-167), 3) := by decide +kernel
theorem dX12_best_255 : decode cX12_best 255 = .ok (.iinc 6 1, 3) := by decide +kernel
theorem dX12_best_258 : decode cX12_best 258 = .ok (.goto (-206), 3) := by decide +kernel
theorem dX12_best_261 : decode cX12_best 261 = .ok (.iinc 5 1, 3) := by decide +kernel
theorem dX12_best_264 : decode cX12_best 264 = .ok (.goto (-235), 3) := by decide +kernel
theorem dX12_best_267 : decode cX12_best 267 = .ok (.iload_n 2, 1) := by decide +kernel
theorem dX12_best_268 : decode cX12_best 268 = .ok (.iconst (-1), 1) := by decide +kernel
theorem dX12_best_269 : decode cX12_best 269 = .ok (.if_icmp .ne 7, 3) := by decide +kernel
theorem dX12_best_272 : decode cX12_best 272 = .ok (.iload_n 3, 1) := by decide +kernel
theorem dX12_best_273 : decode cX12_best 273 = .ok (.goto 25, 3) := by decide +kernel
theorem dX12_best_276 : decode cX12_best 276 = .ok (.iload_n 2, 1) := by decide +kernel
theorem dX12_best_277 : decode cX12_best 277 = .ok (.iload_n 1, 1) := by decide +kernel
theorem dX12_best_278 : decode cX12_best 278 = .ok (.if_icmp .lt 8, 3) := by decide +kernel
theorem dX12_best_281 : decode cX12_best 281 = .ok (.bipush (-9), 2) := by decide +kernel
theorem dX12_best_283 : decode cX12_best 283 = .ok (.goto 15, 3) := by decide +kernel
theorem dX12_best_286 : decode cX12_best 286 = .ok (.bipush 10, 2) := by decide +kernel
theorem dX12_best_288 : decode cX12_best 288 = .ok (.iload 4, 2) := by decide +kernel
theorem dX12_best_290 : decode cX12_best 290 = .ok (.iconst 5, 1) := by decide +kernel
theorem dX12_best_291 : decode cX12_best 291 = .ok (.idiv, 1) := by decide +kernel
theorem dX12_best_292 : decode cX12_best 292 = .ok (.imul, 1) := by decide +kernel
theorem dX12_best_293 : decode cX12_best 293 = .ok (.iload 4, 2) := by decide +kernel
theorem dX12_best_295 : decode cX12_best 295 = .ok (.iconst 5, 1) := by decide +kernel
theorem dX12_best_296 : decode cX12_best 296 = .ok (.irem, 1) := by decide +kernel
theorem dX12_best_297 : decode cX12_best 297 = .ok (.iadd, 1) := by decide +kernel
theorem dX12_best_298 : decode cX12_best 298 = .ok (.ireturn, 1) := by decide +kernel
theorem dX12_way_0 : decode cX12_way 0 = .ok (.aload_n 0, 1) := by decide +kernel
theorem dX12_way_1 : decode cX12_way 1 = .ok (.iload_n 1, 1) := by decide +kernel
theorem dX12_way_2 : decode cX12_way 2 = .ok (.invokevirtual 107, 3) := by decide +kernel
theorem dX12_way_5 : decode cX12_way 5 = .ok (.ifCond .eq 10, 3) := by decide +kernel
theorem dX12_way_8 : decode cX12_way 8 = .ok (.iload_n 2, 1) := by decide +kernel
theorem dX12_way_9 : decode cX12_way 9 = .ok (.invokestatic 98, 3) := by decide +kernel
theorem dX12_way_12 : decode cX12_way 12 = .ok (.ifCond .ne 5, 3) := by decide +kernel
theorem dX12_way_15 : decode cX12_way 15 = .ok (.iconst (-1), 1) := by decide +kernel
theorem dX12_way_16 : decode cX12_way 16 = .ok (.ireturn, 1) := by decide +kernel
theorem dX12_way_17 : decode cX12_way 17 = .ok (.iconst 0, 1) := by decide +kernel
theorem dX12_way_18 : decode cX12_way 18 = .ok (.istore_n 3, 1) := by decide +kernel
theorem dX12_way_19 : decode cX12_way 19 = .ok (.iload_n 3, 1) := by decide +kernel
theorem dX12_way_20 : decode cX12_way 20 = .ok (.bipush 36, 2) := by decide +kernel
theorem dX12_way_22 : decode cX12_way 22 = .ok (.if_icmp .ge 31, 3) := by decide +kernel
theorem dX12_way_25 : decode cX12_way 25 = .ok (.aload_n 0, 1) := by decide +kernel
theorem dX12_way_26 : decode cX12_way 26 = .ok (.getfield 38, 3) := by decide +kernel
theorem dX12_way_29 : decode cX12_way 29 = .ok (.iload_n 3, 1) := by decide +kernel
theorem dX12_way_30 : decode cX12_way 30 = .ok (.iload_n 3, 1) := by decide +kernel
theorem dX12_way_31 : decode cX12_way 31 = .ok (.aload_n 0, 1) := by decide +kernel
theorem dX12_way_32 : decode cX12_way 32 = .ok (.getfield 22, 3) := by decide +kernel
theorem dX12_way_35 : decode cX12_way 35 = .ok (.iload_n 1, 1) := by decide +kernel
theorem dX12_way_36 : decode cX12_way 36 = .ok (.iaload, 1) := by decide +kernel
theorem dX12_way_37 : decode cX12_way 37 = .ok (.if_icmp .ne 7, 3) := by decide +kernel
theorem dX12_way_40 : decode cX12_way 40 = .ok (.iconst 0, 1) := by decide +kernel
theorem dX12_way_41 : decode cX12_way 41 = .ok (.goto 5, 3) := by decide +kernel
theorem dX12_way_44 : decode cX12_way 44 = .ok (.bipush 99, 2) := by decide +kernel
theorem dX12_way_46 : decode cX12_way 46 = .ok (.iastore, 1) := by decide +kernel
theorem dX12_way_47 : decode cX12_way 47 = .ok (.iinc 3 1, 3) := by decide +kernel
theorem dX12_way_50 : decode cX12_way 50 = .ok (.goto (-31), 3) := by decide +kernel
theorem dX12_way_53 : decode cX12_way 53 = .ok (.iconst 1, 1) := by decide +kernel
theorem dX12_way_54 : decode cX12_way 54 = .ok (.istore_n 3, 1) := by decide +kernel
theorem dX12_way_55 : decode cX12_way 55 = .ok (.iconst 0, 1) := by decide +kernel
theorem dX12_way_56 : decode cX12_way 56 = .ok (.istore 4, 2) := by decide +kernel
theorem dX12_way_58 : decode cX12_way 58 = .ok (.iload_n 3, 1) := by decide +kernel
theorem dX12_way_59 : decode cX12_way 59 = .ok (.ifCond .eq 104, 3) := by decide +kernel
theorem dX12_way_62 : decode cX12_way 62 = .ok (.iconst 0, 1) := by decide +kernel
theorem dX12_way_63 : decode cX12_way 63 = .ok (.istore_n 3, 1) := by decide +kernel
theorem dX12_way_64 : decode cX12_way 64 = .ok (.iconst 0, 1) := by decide +kernel
theorem dX12_way_65 : decode cX12_way 65 = .ok (.istore 5, 2) := by decide +kernel
theorem dX12_way_67 : decode cX12_way 67 = .ok (.iload 5, 2) := by decide +kernel
theorem dX12_way_69 : decode cX12_way 69 = .ok (.bipush 36, 2) := by decide +kernel
theorem dX12_way_71 : decode cX12_way 71 = .ok (.if_icmp .ge 86, 3) := by decide +kernel
theorem dX12_way_74 : decode cX12_way 74 = .ok (.iconst 0, 1) := by decide +kernel
theorem dX12_way_75 : decode cX12_way 75 = .ok (.istore 6, 2) := by decide +kernel
theorem dX12_way_77 : decode cX12_way 77 = .ok (.iload 6, 2) := by decide +kernel
theorem dX12_way_79 : decode cX12_way 79 = .ok (.iconst 4, 1) := by decide +kernel
theorem dX12_way_80 : decode cX12_way 80 = .ok (.if_icmp .ge 71, 3) := by decide +kernel
theorem dX12_way_83 : decode cX12_way 83 = .ok (.aload_n 0, 1) := by decide +kernel
theorem dX12_way_84 : decode cX12_way 84 = .ok (.getfield 38, 3) := by decide +kernel
theorem dX12_way_87 : decode cX12_way 87 = .ok (.iload 5, 2) := by decide +kernel
theorem dX12_way_89 : decode cX12_way 89 = .ok (.iaload, 1) := by decide +kernel
theorem dX12_way_90 : decode cX12_way 90 = .ok (.iload 4, 2) := by decide +kernel
theorem dX12_way_92 : decode cX12_way 92 = .ok (.if_icmp .ne 59, 3) := by decide +kernel
theorem dX12_way_95 : decode cX12_way 95 = .ok (.iload 5, 2) := by decide +kernel
theorem dX12_way_97 : decode cX12_way 97 = .ok (.iload 6, 2) := by decide +kernel
theorem dX12_way_99 : decode cX12_way 99 = .ok (.invokestatic 134, 3) := by decide +kernel
theorem dX12_way_102 : decode cX12_way 102 = .ok (.istore 7, 2) := by decide +kernel
theorem dX12_way_104 : decode cX12_way 104 = .ok (.iload 7, 2) := by decide +kernel
theorem dX12_way_106 : decode cX12_way 106 = .ok (.bipush (-9), 2) := by decide +kernel
theorem dX12_way_108 : decode cX12_way 108 = .ok (.if_icmp .eq 37, 3) := by decide +kernel
theorem dX12_way_111 : decode cX12_way 111 = .ok (.aload_n 0, 1) := by decide +kernel
theorem dX12_way_112 : decode cX12_way 112 = .ok (.getfield 38, 3) := by decide +kernel
theorem dX12_way_115 : decode cX12_way 115 = .ok (.iload 7, 2) := by decide +kernel
theorem dX12_way_117 : decode cX12_way 117 = .ok (.iaload, 1) := by decide +kernel
theorem dX12_way_118 : decode cX12_way 118 = .ok (.bipush 99, 2) := by decide +kernel
theorem dX12_way_120 : decode cX12_way 120 = .ok (.if_icmp .ne 25, 3) := by decide +kernel
theorem dX12_way_123 : decode cX12_way 123 = .ok (.aload_n 0, 1) := by decide +kernel
theorem dX12_way_124 : decode cX12_way 124 = .ok (.iload 7, 2) := by decide +kernel
theorem dX12_way_126 : decode cX12_way 126 = .ok (.invokevirtual 95, 3) := by decide +kernel
theorem dX12_way_129 : decode cX12_way 129 = .ok (.ifCond .ne 16, 3) := by decide +kernel
theorem dX12_way_132 : decode cX12_way 132 = .ok (.aload_n 0, 1) := by decide +kernel
theorem dX12_way_133 : decode cX12_way 133 = .ok (.getfield 38, 3) := by decide +kernel
theorem dX12_way_136 : decode cX12_way 136 = .ok (.iload 7, 2) := by decide +kernel
theorem dX12_way_138 : decode cX12_way 138 = .ok (.iload 4, 2) := by decide +kernel
theorem dX12_way_140 : decode cX12_way 140 = .ok (.iconst 1, 1) := by decide +kernel
theorem dX12_way_141 : decode cX12_way 141 = .ok (.iadd, 1) := by decide +kernel
theorem dX12_way_142 : decode cX12_way 142 = .ok (.iastore, 1) := by decide +kernel
theorem dX12_way_143 : decode cX12_way 143 = .ok (.iconst 1, 1) := by decide +kernel
theorem dX12_way_144 : decode cX12_way 144 = .ok (.istore_n 3, 1) := by decide +kernel
theorem dX12_way_145 : decode cX12_way 145 = .ok (.iinc 6 1, 3) := by decide +kernel
theorem dX12_way_148 : decode cX12_way 148 = .ok (.goto (-71), 3) := by decide +kernel
theorem dX12_way_151 : decode cX12_way 151 = .ok (.iinc 5 1, 3) := by decide +kernel
theorem dX12_way_154 : decode cX12_way 154 = .ok (.goto (-87), 3) := by decide +kernel
theorem dX12_way_157 : decode cX12_way 157 = .ok (.iinc 4 1, 3) := by decide +kernel
theorem dX12_way_160 : decode cX12_way 160 = .ok (.goto (-102), 3) := by decide +kernel
theorem dX12_way_163 : decode cX12_way 163 = .ok (.aload_n 0, 1) := by decide +kernel
theorem dX12_way_164 : decode cX12_way 164 = .ok (.getfield 38, 3) := by decide +kernel
theorem dX12_way_167 : decode cX12_way 167 = .ok (.bipush 6, 2) := by decide +kernel
theorem dX12_way_169 : decode cX12_way 169 = .ok (.iload_n 2, 1) := by decide +kernel
theorem dX12_way_170 : decode cX12_way 170 = .ok (.bipush 10, 2) := by decide +kernel
theorem dX12_way_172 : decode cX12_way 172 = .ok (.idiv, 1) := by decide +kernel
theorem dX12_way_173 : decode cX12_way 173 = .ok (.imul, 1) := by decide +kernel
theorem dX12_way_174 : decode cX12_way 174 = .ok (.iload_n 2, 1) := by decide +kernel
theorem dX12_way_175 : decode cX12_way 175 = .ok (.bipush 10, 2) := by decide +kernel
theorem dX12_way_177 : decode cX12_way 177 = .ok (.irem, 1) := by decide +kernel
theorem dX12_way_178 : decode cX12_way 178 = .ok (.iadd, 1) := by decide +kernel
theorem dX12_way_179 : decode cX12_way 179 = .ok (.iaload, 1) := by decide +kernel
theorem dX12_way_180 : decode cX12_way 180 = .ok (.istore 4, 2) := by decide +kernel
theorem dX12_way_182 : decode cX12_way 182 = .ok (.iload 4, 2) := by decide +kernel
theorem dX12_way_184 : decode cX12_way 184 = .ok (.bipush 99, 2) := by decide +kernel
theorem dX12_way_186 : decode cX12_way 186 = .ok (.if_icmp .ne 8, 3) := by decide +kernel
theorem dX12_way_189 : decode cX12_way 189 = .ok (.bipush (-9), 2) := by decide +kernel
theorem dX12_way_191 : decode cX12_way 191 = .ok (.goto 5, 3) := by decide +kernel
theorem dX12_way_194 : decode cX12_way 194 = .ok (.iload 4, 2) := by decide +kernel
theorem dX12_way_196 : decode cX12_way 196 = .ok (.ireturn, 1) := by decide +kernel
theorem dX12_odds_0 : decode cX12_odds 0 = .ok (.iload_n 1, 1) := by decide +kernel
theorem dX12_odds_1 : decode cX12_odds 1 = .ok (.invokestatic 98, 3) := by decide +kernel
theorem dX12_odds_4 : decode cX12_odds 4 = .ok (.ifCond .eq 33, 3) := by decide +kernel
theorem dX12_odds_7 : decode cX12_odds 7 = .ok (.iload_n 2, 1) := by decide +kernel
theorem dX12_odds_8 : decode cX12_odds 8 = .ok (.iconst 0, 1) := by decide +kernel
theorem dX12_odds_9 : decode cX12_odds 9 = .ok (.bipush 10, 2) := by decide +kernel
theorem dX12_odds_11 : decode cX12_odds 11 = .ok (.invokestatic 48, 3) := by decide +kernel
theorem dX12_odds_14 : decode cX12_odds 14 = .ok (.ifCond .eq 23, 3) := by decide +kernel
theorem dX12_odds_17 : decode cX12_odds 17 = .ok (.iload_n 3, 1) := by decide +kernel
theorem dX12_odds_18 : decode cX12_odds 18 = .ok (.iconst 0, 1) := by decide +kernel
theorem dX12_odds_19 : decode cX12_odds 19 = .ok (.bipush 8, 2) := by decide +kernel
theorem dX12_odds_21 : decode cX12_odds 21 = .ok (.invokestatic 48, 3) := by decide +kernel
theorem dX12_odds_24 : decode cX12_odds 24 = .ok (.ifCond .eq 13, 3) := by decide +kernel
theorem dX12_odds_27 : decode cX12_odds 27 = .ok (.iload 4, 2) := by decide +kernel
theorem dX12_odds_29 : decode cX12_odds 29 = .ok (.iconst 0, 1) := by decide +kernel
theorem dX12_odds_30 : decode cX12_odds 30 = .ok (.iconst 1, 1) := by decide +kernel
theorem dX12_odds_31 : decode cX12_odds 31 = .ok (.invokestatic 48, 3) := by decide +kernel
theorem dX12_odds_34 : decode cX12_odds 34 = .ok (.ifCond .ne 5, 3) := by decide +kernel
theorem dX12_odds_37 : decode cX12_odds 37 = .ok (.iconst (-1), 1) := by decide +kernel
theorem dX12_odds_38 : decode cX12_odds 38 = .ok (.ireturn, 1) := by decide +kernel
theorem dX12_odds_39 : decode cX12_odds 39 = .ok (.aload_n 0, 1) := by decide +kernel
theorem dX12_odds_40 : decode cX12_odds 40 = .ok (.bipush 6, 2) := by decide +kernel
theorem dX12_odds_42 : decode cX12_odds 42 = .ok (.iload_n 1, 1) := by decide +kernel
theorem dX12_odds_43 : decode cX12_odds 43 = .ok (.bipush 10, 2) := by decide +kernel
theorem dX12_odds_45 : decode cX12_odds 45 = .ok (.idiv, 1) := by decide +kernel
theorem dX12_odds_46 : decode cX12_odds 46 = .ok (.imul, 1) := by decide +kernel
theorem dX12_odds_47 : decode cX12_odds 47 = .ok (.iload_n 1, 1) := by decide +kernel
theorem dX12_odds_48 : decode cX12_odds 48 = .ok (.bipush 10, 2) := by decide +kernel
theorem dX12_odds_50 : decode cX12_odds 50 = .ok (.irem, 1) := by decide +kernel
theorem dX12_odds_51 : decode cX12_odds 51 = .ok (.iadd, 1) := by decide +kernel
theorem dX12_odds_52 : decode cX12_odds 52 = .ok (.invokevirtual 104, 3) := by decide +kernel
theorem dX12_odds_55 : decode cX12_odds 55 = .ok (.istore 5, 2) := by decide +kernel
theorem dX12_odds_57 : decode cX12_odds 57 = .ok (.iconst 0, 1) := by decide +kernel
theorem dX12_odds_58 : decode cX12_odds 58 = .ok (.istore 6, 2) := by decide +kernel
theorem dX12_odds_60 : decode cX12_odds 60 = .ok (.iconst 1, 1) := by decide +kernel
theorem dX12_odds_61 : decode cX12_odds 61 = .ok (.istore 7, 2) := by decide +kernel
theorem dX12_odds_63 : decode cX12_odds 63 = .ok (.iconst 0, 1) := by decide +kernel
theorem dX12_odds_64 : decode cX12_odds 64 = .ok (.istore 8, 2) := by decide +kernel
theorem dX12_odds_66 : decode cX12_odds 66 = .ok (.iload 8, 2) := by decide +kernel
theorem dX12_odds_68 : decode cX12_odds 68 = .ok (.iload_n 3, 1) := by decide +kernel
theorem dX12_odds_69 : decode cX12_odds 69 = .ok (.if_icmp .ge 16, 3) := by decide +kernel
theorem dX12_odds_72 : decode cX12_odds 72 = .ok (.iload 7, 2) := by decide +kernel
theorem dX12_odds_74 : decode cX12_odds 74 = .ok (.bipush 10, 2) := by decide +kernel
theorem dX12_odds_76 : decode cX12_odds 76 = .ok (.imul, 1) := by decide +kernel
theorem dX12_odds_77 : decode cX12_odds 77 = .ok (.istore 7, 2) := by decide +kernel
theorem dX12_odds_79 : decode cX12_odds 79 = .ok (.iinc 8 1, 3) := by decide +kernel
theorem dX12_odds_82 : decode cX12_odds 82 = .ok (.goto (-16), 3) := by decide +kernel
theorem dX12_odds_85 : decode cX12_odds 85 = .ok (.iconst 0, 1) := by decide +kernel
theorem dX12_odds_86 : decode cX12_odds 86 = .ok (.istore 8, 2) := by decide +kernel
theorem dX12_odds_88 : decode cX12_odds 88 = .ok (.iload 8, 2) := by decide +kernel
theorem dX12_odds_90 : decode cX12_odds 90 = .ok (.iconst 1, 1) := by decide +kernel
theorem dX12_odds_91 : decode cX12_odds 91 = .ok (.iload_n 3, 1) := by decide +kernel
theorem dX12_odds_92 : decode cX12_odds 92 = .ok (.ishl, 1) := by decide +kernel
theorem dX12_odds_93 : decode cX12_odds 93 = .ok (.if_icmp .ge 71, 3) := by decide +kernel
theorem dX12_odds_96 : decode cX12_odds 96 = .ok (.iconst 1, 1) := by decide +kernel
theorem dX12_odds_97 : decode cX12_odds 97 = .ok (.istore 9, 2) := by decide +kernel
theorem dX12_odds_99 : decode cX12_odds 99 = .ok (.iconst 0, 1) := by decide +kernel
theorem dX12_odds_100 : decode cX12_odds 100 = .ok (.istore 10, 2) := by decide +kernel
theorem dX12_odds_102 : decode cX12_odds 102 = .ok (.iload 10, 2) := by decide +kernel
theorem dX12_odds_104 : decode cX12_odds 104 = .ok (.iload_n 3, 1) := by decide +kernel
theorem dX12_odds_105 : decode cX12_odds 105 = .ok (.if_icmp .ge 32, 3) := by decide +kernel
theorem dX12_odds_108 : decode cX12_odds 108 = .ok (.iload 9, 2) := by decide +kernel
theorem dX12_odds_110 : decode cX12_odds 110 = .ok (.iload 8, 2) := by decide +kernel
theorem dX12_odds_112 : decode cX12_odds 112 = .ok (.iload 10, 2) := by decide +kernel
theorem dX12_odds_114 : decode cX12_odds 114 = .ok (.invokestatic 113, 3) := by decide +kernel
theorem dX12_odds_117 : decode cX12_odds 117 = .ok (.ifCond .eq 7, 3) := by decide +kernel
theorem dX12_odds_120 : decode cX12_odds 120 = .ok (.iload_n 2, 1) := by decide +kernel
theorem dX12_odds_121 : decode cX12_odds 121 = .ok (.goto 7, 3) := by decide +kernel
theorem dX12_odds_124 : decode cX12_odds 124 = .ok (.bipush 10, 2) := by decide +kernel
theorem dX12_odds_126 : decode cX12_odds 126 = .ok (.iload_n 2, 1) := by decide +kernel
theorem dX12_odds_127 : decode cX12_odds 127 = .ok (.isub, 1) := by decide +kernel
theorem dX12_odds_128 : decode cX12_odds 128 = .ok (.imul, 1) := by decide +kernel
theorem dX12_odds_129 : decode cX12_odds 129 = .ok (.istore 9, 2) := by decide +kernel
theorem dX12_odds_131 : decode cX12_odds 131 = .ok (.iinc 10 1, 3) := by decide +kernel
theorem dX12_odds_134 : decode cX12_odds 134 = .ok (.goto (-32), 3) := by decide +kernel
theorem dX12_odds_137 : decode cX12_odds 137 = .ok (.iload 6, 2) := by decide +kernel
theorem dX12_odds_139 : decode cX12_odds 139 = .ok (.iload 8, 2) := by decide +kernel
theorem dX12_odds_141 : decode cX12_odds 141 = .ok (.invokestatic 152, 3) := by decide +kernel
theorem dX12_odds_144 : decode cX12_odds 144 = .ok (.iload 5, 2) := by decide +kernel
theorem dX12_odds_146 : decode cX12_odds 146 = .ok (.if_icmp .ge 8, 3) := by decide +kernel
theorem dX12_odds_149 : decode cX12_odds 149 = .ok (.iload 9, 2) := by decide +kernel
theorem dX12_odds_151 : decode cX12_odds 151 = .ok (.goto 4, 3) := by decide +kernel
theorem dX12_odds_154 : decode cX12_odds 154 = .ok (.iconst 0, 1) := by decide +kernel
theorem dX12_odds_155 : decode cX12_odds 155 = .ok (.iadd, 1) := by decide +kernel
theorem dX12_odds_156 : decode cX12_odds 156 = .ok (.istore 6, 2) := by decide +kernel
theorem dX12_odds_158 : decode cX12_odds 158 = .ok (.iinc 8 1, 3) := by decide +kernel
theorem dX12_odds_161 : decode cX12_odds 161 = .ok (.goto (-73), 3) := by decide +kernel
theorem dX12_odds_164 : decode cX12_odds 164 = .ok (.iload 6, 2) := by decide +kernel
theorem dX12_odds_166 : decode cX12_odds 166 = .ok (.istore 8, 2) := by decide +kernel
theorem dX12_odds_168 : decode cX12_odds 168 = .ok (.iload 7, 2) := by decide +kernel
theorem dX12_odds_170 : decode cX12_odds 170 = .ok (.istore 9, 2) := by decide +kernel
theorem dX12_odds_172 : decode cX12_odds 172 = .ok (.iload 9, 2) := by decide +kernel
theorem dX12_odds_174 : decode cX12_odds 174 = .ok (.ifCond .le 21, 3) := by decide +kernel
theorem dX12_odds_177 : decode cX12_odds 177 = .ok (.iload 8, 2) := by decide +kernel
theorem dX12_odds_179 : decode cX12_odds 179 = .ok (.iload 9, 2) := by decide +kernel
theorem dX12_odds_181 : decode cX12_odds 181 = .ok (.irem, 1) := by decide +kernel
theorem dX12_odds_182 : decode cX12_odds 182 = .ok (.istore 10, 2) := by decide +kernel
theorem dX12_odds_184 : decode cX12_odds 184 = .ok (.iload 9, 2) := by decide +kernel
theorem dX12_odds_186 : decode cX12_odds 186 = .ok (.istore 8, 2) := by decide +kernel
theorem dX12_odds_188 : decode cX12_odds 188 = .ok (.iload 10, 2) := by decide +kernel
theorem dX12_odds_190 : decode cX12_odds 190 = .ok (.istore 9, 2) := by decide +kernel
theorem dX12_odds_192 : decode cX12_odds 192 = .ok (.goto (-20), 3) := by decide +kernel
theorem dX12_odds_195 : decode cX12_odds 195 = .ok (.iload 4, 2) := by decide +kernel
theorem dX12_odds_197 : decode cX12_odds 197 = .ok (.ifCond .ne 11, 3) := by decide +kernel
theorem dX12_odds_200 : decode cX12_odds 200 = .ok (.iload 6, 2) := by decide +kernel
theorem dX12_odds_202 : decode cX12_odds 202 = .ok (.iload 8, 2) := by decide +kernel
theorem dX12_odds_204 : decode cX12_odds 204 = .ok (.idiv, 1) := by decide +kernel
theorem dX12_odds_205 : decode cX12_odds 205 = .ok (.goto 8, 3) := by decide +kernel
theorem dX12_odds_208 : decode cX12_odds 208 = .ok (.iload 7, 2) := by decide +kernel
theorem dX12_odds_210 : decode cX12_odds 210 = .ok (.iload 8, 2) := by decide +kernel
theorem dX12_odds_212 : decode cX12_odds 212 = .ok (.idiv, 1) := by decide +kernel
theorem dX12_odds_213 : decode cX12_odds 213 = .ok (.ireturn, 1) := by decide +kernel
theorem dX12_found_0 : decode cX12_found 0 = .ok (.iload_n 1, 1) := by decide +kernel
theorem dX12_found_1 : decode cX12_found 1 = .ok (.iconst 0, 1) := by decide +kernel
theorem dX12_found_2 : decode cX12_found 2 = .ok (.iconst 1, 1) := by decide +kernel
theorem dX12_found_3 : decode cX12_found 3 = .ok (.aload_n 0, 1) := by decide +kernel
theorem dX12_found_4 : decode cX12_found 4 = .ok (.getfield 13, 3) := by decide +kernel
theorem dX12_found_7 : decode cX12_found 7 = .ok (.iconst 0, 1) := by decide +kernel
theorem dX12_found_8 : decode cX12_found 8 = .ok (.iaload, 1) := by decide +kernel
theorem dX12_found_9 : decode cX12_found 9 = .ok (.ishl, 1) := by decide +kernel
theorem dX12_found_10 : decode cX12_found 10 = .ok (.iconst 1, 1) := by decide +kernel
theorem dX12_found_11 : decode cX12_found 11 = .ok (.isub, 1) := by decide +kernel
theorem dX12_found_12 : decode cX12_found 12 = .ok (.invokestatic 48, 3) := by decide +kernel
theorem dX12_found_15 : decode cX12_found 15 = .ok (.ifCond .eq 13, 3) := by decide +kernel
theorem dX12_found_18 : decode cX12_found 18 = .ok (.iload_n 2, 1) := by decide +kernel
theorem dX12_found_19 : decode cX12_found 19 = .ok (.iconst 1, 1) := by decide +kernel
theorem dX12_found_20 : decode cX12_found 20 = .ok (.bipush 9, 2) := by decide +kernel
theorem dX12_found_22 : decode cX12_found 22 = .ok (.invokestatic 48, 3) := by decide +kernel
theorem dX12_found_25 : decode cX12_found 25 = .ok (.ifCond .ne 5, 3) := by decide +kernel
theorem dX12_found_28 : decode cX12_found 28 = .ok (.iconst (-1), 1) := by decide +kernel
theorem dX12_found_29 : decode cX12_found 29 = .ok (.ireturn, 1) := by decide +kernel
theorem dX12_found_30 : decode cX12_found 30 = .ok (.aload_n 0, 1) := by decide +kernel
theorem dX12_found_31 : decode cX12_found 31 = .ok (.getfield 92, 3) := by decide +kernel
theorem dX12_found_34 : decode cX12_found 34 = .ok (.bipush 6, 2) := by decide +kernel
theorem dX12_found_36 : decode cX12_found 36 = .ok (.if_icmp .ne 6, 3) := by decide +kernel
theorem dX12_found_39 : decode cX12_found 39 = .ok (.bipush (-3), 2) := by decide +kernel
theorem dX12_found_41 : decode cX12_found 41 = .ok (.ireturn, 1) := by decide +kernel
theorem dX12_found_42 : decode cX12_found 42 = .ok (.aload_n 0, 1) := by decide +kernel
theorem dX12_found_43 : decode cX12_found 43 = .ok (.getfield 35, 3) := by decide +kernel
theorem dX12_found_46 : decode cX12_found 46 = .ok (.aload_n 0, 1) := by decide +kernel
theorem dX12_found_47 : decode cX12_found 47 = .ok (.getfield 92, 3) := by decide +kernel
theorem dX12_found_50 : decode cX12_found 50 = .ok (.bipush 16, 2) := by decide +kernel
theorem dX12_found_52 : decode cX12_found 52 = .ok (.iload_n 1, 1) := by decide +kernel
theorem dX12_found_53 : decode cX12_found 53 = .ok (.imul, 1) := by decide +kernel
theorem dX12_found_54 : decode cX12_found 54 = .ok (.iload_n 2, 1) := by decide +kernel
theorem dX12_found_55 : decode cX12_found 55 = .ok (.iadd, 1) := by decide +kernel
theorem dX12_found_56 : decode cX12_found 56 = .ok (.iastore, 1) := by decide +kernel
theorem dX12_found_57 : decode cX12_found 57 = .ok (.aload_n 0, 1) := by decide +kernel
theorem dX12_found_58 : decode cX12_found 58 = .ok (.dup, 1) := by decide +kernel
theorem dX12_found_59 : decode cX12_found 59 = .ok (.getfield 92, 3) := by decide +kernel
theorem dX12_found_62 : decode cX12_found 62 = .ok (.iconst 1, 1) := by decide +kernel
theorem dX12_found_63 : decode cX12_found 63 = .ok (.iadd, 1) := by decide +kernel
theorem dX12_found_64 : decode cX12_found 64 = .ok (.putfield 92, 3) := by decide +kernel
theorem dX12_found_67 : decode cX12_found 67 = .ok (.aload_n 0, 1) := by decide +kernel
theorem dX12_found_68 : decode cX12_found 68 = .ok (.getfield 92, 3) := by decide +kernel
theorem dX12_found_71 : decode cX12_found 71 = .ok (.ireturn, 1) := by decide +kernel
theorem dX12_forget_0 : decode cX12_forget 0 = .ok (.aload_n 0, 1) := by decide +kernel
theorem dX12_forget_1 : decode cX12_forget 1 = .ok (.getfield 92, 3) := by decide +kernel
theorem dX12_forget_4 : decode cX12_forget 4 = .ok (.istore_n 1, 1) := by decide +kernel
theorem dX12_forget_5 : decode cX12_forget 5 = .ok (.aload_n 0, 1) := by decide +kernel
theorem dX12_forget_6 : decode cX12_forget 6 = .ok (.iconst 0, 1) := by decide +kernel
theorem dX12_forget_7 : decode cX12_forget 7 = .ok (.putfield 92, 3) := by decide +kernel
theorem dX12_forget_10 : decode cX12_forget 10 = .ok (.iload_n 1, 1) := by decide +kernel
theorem dX12_forget_11 : decode cX12_forget 11 = .ok (.ireturn, 1) := by decide +kernel
theorem dX12_isSo_0 : decode cX12_isSo 0 = .ok (.iconst 1, 1) := by decide +kernel
theorem dX12_isSo_1 : decode cX12_isSo 1 = .ok (.istore_n 2, 1) := by decide +kernel
theorem dX12_isSo_2 : decode cX12_isSo 2 = .ok (.iconst 0, 1) := by decide +kernel
theorem dX12_isSo_3 : decode cX12_isSo 3 = .ok (.istore_n 3, 1) := by decide +kernel
theorem dX12_isSo_4 : decode cX12_isSo 4 = .ok (.iload_n 3, 1) := by decide +kernel
theorem dX12_isSo_5 : decode cX12_isSo 5 = .ok (.aload_n 0, 1) := by decide +kernel
theorem dX12_isSo_6 : decode cX12_isSo 6 = .ok (.getfield 92, 3) := by decide +kernel
theorem dX12_isSo_9 : decode cX12_isSo 9 = .ok (.if_icmp .ge 107, 3) := by decide +kernel
theorem dX12_isSo_12 : decode cX12_isSo 12 = .ok (.iconst 0, 1) := by decide +kernel
theorem dX12_isSo_13 : decode cX12_isSo 13 = .ok (.istore 4, 2) := by decide +kernel
theorem dX12_isSo_15 : decode cX12_isSo 15 = .ok (.iconst 0, 1) := by decide +kernel
theorem dX12_isSo_16 : decode cX12_isSo 16 = .ok (.istore 5, 2) := by decide +kernel
theorem dX12_isSo_18 : decode cX12_isSo 18 = .ok (.iload 5, 2) := by decide +kernel
theorem dX12_isSo_20 : decode cX12_isSo 20 = .ok (.aload_n 0, 1) := by decide +kernel
theorem dX12_isSo_21 : decode cX12_isSo 21 = .ok (.getfield 13, 3) := by decide +kernel
theorem dX12_isSo_24 : decode cX12_isSo 24 = .ok (.iconst 0, 1) := by decide +kernel
theorem dX12_isSo_25 : decode cX12_isSo 25 = .ok (.iaload, 1) := by decide +kernel
theorem dX12_isSo_26 : decode cX12_isSo 26 = .ok (.if_icmp .ge 48, 3) := by decide +kernel
theorem dX12_isSo_29 : decode cX12_isSo 29 = .ok (.iload 4, 2) := by decide +kernel
theorem dX12_isSo_31 : decode cX12_isSo 31 = .ok (.iload_n 1, 1) := by decide +kernel
theorem dX12_isSo_32 : decode cX12_isSo 32 = .ok (.aload_n 0, 1) := by decide +kernel
theorem dX12_isSo_33 : decode cX12_isSo 33 = .ok (.getfield 35, 3) := by decide +kernel
theorem dX12_isSo_36 : decode cX12_isSo 36 = .ok (.iload_n 3, 1) := by decide +kernel
theorem dX12_isSo_37 : decode cX12_isSo 37 = .ok (.iaload, 1) := by decide +kernel
theorem dX12_isSo_38 : decode cX12_isSo 38 = .ok (.bipush 16, 2) := by decide +kernel
theorem dX12_isSo_40 : decode cX12_isSo 40 = .ok (.idiv, 1) := by decide +kernel
theorem dX12_isSo_41 : decode cX12_isSo 41 = .ok (.iconst (-1), 1) := by decide +kernel
theorem dX12_isSo_42 : decode cX12_isSo 42 = .ok (.ixor, 1) := by decide +kernel
theorem dX12_isSo_43 : decode cX12_isSo 43 = .ok (.iand, 1) := by decide +kernel
theorem dX12_isSo_44 : decode cX12_isSo 44 = .ok (.iload 5, 2) := by decide +kernel
theorem dX12_isSo_46 : decode cX12_isSo 46 = .ok (.invokestatic 113, 3) := by decide +kernel
theorem dX12_isSo_49 : decode cX12_isSo 49 = .ok (.ifCond .eq 15, 3) := by decide +kernel
theorem dX12_isSo_52 : decode cX12_isSo 52 = .ok (.aload_n 0, 1) := by decide +kernel
theorem dX12_isSo_53 : decode cX12_isSo 53 = .ok (.getfield 13, 3) := by decide +kernel
theorem dX12_isSo_56 : decode cX12_isSo 56 = .ok (.iconst 4, 1) := by decide +kernel
theorem dX12_isSo_57 : decode cX12_isSo 57 = .ok (.iload 5, 2) := by decide +kernel
theorem dX12_isSo_59 : decode cX12_isSo 59 = .ok (.iadd, 1) := by decide +kernel
theorem dX12_isSo_60 : decode cX12_isSo 60 = .ok (.iaload, 1) := by decide +kernel
theorem dX12_isSo_61 : decode cX12_isSo 61 = .ok (.goto 4, 3) := by decide +kernel
theorem dX12_isSo_64 : decode cX12_isSo 64 = .ok (.iconst 0, 1) := by decide +kernel
theorem dX12_isSo_65 : decode cX12_isSo 65 = .ok (.iadd, 1) := by decide +kernel
theorem dX12_isSo_66 : decode cX12_isSo 66 = .ok (.istore 4, 2) := by decide +kernel
theorem dX12_isSo_68 : decode cX12_isSo 68 = .ok (.iinc 5 1, 3) := by decide +kernel
theorem dX12_isSo_71 : decode cX12_isSo 71 = .ok (.goto (-53), 3) := by decide +kernel
theorem dX12_isSo_74 : decode cX12_isSo 74 = .ok (.iload_n 2, 1) := by decide +kernel
theorem dX12_isSo_75 : decode cX12_isSo 75 = .ok (.ifCond .eq 33, 3) := by decide +kernel
theorem dX12_isSo_78 : decode cX12_isSo 78 = .ok (.iload 4, 2) := by decide +kernel
theorem dX12_isSo_80 : decode cX12_isSo 80 = .ok (.bipush 9, 2) := by decide +kernel
theorem dX12_isSo_82 : decode cX12_isSo 82 = .ok (.if_icmp .le 8, 3) := by decide +kernel
theorem dX12_isSo_85 : decode cX12_isSo 85 = .ok (.bipush 9, 2) := by decide +kernel
theorem dX12_isSo_87 : decode cX12_isSo 87 = .ok (.goto 5, 3) := by decide +kernel
theorem dX12_isSo_90 : decode cX12_isSo 90 = .ok (.iload 4, 2) := by decide +kernel
theorem dX12_isSo_92 : decode cX12_isSo 92 = .ok (.aload_n 0, 1) := by decide +kernel
theorem dX12_isSo_93 : decode cX12_isSo 93 = .ok (.getfield 35, 3) := by decide +kernel
theorem dX12_isSo_96 : decode cX12_isSo 96 = .ok (.iload_n 3, 1) := by decide +kernel
theorem dX12_isSo_97 : decode cX12_isSo 97 = .ok (.iaload, 1) := by decide +kernel
theorem dX12_isSo_98 : decode cX12_isSo 98 = .ok (.bipush 16, 2) := by decide +kernel
theorem dX12_isSo_100 : decode cX12_isSo 100 = .ok (.irem, 1) := by decide +kernel
theorem dX12_isSo_101 : decode cX12_isSo 101 = .ok (.if_icmp .ne 7, 3) := by decide +kernel
theorem dX12_isSo_104 : decode cX12_isSo 104 = .ok (.iconst 1, 1) := by decide +kernel
theorem dX12_isSo_105 : decode cX12_isSo 105 = .ok (.goto 4, 3) := by decide +kernel
theorem dX12_isSo_108 : decode cX12_isSo 108 = .ok (.iconst 0, 1) := by decide +kernel
theorem dX12_isSo_109 : decode cX12_isSo 109 = .ok (.istore_n 2, 1) := by decide +kernel
theorem dX12_isSo_110 : decode cX12_isSo 110 = .ok (.iinc 3 1, 3) := by decide +kernel
theorem dX12_isSo_113 : decode cX12_isSo 113 = .ok (.goto (-109), 3) := by decide +kernel
theorem dX12_isSo_116 : decode cX12_isSo 116 = .ok (.iload_n 2, 1) := by decide +kernel
theorem dX12_isSo_117 : decode cX12_isSo 117 = .ok (.ireturn, 1) := by decide +kernel
theorem dX12_manyWith_0 : decode cX12_manyWith 0 = .ok (.iconst 0, 1) := by decide +kernel
theorem dX12_manyWith_1 : decode cX12_manyWith 1 = .ok (.istore_n 2, 1) := by decide +kernel
theorem dX12_manyWith_2 : decode cX12_manyWith 2 = .ok (.iconst 0, 1) := by decide +kernel
theorem dX12_manyWith_3 : decode cX12_manyWith 3 = .ok (.istore_n 3, 1) := by decide +kernel
theorem dX12_manyWith_4 : decode cX12_manyWith 4 = .ok (.iload_n 3, 1) := by decide +kernel
theorem dX12_manyWith_5 : decode cX12_manyWith 5 = .ok (.iconst 1, 1) := by decide +kernel
theorem dX12_manyWith_6 : decode cX12_manyWith 6 = .ok (.aload_n 0, 1) := by decide +kernel
theorem dX12_manyWith_7 : decode cX12_manyWith 7 = .ok (.getfield 13, 3) := by decide +kernel
theorem dX12_manyWith_10 : decode cX12_manyWith 10 = .ok (.iconst 0, 1) := by decide +kernel
theorem dX12_manyWith_11 : decode cX12_manyWith 11 = .ok (.iaload, 1) := by decide +kernel
theorem dX12_manyWith_12 : decode cX12_manyWith 12 = .ok (.ishl, 1) := by decide +kernel
theorem dX12_manyWith_13 : decode cX12_manyWith 13 = .ok (.if_icmp .ge 39, 3) := by decide +kernel
theorem dX12_manyWith_16 : decode cX12_manyWith 16 = .ok (.iload_n 2, 1) := by decide +kernel
theorem dX12_manyWith_17 : decode cX12_manyWith 17 = .ok (.iload_n 1, 1) := by decide +kernel
theorem dX12_manyWith_18 : decode cX12_manyWith 18 = .ok (.bipush (-9), 2) := by decide +kernel
theorem dX12_manyWith_20 : decode cX12_manyWith 20 = .ok (.if_icmp .eq 11, 3) := by decide +kernel
theorem dX12_manyWith_23 : decode cX12_manyWith 23 = .ok (.iload_n 3, 1) := by decide +kernel
theorem dX12_manyWith_24 : decode cX12_manyWith 24 = .ok (.iload_n 1, 1) := by decide +kernel
theorem dX12_manyWith_25 : decode cX12_manyWith 25 = .ok (.invokestatic 113, 3) := by decide +kernel
theorem dX12_manyWith_28 : decode cX12_manyWith 28 = .ok (.ifCond .eq 15, 3) := by decide +kernel
theorem dX12_manyWith_31 : decode cX12_manyWith 31 = .ok (.aload_n 0, 1) := by decide +kernel
theorem dX12_manyWith_32 : decode cX12_manyWith 32 = .ok (.iload_n 3, 1) := by decide +kernel
theorem dX12_manyWith_33 : decode cX12_manyWith 33 = .ok (.invokevirtual 155, 3) := by decide +kernel
theorem dX12_manyWith_36 : decode cX12_manyWith 36 = .ok (.ifCond .eq 7, 3) := by decide +kernel
theorem dX12_manyWith_39 : decode cX12_manyWith 39 = .ok (.iconst 1, 1) := by decide +kernel
theorem dX12_manyWith_40 : decode cX12_manyWith 40 = .ok (.goto 4, 3) := by decide +kernel
theorem dX12_manyWith_43 : decode cX12_manyWith 43 = .ok (.iconst 0, 1) := by decide +kernel
theorem dX12_manyWith_44 : decode cX12_manyWith 44 = .ok (.iadd, 1) := by decide +kernel
theorem dX12_manyWith_45 : decode cX12_manyWith 45 = .ok (.istore_n 2, 1) := by decide +kernel
theorem dX12_manyWith_46 : decode cX12_manyWith 46 = .ok (.iinc 3 1, 3) := by decide +kernel
theorem dX12_manyWith_49 : decode cX12_manyWith 49 = .ok (.goto (-45), 3) := by decide +kernel
theorem dX12_manyWith_52 : decode cX12_manyWith 52 = .ok (.iload_n 2, 1) := by decide +kernel
theorem dX12_manyWith_53 : decode cX12_manyWith 53 = .ok (.ireturn, 1) := by decide +kernel
theorem dX12_can_0 : decode cX12_can 0 = .ok (.iload_n 1, 1) := by decide +kernel
theorem dX12_can_1 : decode cX12_can 1 = .ok (.iconst 0, 1) := by decide +kernel
theorem dX12_can_2 : decode cX12_can 2 = .ok (.iconst 2, 1) := by decide +kernel
theorem dX12_can_3 : decode cX12_can 3 = .ok (.invokestatic 48, 3) := by decide +kernel
theorem dX12_can_6 : decode cX12_can 6 = .ok (.ifCond .ne 5, 3) := by decide +kernel
theorem dX12_can_9 : decode cX12_can 9 = .ok (.iconst (-1), 1) := by decide +kernel
theorem dX12_can_10 : decode cX12_can 10 = .ok (.ireturn, 1) := by decide +kernel
theorem dX12_can_11 : decode cX12_can 11 = .ok (.aload_n 0, 1) := by decide +kernel
theorem dX12_can_12 : decode cX12_can 12 = .ok (.bipush (-9), 2) := by decide +kernel
theorem dX12_can_14 : decode cX12_can 14 = .ok (.invokevirtual 158, 3) := by decide +kernel
theorem dX12_can_17 : decode cX12_can 17 = .ok (.istore_n 2, 1) := by decide +kernel
theorem dX12_can_18 : decode cX12_can 18 = .ok (.iconst 0, 1) := by decide +kernel
theorem dX12_can_19 : decode cX12_can 19 = .ok (.istore_n 3, 1) := by decide +kernel
theorem dX12_can_20 : decode cX12_can 20 = .ok (.iconst 0, 1) := by decide +kernel
theorem dX12_can_21 : decode cX12_can 21 = .ok (.istore 4, 2) := by decide +kernel
theorem dX12_can_23 : decode cX12_can 23 = .ok (.iconst 0, 1) := by decide +kernel
theorem dX12_can_24 : decode cX12_can 24 = .ok (.istore 5, 2) := by decide +kernel
theorem dX12_can_26 : decode cX12_can 26 = .ok (.iload 5, 2) := by decide +kernel
theorem dX12_can_28 : decode cX12_can 28 = .ok (.aload_n 0, 1) := by decide +kernel
theorem dX12_can_29 : decode cX12_can 29 = .ok (.getfield 13, 3) := by decide +kernel
theorem dX12_can_32 : decode cX12_can 32 = .ok (.iconst 0, 1) := by decide +kernel
theorem dX12_can_33 : decode cX12_can 33 = .ok (.iaload, 1) := by decide +kernel
theorem dX12_can_34 : decode cX12_can 34 = .ok (.if_icmp .ge 52, 3) := by decide +kernel
theorem dX12_can_37 : decode cX12_can 37 = .ok (.aload_n 0, 1) := by decide +kernel
theorem dX12_can_38 : decode cX12_can 38 = .ok (.iload 5, 2) := by decide +kernel
theorem dX12_can_40 : decode cX12_can 40 = .ok (.invokevirtual 158, 3) := by decide +kernel
theorem dX12_can_43 : decode cX12_can 43 = .ok (.istore 6, 2) := by decide +kernel
theorem dX12_can_45 : decode cX12_can 45 = .ok (.iload_n 3, 1) := by decide +kernel
theorem dX12_can_46 : decode cX12_can 46 = .ok (.iload 6, 2) := by decide +kernel
theorem dX12_can_48 : decode cX12_can 48 = .ok (.iload_n 2, 1) := by decide +kernel
theorem dX12_can_49 : decode cX12_can 49 = .ok (.if_icmp .ne 10, 3) := by decide +kernel
theorem dX12_can_52 : decode cX12_can 52 = .ok (.iconst 1, 1) := by decide +kernel
theorem dX12_can_53 : decode cX12_can 53 = .ok (.iload 5, 2) := by decide +kernel
theorem dX12_can_55 : decode cX12_can 55 = .ok (.ishl, 1) := by decide +kernel
theorem dX12_can_56 : decode cX12_can 56 = .ok (.goto 4, 3) := by decide +kernel
theorem dX12_can_59 : decode cX12_can 59 = .ok (.iconst 0, 1) := by decide +kernel
theorem dX12_can_60 : decode cX12_can 60 = .ok (.ior, 1) := by decide +kernel
theorem dX12_can_61 : decode cX12_can 61 = .ok (.istore_n 3, 1) := by decide +kernel
theorem dX12_can_62 : decode cX12_can 62 = .ok (.iload 4, 2) := by decide +kernel
theorem dX12_can_64 : decode cX12_can 64 = .ok (.iload 6, 2) := by decide +kernel
theorem dX12_can_66 : decode cX12_can 66 = .ok (.ifCond .le 10, 3) := by decide +kernel
theorem dX12_can_69 : decode cX12_can 69 = .ok (.iconst 1, 1) := by decide +kernel
theorem dX12_can_70 : decode cX12_can 70 = .ok (.iload 5, 2) := by decide +kernel
theorem dX12_can_72 : decode cX12_can 72 = .ok (.ishl, 1) := by decide +kernel
theorem dX12_can_73 : decode cX12_can 73 = .ok (.goto 4, 3) := by decide +kernel
theorem dX12_can_76 : decode cX12_can 76 = .ok (.iconst 0, 1) := by decide +kernel
theorem dX12_can_77 : decode cX12_can 77 = .ok (.ior, 1) := by decide +kernel
theorem dX12_can_78 : decode cX12_can 78 = .ok (.istore 4, 2) := by decide +kernel
theorem dX12_can_80 : decode cX12_can 80 = .ok (.iinc 5 1, 3) := by decide +kernel
theorem dX12_can_83 : decode cX12_can 83 = .ok (.goto (-57), 3) := by decide +kernel
theorem dX12_can_86 : decode cX12_can 86 = .ok (.iload_n 1, 1) := by decide +kernel
theorem dX12_can_87 : decode cX12_can 87 = .ok (.ifCond .ne 7, 3) := by decide +kernel
theorem dX12_can_90 : decode cX12_can 90 = .ok (.iload_n 2, 1) := by decide +kernel
theorem dX12_can_91 : decode cX12_can 91 = .ok (.goto 23, 3) := by decide +kernel
theorem dX12_can_94 : decode cX12_can 94 = .ok (.iload_n 1, 1) := by decide +kernel
theorem dX12_can_95 : decode cX12_can 95 = .ok (.iconst 2, 1) := by decide +kernel
theorem dX12_can_96 : decode cX12_can 96 = .ok (.if_icmp .ne 8, 3) := by decide +kernel
theorem dX12_can_99 : decode cX12_can 99 = .ok (.iload 4, 2) := by decide +kernel
theorem dX12_can_101 : decode cX12_can 101 = .ok (.goto 13, 3) := by decide +kernel
theorem dX12_can_104 : decode cX12_can 104 = .ok (.iload_n 2, 1) := by decide +kernel
theorem dX12_can_105 : decode cX12_can 105 = .ok (.ifCond .ne 8, 3) := by decide +kernel
theorem dX12_can_108 : decode cX12_can 108 = .ok (.bipush (-9), 2) := by decide +kernel
theorem dX12_can_110 : decode cX12_can 110 = .ok (.goto 4, 3) := by decide +kernel
theorem dX12_can_113 : decode cX12_can 113 = .ok (.iload_n 3, 1) := by decide +kernel
theorem dX12_can_114 : decode cX12_can 114 = .ok (.ireturn, 1) := by decide +kernel
theorem dX12_ask_0 : decode cX12_ask 0 = .ok (.aload_n 0, 1) := by decide +kernel
theorem dX12_ask_1 : decode cX12_ask 1 = .ok (.bipush (-9), 2) := by decide +kernel
theorem dX12_ask_3 : decode cX12_ask 3 = .ok (.invokevirtual 158, 3) := by decide +kernel
theorem dX12_ask_6 : decode cX12_ask 6 = .ok (.istore_n 1, 1) := by decide +kernel
theorem dX12_ask_7 : decode cX12_ask 7 = .ok (.bipush (-9), 2) := by decide +kernel
theorem dX12_ask_9 : decode cX12_ask 9 = .ok (.istore_n 2, 1) := by decide +kernel
theorem dX12_ask_10 : decode cX12_ask 10 = .ok (.iload_n 1, 1) := by decide +kernel
theorem dX12_ask_11 : decode cX12_ask 11 = .ok (.iconst 1, 1) := by decide +kernel
theorem dX12_ask_12 : decode cX12_ask 12 = .ok (.iadd, 1) := by decide +kernel
theorem dX12_ask_13 : decode cX12_ask 13 = .ok (.istore_n 3, 1) := by decide +kernel
theorem dX12_ask_14 : decode cX12_ask 14 = .ok (.iconst 0, 1) := by decide +kernel
theorem dX12_ask_15 : decode cX12_ask 15 = .ok (.istore 4, 2) := by decide +kernel
theorem dX12_ask_17 : decode cX12_ask 17 = .ok (.iload 4, 2) := by decide +kernel
theorem dX12_ask_19 : decode cX12_ask 19 = .ok (.aload_n 0, 1) := by decide +kernel
theorem dX12_ask_20 : decode cX12_ask 20 = .ok (.getfield 13, 3) := by decide +kernel
theorem dX12_ask_23 : decode cX12_ask 23 = .ok (.iconst 0, 1) := by decide +kernel
theorem dX12_ask_24 : decode cX12_ask 24 = .ok (.iaload, 1) := by decide +kernel
theorem dX12_ask_25 : decode cX12_ask 25 = .ok (.if_icmp .ge 68, 3) := by decide +kernel
theorem dX12_ask_28 : decode cX12_ask 28 = .ok (.iload_n 1, 1) := by decide +kernel
theorem dX12_ask_29 : decode cX12_ask 29 = .ok (.iconst 1, 1) := by decide +kernel
theorem dX12_ask_30 : decode cX12_ask 30 = .ok (.if_icmp .le 63, 3) := by decide +kernel
theorem dX12_ask_33 : decode cX12_ask 33 = .ok (.aload_n 0, 1) := by decide +kernel
theorem dX12_ask_34 : decode cX12_ask 34 = .ok (.iload 4, 2) := by decide +kernel
theorem dX12_ask_36 : decode cX12_ask 36 = .ok (.invokevirtual 158, 3) := by decide +kernel
theorem dX12_ask_39 : decode cX12_ask 39 = .ok (.istore 5, 2) := by decide +kernel
theorem dX12_ask_41 : decode cX12_ask 41 = .ok (.iload 5, 2) := by decide +kernel
theorem dX12_ask_43 : decode cX12_ask 43 = .ok (.iload_n 1, 1) := by decide +kernel
theorem dX12_ask_44 : decode cX12_ask 44 = .ok (.iload 5, 2) := by decide +kernel
theorem dX12_ask_46 : decode cX12_ask 46 = .ok (.isub, 1) := by decide +kernel
theorem dX12_ask_47 : decode cX12_ask 47 = .ok (.if_icmp .le 8, 3) := by decide +kernel
theorem dX12_ask_50 : decode cX12_ask 50 = .ok (.iload 5, 2) := by decide +kernel
theorem dX12_ask_52 : decode cX12_ask 52 = .ok (.goto 7, 3) := by decide +kernel
theorem dX12_ask_55 : decode cX12_ask 55 = .ok (.iload_n 1, 1) := by decide +kernel
theorem dX12_ask_56 : decode cX12_ask 56 = .ok (.iload 5, 2) := by decide +kernel
theorem dX12_ask_58 : decode cX12_ask 58 = .ok (.isub, 1) := by decide +kernel
theorem dX12_ask_59 : decode cX12_ask 59 = .ok (.istore 6, 2) := by decide +kernel
theorem dX12_ask_61 : decode cX12_ask 61 = .ok (.iload 6, 2) := by decide +kernel
theorem dX12_ask_63 : decode cX12_ask 63 = .ok (.iload_n 3, 1) := by decide +kernel
theorem dX12_ask_64 : decode cX12_ask 64 = .ok (.if_icmp .ge 8, 3) := by decide +kernel
theorem dX12_ask_67 : decode cX12_ask 67 = .ok (.iload 4, 2) := by decide +kernel
theorem dX12_ask_69 : decode cX12_ask 69 = .ok (.goto 4, 3) := by decide +kernel
theorem dX12_ask_72 : decode cX12_ask 72 = .ok (.iload_n 2, 1) := by decide +kernel
theorem dX12_ask_73 : decode cX12_ask 73 = .ok (.istore_n 2, 1) := by decide +kernel
theorem dX12_ask_74 : decode cX12_ask 74 = .ok (.iload 6, 2) := by decide +kernel
theorem dX12_ask_76 : decode cX12_ask 76 = .ok (.iload_n 3, 1) := by decide +kernel
theorem dX12_ask_77 : decode cX12_ask 77 = .ok (.if_icmp .ge 8, 3) := by decide +kernel
theorem dX12_ask_80 : decode cX12_ask 80 = .ok (.iload 6, 2) := by decide +kernel
theorem dX12_ask_82 : decode cX12_ask 82 = .ok (.goto 4, 3) := by decide +kernel
theorem dX12_ask_85 : decode cX12_ask 85 = .ok (.iload_n 3, 1) := by decide +kernel
theorem dX12_ask_86 : decode cX12_ask 86 = .ok (.istore_n 3, 1) := by decide +kernel
theorem dX12_ask_87 : decode cX12_ask 87 = .ok (.iinc 4 1, 3) := by decide +kernel
theorem dX12_ask_90 : decode cX12_ask 90 = .ok (.goto (-73), 3) := by decide +kernel
theorem dX12_ask_93 : decode cX12_ask 93 = .ok (.iload_n 2, 1) := by decide +kernel
theorem dX12_ask_94 : decode cX12_ask 94 = .ok (.ireturn, 1) := by decide +kernel
theorem dX12_rate_0 : decode cX12_rate 0 = .ok (.iload_n 1, 1) := by decide +kernel
theorem dX12_rate_1 : decode cX12_rate 1 = .ok (.iconst 0, 1) := by decide +kernel
theorem dX12_rate_2 : decode cX12_rate 2 = .ok (.iconst 5, 1) := by decide +kernel
theorem dX12_rate_3 : decode cX12_rate 3 = .ok (.invokestatic 48, 3) := by decide +kernel
theorem dX12_rate_6 : decode cX12_rate 6 = .ok (.ifCond .eq 11, 3) := by decide +kernel
theorem dX12_rate_9 : decode cX12_rate 9 = .ok (.aload_n 0, 1) := by decide +kernel
theorem dX12_rate_10 : decode cX12_rate 10 = .ok (.iload_n 2, 1) := by decide +kernel
theorem dX12_rate_11 : decode cX12_rate 11 = .ok (.invokevirtual 107, 3) := by decide +kernel
theorem dX12_rate_14 : decode cX12_rate 14 = .ok (.ifCond .ne 6, 3) := by decide +kernel
theorem dX12_rate_17 : decode cX12_rate 17 = .ok (.ldc 161, 2) := by decide +kernel
theorem dX12_rate_19 : decode cX12_rate 19 = .ok (.ireturn, 1) := by decide +kernel
theorem dX12_rate_20 : decode cX12_rate 20 = .ok (.aload_n 0, 1) := by decide +kernel
theorem dX12_rate_21 : decode cX12_rate 21 = .ok (.dup, 1) := by decide +kernel
theorem dX12_rate_22 : decode cX12_rate 22 = .ok (.getfield 162, 3) := by decide +kernel
theorem dX12_rate_25 : decode cX12_rate 25 = .ok (.iload_n 1, 1) := by decide +kernel
theorem dX12_rate_26 : decode cX12_rate 26 = .ok (.ifCond .ne 7, 3) := by decide +kernel
theorem dX12_rate_29 : decode cX12_rate 29 = .ok (.lconst 1, 1) := by decide +kernel
theorem dX12_rate_30 : decode cX12_rate 30 = .ok (.goto 50, 3) := by decide +kernel
theorem dX12_rate_33 : decode cX12_rate 33 = .ok (.iload_n 1, 1) := by decide +kernel
theorem dX12_rate_34 : decode cX12_rate 34 = .ok (.iconst 1, 1) := by decide +kernel
theorem dX12_rate_35 : decode cX12_rate 35 = .ok (.if_icmp .ne 9, 3) := by decide +kernel
theorem dX12_rate_38 : decode cX12_rate 38 = .ok (.ldc2_w 166, 3) := by decide +kernel
theorem dX12_rate_41 : decode cX12_rate 41 = .ok (.goto 39, 3) := by decide +kernel
theorem dX12_rate_44 : decode cX12_rate 44 = .ok (.iload_n 1, 1) := by decide +kernel
theorem dX12_rate_45 : decode cX12_rate 45 = .ok (.iconst 2, 1) := by decide +kernel
theorem dX12_rate_46 : decode cX12_rate 46 = .ok (.if_icmp .ne 9, 3) := by decide +kernel
theorem dX12_rate_49 : decode cX12_rate 49 = .ok (.ldc2_w 168, 3) := by decide +kernel
theorem dX12_rate_52 : decode cX12_rate 52 = .ok (.goto 28, 3) := by decide +kernel
theorem dX12_rate_55 : decode cX12_rate 55 = .ok (.iload_n 1, 1) := by decide +kernel
theorem dX12_rate_56 : decode cX12_rate 56 = .ok (.iconst 3, 1) := by decide +kernel
theorem dX12_rate_57 : decode cX12_rate 57 = .ok (.if_icmp .ne 9, 3) := by decide +kernel
theorem dX12_rate_60 : decode cX12_rate 60 = .ok (.ldc2_w 170, 3) := by decide +kernel
theorem dX12_rate_63 : decode cX12_rate 63 = .ok (.goto 17, 3) := by decide +kernel
theorem dX12_rate_66 : decode cX12_rate 66 = .ok (.iload_n 1, 1) := by decide +kernel
theorem dX12_rate_67 : decode cX12_rate 67 = .ok (.iconst 4, 1) := by decide +kernel
theorem dX12_rate_68 : decode cX12_rate 68 = .ok (.if_icmp .ne 9, 3) := by decide +kernel
theorem dX12_rate_71 : decode cX12_rate 71 = .ok (.ldc2_w 172, 3) := by decide +kernel
theorem dX12_rate_74 : decode cX12_rate 74 = .ok (.goto 6, 3) := by decide +kernel
theorem dX12_rate_77 : decode cX12_rate 77 = .ok (.ldc2_w 174, 3) := by decide +kernel
theorem dX12_rate_80 : decode cX12_rate 80 = .ok (.ladd, 1) := by decide +kernel
theorem dX12_rate_81 : decode cX12_rate 81 = .ok (.putfield 162, 3) := by decide +kernel
theorem dX12_rate_84 : decode cX12_rate 84 = .ok (.aload_n 0, 1) := by decide +kernel
theorem dX12_rate_85 : decode cX12_rate 85 = .ok (.getfield 13, 3) := by decide +kernel
theorem dX12_rate_88 : decode cX12_rate 88 = .ok (.iconst 4, 1) := by decide +kernel
theorem dX12_rate_89 : decode cX12_rate 89 = .ok (.iload_n 2, 1) := by decide +kernel
theorem dX12_rate_90 : decode cX12_rate 90 = .ok (.iadd, 1) := by decide +kernel
theorem dX12_rate_91 : decode cX12_rate 91 = .ok (.iaload, 1) := by decide +kernel
theorem dX12_rate_92 : decode cX12_rate 92 = .ok (.istore_n 3, 1) := by decide +kernel
theorem dX12_rate_93 : decode cX12_rate 93 = .ok (.iload_n 3, 1) := by decide +kernel
theorem dX12_rate_94 : decode cX12_rate 94 = .ok (.aload_n 0, 1) := by decide +kernel
theorem dX12_rate_95 : decode cX12_rate 95 = .ok (.getfield 13, 3) := by decide +kernel
theorem dX12_rate_98 : decode cX12_rate 98 = .ok (.bipush 9, 2) := by decide +kernel
theorem dX12_rate_100 : decode cX12_rate 100 = .ok (.iload_n 2, 1) := by decide +kernel
theorem dX12_rate_101 : decode cX12_rate 101 = .ok (.iadd, 1) := by decide +kernel
theorem dX12_rate_102 : decode cX12_rate 102 = .ok (.iaload, 1) := by decide +kernel
theorem dX12_rate_103 : decode cX12_rate 103 = .ok (.iadd, 1) := by decide +kernel
theorem dX12_rate_104 : decode cX12_rate 104 = .ok (.istore 4, 2) := by decide +kernel
theorem dX12_rate_106 : decode cX12_rate 106 = .ok (.iload_n 3, 1) := by decide +kernel
theorem dX12_rate_107 : decode cX12_rate 107 = .ok (.aload_n 0, 1) := by decide +kernel
theorem dX12_rate_108 : decode cX12_rate 108 = .ok (.aload_n 0, 1) := by decide +kernel
theorem dX12_rate_109 : decode cX12_rate 109 = .ok (.getfield 22, 3) := by decide +kernel
theorem dX12_rate_112 : decode cX12_rate 112 = .ok (.iload_n 2, 1) := by decide +kernel
theorem dX12_rate_113 : decode cX12_rate 113 = .ok (.iaload, 1) := by decide +kernel
theorem dX12_rate_114 : decode cX12_rate 114 = .ok (.invokevirtual 95, 3) := by decide +kernel
theorem dX12_rate_117 : decode cX12_rate 117 = .ok (.isub, 1) := by decide +kernel
theorem dX12_rate_118 : decode cX12_rate 118 = .ok (.istore 5, 2) := by decide +kernel
theorem dX12_rate_120 : decode cX12_rate 120 = .ok (.iload_n 1, 1) := by decide +kernel
theorem dX12_rate_121 : decode cX12_rate 121 = .ok (.ifCond .ne 7, 3) := by decide +kernel
theorem dX12_rate_124 : decode cX12_rate 124 = .ok (.iload_n 3, 1) := by decide +kernel
theorem dX12_rate_125 : decode cX12_rate 125 = .ok (.goto 56, 3) := by decide +kernel
theorem dX12_rate_128 : decode cX12_rate 128 = .ok (.iload_n 1, 1) := by decide +kernel
theorem dX12_rate_129 : decode cX12_rate 129 = .ok (.iconst 1, 1) := by decide +kernel
theorem dX12_rate_130 : decode cX12_rate 130 = .ok (.if_icmp .ne 8, 3) := by decide +kernel
theorem dX12_rate_133 : decode cX12_rate 133 = .ok (.iload 4, 2) := by decide +kernel
theorem dX12_rate_135 : decode cX12_rate 135 = .ok (.goto 46, 3) := by decide +kernel
theorem dX12_rate_138 : decode cX12_rate 138 = .ok (.iload_n 1, 1) := by decide +kernel
theorem dX12_rate_139 : decode cX12_rate 139 = .ok (.iconst 2, 1) := by decide +kernel
theorem dX12_rate_140 : decode cX12_rate 140 = .ok (.if_icmp .ne 8, 3) := by decide +kernel
theorem dX12_rate_143 : decode cX12_rate 143 = .ok (.iload 5, 2) := by decide +kernel
theorem dX12_rate_145 : decode cX12_rate 145 = .ok (.goto 36, 3) := by decide +kernel
theorem dX12_rate_148 : decode cX12_rate 148 = .ok (.iload_n 1, 1) := by decide +kernel
theorem dX12_rate_149 : decode cX12_rate 149 = .ok (.iconst 3, 1) := by decide +kernel
theorem dX12_rate_150 : decode cX12_rate 150 = .ok (.if_icmp .ne 10, 3) := by decide +kernel
theorem dX12_rate_153 : decode cX12_rate 153 = .ok (.iconst 2, 1) := by decide +kernel
theorem dX12_rate_154 : decode cX12_rate 154 = .ok (.iload 4, 2) := by decide +kernel
theorem dX12_rate_156 : decode cX12_rate 156 = .ok (.imul, 1) := by decide +kernel
theorem dX12_rate_157 : decode cX12_rate 157 = .ok (.goto 24, 3) := by decide +kernel
theorem dX12_rate_160 : decode cX12_rate 160 = .ok (.iload_n 1, 1) := by decide +kernel
theorem dX12_rate_161 : decode cX12_rate 161 = .ok (.iconst 4, 1) := by decide +kernel
theorem dX12_rate_162 : decode cX12_rate 162 = .ok (.if_icmp .ne 10, 3) := by decide +kernel
theorem dX12_rate_165 : decode cX12_rate 165 = .ok (.iload 5, 2) := by decide +kernel
theorem dX12_rate_167 : decode cX12_rate 167 = .ok (.iload_n 2, 1) := by decide +kernel
theorem dX12_rate_168 : decode cX12_rate 168 = .ok (.iadd, 1) := by decide +kernel
theorem dX12_rate_169 : decode cX12_rate 169 = .ok (.goto 12, 3) := by decide +kernel
theorem dX12_rate_172 : decode cX12_rate 172 = .ok (.iload_n 3, 1) := by decide +kernel
theorem dX12_rate_173 : decode cX12_rate 173 = .ok (.aload_n 0, 1) := by decide +kernel
theorem dX12_rate_174 : decode cX12_rate 174 = .ok (.getfield 22, 3) := by decide +kernel
theorem dX12_rate_177 : decode cX12_rate 177 = .ok (.bipush 42, 2) := by decide +kernel
theorem dX12_rate_179 : decode cX12_rate 179 = .ok (.iaload, 1) := by decide +kernel
theorem dX12_rate_180 : decode cX12_rate 180 = .ok (.iadd, 1) := by decide +kernel
theorem dX12_rate_181 : decode cX12_rate 181 = .ok (.ireturn, 1) := by decide +kernel
theorem dX12_keep_0 : decode cX12_keep 0 = .ok (.iload_n 1, 1) := by decide +kernel
theorem dX12_keep_1 : decode cX12_keep 1 = .ok (.iconst 0, 1) := by decide +kernel
theorem dX12_keep_2 : decode cX12_keep 2 = .ok (.iconst 1, 1) := by decide +kernel
theorem dX12_keep_3 : decode cX12_keep 3 = .ok (.invokestatic 48, 3) := by decide +kernel
theorem dX12_keep_6 : decode cX12_keep 6 = .ok (.ifCond .ne 5, 3) := by decide +kernel
theorem dX12_keep_9 : decode cX12_keep 9 = .ok (.iconst (-1), 1) := by decide +kernel
theorem dX12_keep_10 : decode cX12_keep 10 = .ok (.ireturn, 1) := by decide +kernel
theorem dX12_keep_11 : decode cX12_keep 11 = .ok (.iconst 0, 1) := by decide +kernel
theorem dX12_keep_12 : decode cX12_keep 12 = .ok (.istore_n 2, 1) := by decide +kernel
theorem dX12_keep_13 : decode cX12_keep 13 = .ok (.iload_n 2, 1) := by decide +kernel
theorem dX12_keep_14 : decode cX12_keep 14 = .ok (.bipush 44, 2) := by decide +kernel
theorem dX12_keep_16 : decode cX12_keep 16 = .ok (.if_icmp .ge 26, 3) := by decide +kernel
theorem dX12_keep_19 : decode cX12_keep 19 = .ok (.aload_n 0, 1) := by decide +kernel
theorem dX12_keep_20 : decode cX12_keep 20 = .ok (.getfield 28, 3) := by decide +kernel
theorem dX12_keep_23 : decode cX12_keep 23 = .ok (.bipush 44, 2) := by decide +kernel
theorem dX12_keep_25 : decode cX12_keep 25 = .ok (.iload_n 1, 1) := by decide +kernel
theorem dX12_keep_26 : decode cX12_keep 26 = .ok (.imul, 1) := by decide +kernel
theorem dX12_keep_27 : decode cX12_keep 27 = .ok (.iload_n 2, 1) := by decide +kernel
theorem dX12_keep_28 : decode cX12_keep 28 = .ok (.iadd, 1) := by decide +kernel
theorem dX12_keep_29 : decode cX12_keep 29 = .ok (.aload_n 0, 1) := by decide +kernel
theorem dX12_keep_30 : decode cX12_keep 30 = .ok (.getfield 22, 3) := by decide +kernel
theorem dX12_keep_33 : decode cX12_keep 33 = .ok (.iload_n 2, 1) := by decide +kernel
theorem dX12_keep_34 : decode cX12_keep 34 = .ok (.iaload, 1) := by decide +kernel
theorem dX12_keep_35 : decode cX12_keep 35 = .ok (.iastore, 1) := by decide +kernel
theorem dX12_keep_36 : decode cX12_keep 36 = .ok (.iinc 2 1, 3) := by decide +kernel
theorem dX12_keep_39 : decode cX12_keep 39 = .ok (.goto (-26), 3) := by decide +kernel
theorem dX12_keep_42 : decode cX12_keep 42 = .ok (.aload_n 0, 1) := by decide +kernel
theorem dX12_keep_43 : decode cX12_keep 43 = .ok (.getfield 31, 3) := by decide +kernel
theorem dX12_keep_46 : decode cX12_keep 46 = .ok (.iload_n 1, 1) := by decide +kernel
theorem dX12_keep_47 : decode cX12_keep 47 = .ok (.iconst 1, 1) := by decide +kernel
theorem dX12_keep_48 : decode cX12_keep 48 = .ok (.bastore, 1) := by decide +kernel
theorem dX12_keep_49 : decode cX12_keep 49 = .ok (.aload_n 0, 1) := by decide +kernel
theorem dX12_keep_50 : decode cX12_keep 50 = .ok (.getfield 22, 3) := by decide +kernel
theorem dX12_keep_53 : decode cX12_keep 53 = .ok (.bipush 41, 2) := by decide +kernel
theorem dX12_keep_55 : decode cX12_keep 55 = .ok (.iaload, 1) := by decide +kernel
theorem dX12_keep_56 : decode cX12_keep 56 = .ok (.ireturn, 1) := by decide +kernel
theorem dX12_back_0 : decode cX12_back 0 = .ok (.iload_n 1, 1) := by decide +kernel
theorem dX12_back_1 : decode cX12_back 1 = .ok (.iconst 0, 1) := by decide +kernel
theorem dX12_back_2 : decode cX12_back 2 = .ok (.iconst 1, 1) := by decide +kernel
theorem dX12_back_3 : decode cX12_back 3 = .ok (.invokestatic 48, 3) := by decide +kernel
theorem dX12_back_6 : decode cX12_back 6 = .ok (.ifCond .ne 5, 3) := by decide +kernel
theorem dX12_back_9 : decode cX12_back 9 = .ok (.iconst (-1), 1) := by decide +kernel
theorem dX12_back_10 : decode cX12_back 10 = .ok (.ireturn, 1) := by decide +kernel
theorem dX12_back_11 : decode cX12_back 11 = .ok (.aload_n 0, 1) := by decide +kernel
theorem dX12_back_12 : decode cX12_back 12 = .ok (.getfield 31, 3) := by decide +kernel
theorem dX12_back_15 : decode cX12_back 15 = .ok (.iload_n 1, 1) := by decide +kernel
theorem dX12_back_16 : decode cX12_back 16 = .ok (.baload, 1) := by decide +kernel
theorem dX12_back_17 : decode cX12_back 17 = .ok (.ifCond .ne 6, 3) := by decide +kernel
theorem dX12_back_20 : decode cX12_back 20 = .ok (.bipush (-2), 2) := by decide +kernel
theorem dX12_back_22 : decode cX12_back 22 = .ok (.ireturn, 1) := by decide +kernel
theorem dX12_back_23 : decode cX12_back 23 = .ok (.iconst 0, 1) := by decide +kernel
theorem dX12_back_24 : decode cX12_back 24 = .ok (.istore_n 2, 1) := by decide +kernel
theorem dX12_back_25 : decode cX12_back 25 = .ok (.iload_n 2, 1) := by decide +kernel
theorem dX12_back_26 : decode cX12_back 26 = .ok (.bipush 44, 2) := by decide +kernel
theorem dX12_back_28 : decode cX12_back 28 = .ok (.if_icmp .ge 26, 3) := by decide +kernel
theorem dX12_back_31 : decode cX12_back 31 = .ok (.aload_n 0, 1) := by decide +kernel
theorem dX12_back_32 : decode cX12_back 32 = .ok (.getfield 22, 3) := by decide +kernel
theorem dX12_back_35 : decode cX12_back 35 = .ok (.iload_n 2, 1) := by decide +kernel
theorem dX12_back_36 : decode cX12_back 36 = .ok (.aload_n 0, 1) := by decide +kernel
theorem dX12_back_37 : decode cX12_back 37 = .ok (.getfield 28, 3) := by decide +kernel
theorem dX12_back_40 : decode cX12_back 40 = .ok (.bipush 44, 2) := by decide +kernel
theorem dX12_back_42 : decode cX12_back 42 = .ok (.iload_n 1, 1) := by decide +kernel
theorem dX12_back_43 : decode cX12_back 43 = .ok (.imul, 1) := by decide +kernel
theorem dX12_back_44 : decode cX12_back 44 = .ok (.iload_n 2, 1) := by decide +kernel
theorem dX12_back_45 : decode cX12_back 45 = .ok (.iadd, 1) := by decide +kernel
theorem dX12_back_46 : decode cX12_back 46 = .ok (.iaload, 1) := by decide +kernel
theorem dX12_back_47 : decode cX12_back 47 = .ok (.iastore, 1) := by decide +kernel
theorem dX12_back_48 : decode cX12_back 48 = .ok (.iinc 2 1, 3) := by decide +kernel
theorem dX12_back_51 : decode cX12_back 51 = .ok (.goto (-26), 3) := by decide +kernel
theorem dX12_back_54 : decode cX12_back 54 = .ok (.aload_n 0, 1) := by decide +kernel
theorem dX12_back_55 : decode cX12_back 55 = .ok (.iconst 0, 1) := by decide +kernel
theorem dX12_back_56 : decode cX12_back 56 = .ok (.putfield 89, 3) := by decide +kernel
theorem dX12_back_59 : decode cX12_back 59 = .ok (.aload_n 0, 1) := by decide +kernel
theorem dX12_back_60 : decode cX12_back 60 = .ok (.getfield 22, 3) := by decide +kernel
theorem dX12_back_63 : decode cX12_back 63 = .ok (.bipush 41, 2) := by decide +kernel
theorem dX12_back_65 : decode cX12_back 65 = .ok (.iaload, 1) := by decide +kernel
theorem dX12_back_66 : decode cX12_back 66 = .ok (.ireturn, 1) := by decide +kernel
theorem dX12_count_0 : decode cX12_count 0 = .ok (.iload_n 1, 1) := by decide +kernel
theorem dX12_count_1 : decode cX12_count 1 = .ok (.tableswitch 55 0 3 #[31, 38, 45, 50], 31) := by decide +kernel
theorem dX12_count_32 : decode cX12_count 32 = .ok (.aload_n 0, 1) := by decide +kernel
theorem dX12_count_33 : decode cX12_count 33 = .ok (.getfield 13, 3) := by decide +kernel
theorem dX12_count_36 : decode cX12_count 36 = .ok (.iconst 0, 1) := by decide +kernel
theorem dX12_count_37 : decode cX12_count 37 = .ok (.iaload, 1) := by decide +kernel
theorem dX12_count_38 : decode cX12_count 38 = .ok (.ireturn, 1) := by decide +kernel
theorem dX12_count_39 : decode cX12_count 39 = .ok (.aload_n 0, 1) := by decide +kernel
theorem dX12_count_40 : decode cX12_count 40 = .ok (.getfield 13, 3) := by decide +kernel
theorem dX12_count_43 : decode cX12_count 43 = .ok (.iconst 1, 1) := by decide +kernel
theorem dX12_count_44 : decode cX12_count 44 = .ok (.iaload, 1) := by decide +kernel
theorem dX12_count_45 : decode cX12_count 45 = .ok (.ireturn, 1) := by decide +kernel
theorem dX12_count_46 : decode cX12_count 46 = .ok (.aload_n 0, 1) := by decide +kernel
theorem dX12_count_47 : decode cX12_count 47 = .ok (.getfield 92, 3) := by decide +kernel
theorem dX12_count_50 : decode cX12_count 50 = .ok (.ireturn, 1) := by decide +kernel
theorem dX12_count_51 : decode cX12_count 51 = .ok (.aload_n 0, 1) := by decide +kernel
theorem dX12_count_52 : decode cX12_count 52 = .ok (.getfield 52, 3) := by decide +kernel
theorem dX12_count_55 : decode cX12_count 55 = .ok (.ireturn, 1) := by decide +kernel
theorem dX12_count_56 : decode cX12_count 56 = .ok (.iconst (-1), 1) := by decide +kernel
theorem dX12_count_57 : decode cX12_count 57 = .ok (.ireturn, 1) := by decide +kernel
theorem dX12_trace_0 : decode cX12_trace 0 = .ok (.aload_n 0, 1) := by decide +kernel
theorem dX12_trace_1 : decode cX12_trace 1 = .ok (.getfield 162, 3) := by decide +kernel
theorem dX12_trace_4 : decode cX12_trace 4 = .ok (.lreturn, 1) := by decide +kernel
theorem dJ9_abs_0f7a4_0 : decode cJ9_abs_0f7a4 0 = .ok (.iload_n 0, 1) := by decide +kernel
theorem dJ9_abs_0f7a4_1 : decode cJ9_abs_0f7a4 1 = .ok (.ifCond .ge 8, 3) := by decide +kernel
theorem dJ9_abs_0f7a4_4 : decode cJ9_abs_0f7a4 4 = .ok (.iload_n 0, 1) := by decide +kernel
theorem dJ9_abs_0f7a4_5 : decode cJ9_abs_0f7a4 5 = .ok (.ineg, 1) := by decide +kernel
theorem dJ9_abs_0f7a4_6 : decode cJ9_abs_0f7a4 6 = .ok (.goto 4, 3) := by decide +kernel
theorem dJ9_abs_0f7a4_9 : decode cJ9_abs_0f7a4 9 = .ok (.iload_n 0, 1) := by decide +kernel
theorem dJ9_abs_0f7a4_10 : decode cJ9_abs_0f7a4 10 = .ok (.ireturn, 1) := by decide +kernel
theorem dJ9_max_7cf53_0 : decode cJ9_max_7cf53 0 = .ok (.iload_n 0, 1) := by decide +kernel
theorem dJ9_max_7cf53_1 : decode cJ9_max_7cf53 1 = .ok (.iload_n 1, 1) := by decide +kernel
theorem dJ9_max_7cf53_2 : decode cJ9_max_7cf53 2 = .ok (.if_icmp .lt 7, 3) := by decide +kernel
theorem dJ9_max_7cf53_5 : decode cJ9_max_7cf53 5 = .ok (.iload_n 0, 1) := by decide +kernel
theorem dJ9_max_7cf53_6 : decode cJ9_max_7cf53 6 = .ok (.goto 4, 3) := by decide +kernel
theorem dJ9_max_7cf53_9 : decode cJ9_max_7cf53 9 = .ok (.iload_n 1, 1) := by decide +kernel
theorem dJ9_max_7cf53_10 : decode cJ9_max_7cf53 10 = .ok (.ireturn, 1) := by decide +kernel
theorem dJ9_min_7cf53_0 : decode cJ9_min_7cf53 0 = .ok (.iload_n 0, 1) := by decide +kernel
theorem dJ9_min_7cf53_1 : decode cJ9_min_7cf53 1 = .ok (.iload_n 1, 1) := by decide +kernel
theorem dJ9_min_7cf53_2 : decode cJ9_min_7cf53 2 = .ok (.if_icmp .gt 7, 3) := by decide +kernel
theorem dJ9_min_7cf53_5 : decode cJ9_min_7cf53 5 = .ok (.iload_n 0, 1) := by decide +kernel
theorem dJ9_min_7cf53_6 : decode cJ9_min_7cf53 6 = .ok (.goto 4, 3) := by decide +kernel
theorem dJ9_min_7cf53_9 : decode cJ9_min_7cf53 9 = .ok (.iload_n 1, 1) := by decide +kernel
theorem dJ9_min_7cf53_10 : decode cJ9_min_7cf53 10 = .ok (.ireturn, 1) := by decide +kernel
theorem dJ7_fill_53178_0 : decode cJ7_fill_53178 0 = .ok (.iconst 0, 1) := by decide +kernel
theorem dJ7_fill_53178_1 : decode cJ7_fill_53178 1 = .ok (.istore_n 2, 1) := by decide +kernel
theorem dJ7_fill_53178_2 : decode cJ7_fill_53178 2 = .ok (.aload_n 0, 1) := by decide +kernel
theorem dJ7_fill_53178_3 : decode cJ7_fill_53178 3 = .ok (.arraylength, 1) := by decide +kernel
theorem dJ7_fill_53178_4 : decode cJ7_fill_53178 4 = .ok (.istore_n 3, 1) := by decide +kernel
theorem dJ7_fill_53178_5 : decode cJ7_fill_53178 5 = .ok (.iload_n 2, 1) := by decide +kernel
theorem dJ7_fill_53178_6 : decode cJ7_fill_53178 6 = .ok (.iload_n 3, 1) := by decide +kernel
theorem dJ7_fill_53178_7 : decode cJ7_fill_53178 7 = .ok (.if_icmp .ge 13, 3) := by decide +kernel
theorem dJ7_fill_53178_10 : decode cJ7_fill_53178 10 = .ok (.aload_n 0, 1) := by decide +kernel
theorem dJ7_fill_53178_11 : decode cJ7_fill_53178 11 = .ok (.iload_n 2, 1) := by decide +kernel
theorem dJ7_fill_53178_12 : decode cJ7_fill_53178 12 = .ok (.iload_n 1, 1) := by decide +kernel
theorem dJ7_fill_53178_13 : decode cJ7_fill_53178 13 = .ok (.iastore, 1) := by decide +kernel
theorem dJ7_fill_53178_14 : decode cJ7_fill_53178 14 = .ok (.iinc 2 1, 3) := by decide +kernel
theorem dJ7_fill_53178_17 : decode cJ7_fill_53178 17 = .ok (.goto (-12), 3) := by decide +kernel
theorem dJ7_fill_53178_20 : decode cJ7_fill_53178 20 = .ok (.return_, 1) := by decide +kernel
theorem dL_law_0 : decode cL_law 0 = .ok (.new 7, 3) := by decide +kernel
theorem dL_law_3 : decode cL_law 3 = .ok (.dup, 1) := by decide +kernel
theorem dL_law_4 : decode cL_law 4 = .ok (.invokespecial 9, 3) := by decide +kernel
theorem dL_law_7 : decode cL_law 7 = .ok (.astore_n 1, 1) := by decide +kernel
theorem dL_law_8 : decode cL_law 8 = .ok (.new 10, 3) := by decide +kernel
theorem dL_law_11 : decode cL_law 11 = .ok (.dup, 1) := by decide +kernel
theorem dL_law_12 : decode cL_law 12 = .ok (.invokespecial 12, 3) := by decide +kernel
theorem dL_law_15 : decode cL_law 15 = .ok (.astore_n 2, 1) := by decide +kernel
theorem dL_law_16 : decode cL_law 16 = .ok (.iconst 0, 1) := by decide +kernel
theorem dL_law_17 : decode cL_law 17 = .ok (.istore_n 3, 1) := by decide +kernel
theorem dL_law_18 : decode cL_law 18 = .ok (.iload_n 3, 1) := by decide +kernel
theorem dL_law_19 : decode cL_law 19 = .ok (.aload_n 0, 1) := by decide +kernel
theorem dL_law_20 : decode cL_law 20 = .ok (.arraylength, 1) := by decide +kernel
theorem dL_law_21 : decode cL_law 21 = .ok (.iconst 5, 1) := by decide +kernel
theorem dL_law_22 : decode cL_law 22 = .ok (.isub, 1) := by decide +kernel
theorem dL_law_23 : decode cL_law 23 = .ok (.if_icmp .gt 767, 3) := by decide +kernel
theorem dL_law_26 : decode cL_law 26 = .ok (.aload_n 0, 1) := by decide +kernel
theorem dL_law_27 : decode cL_law 27 = .ok (.iload_n 3, 1) := by decide +kernel
theorem dL_law_28 : decode cL_law 28 = .ok (.iaload, 1) := by decide +kernel
theorem dL_law_29 : decode cL_law 29 = .ok (.bipush 31, 2) := by decide +kernel
theorem dL_law_31 : decode cL_law 31 = .ok (.iand, 1) := by decide +kernel
theorem dL_law_32 : decode cL_law 32 = .ok (.tableswitch 752 0 24 #[116, 139, 152, 165, 198, 231, 254, 287, 320, 333, 366, 389, 402, 435, 468, 501, 554, 587, 600, 623, 636, 669, 692, 715, 738], 116) := by decide +kernel
theorem dL_law_148 : decode cL_law 148 = .ok (.aload_n 1, 1) := by decide +kernel
theorem dL_law_149 : decode cL_law 149 = .ok (.aload_n 0, 1) := by decide +kernel
theorem dL_law_150 : decode cL_law 150 = .ok (.iload_n 3, 1) := by decide +kernel
theorem dL_law_151 : decode cL_law 151 = .ok (.iconst 1, 1) := by decide +kernel
theorem dL_law_152 : decode cL_law 152 = .ok (.iadd, 1) := by decide +kernel
theorem dL_law_153 : decode cL_law 153 = .ok (.iaload, 1) := by decide +kernel
theorem dL_law_154 : decode cL_law 154 = .ok (.invokevirtual 13, 3) := by decide +kernel
theorem dL_law_157 : decode cL_law 157 = .ok (.aload_n 2, 1) := by decide +kernel
theorem dL_law_158 : decode cL_law 158 = .ok (.aload_n 0, 1) := by decide +kernel
theorem dL_law_159 : decode cL_law 159 = .ok (.iload_n 3, 1) := by decide +kernel
theorem dL_law_160 : decode cL_law 160 = .ok (.iconst 1, 1) := by decide +kernel
theorem dL_law_161 : decode cL_law 161 = .ok (.iadd, 1) := by decide +kernel
theorem dL_law_162 : decode cL_law 162 = .ok (.iaload, 1) := by decide +kernel
theorem dL_law_163 : decode cL_law 163 = .ok (.invokevirtual 17, 3) := by decide +kernel
theorem dL_law_166 : decode cL_law 166 = .ok (.if_icmp .eq 618, 3) := by decide +kernel
theorem dL_law_169 : decode cL_law 169 = .ok (.iconst 0, 1) := by decide +kernel
theorem dL_law_170 : decode cL_law 170 = .ok (.ireturn, 1) := by decide +kernel
theorem dL_law_171 : decode cL_law 171 = .ok (.aload_n 1, 1) := by decide +kernel
theorem dL_law_172 : decode cL_law 172 = .ok (.invokevirtual 18, 3) := by decide +kernel
theorem dL_law_175 : decode cL_law 175 = .ok (.aload_n 2, 1) := by decide +kernel
theorem dL_law_176 : decode cL_law 176 = .ok (.invokevirtual 22, 3) := by decide +kernel
theorem dL_law_179 : decode cL_law 179 = .ok (.if_icmp .eq 605, 3) := by decide +kernel
theorem dL_law_182 : decode cL_law 182 = .ok (.iconst 0, 1) := by decide +kernel
theorem dL_law_183 : decode cL_law 183 = .ok (.ireturn, 1) := by decide +kernel
theorem dL_law_184 : decode cL_law 184 = .ok (.aload_n 1, 1) := by decide +kernel
theorem dL_law_185 : decode cL_law 185 = .ok (.invokevirtual 23, 3) := by decide +kernel
theorem dL_law_188 : decode cL_law 188 = .ok (.aload_n 2, 1) := by decide +kernel
theorem dL_law_189 : decode cL_law 189 = .ok (.invokevirtual 26, 3) := by decide +kernel
theorem dL_law_192 : decode cL_law 192 = .ok (.if_icmp .eq 592, 3) := by decide +kernel
theorem dL_law_195 : decode cL_law 195 = .ok (.iconst 0, 1) := by decide +kernel
theorem dL_law_196 : decode cL_law 196 = .ok (.ireturn, 1) := by decide +kernel
theorem dL_law_197 : decode cL_law 197 = .ok (.aload_n 1, 1) := by decide +kernel
theorem dL_law_198 : decode cL_law 198 = .ok (.aload_n 0, 1) := by decide +kernel
theorem dL_law_199 : decode cL_law 199 = .ok (.iload_n 3, 1) := by decide +kernel
theorem dL_law_200 : decode cL_law 200 = .ok (.iconst 1, 1) := by decide +kernel
theorem dL_law_201 : decode cL_law 201 = .ok (.iadd, 1) := by decide +kernel
theorem dL_law_202 : decode cL_law 202 = .ok (.iaload, 1) := by decide +kernel
theorem dL_law_203 : decode cL_law 203 = .ok (.aload_n 0, 1) := by decide +kernel
theorem dL_law_204 : decode cL_law 204 = .ok (.iload_n 3, 1) := by decide +kernel
theorem dL_law_205 : decode cL_law 205 = .ok (.iconst 2, 1) := by decide +kernel
theorem dL_law_206 : decode cL_law 206 = .ok (.iadd, 1) := by decide +kernel
theorem dL_law_207 : decode cL_law 207 = .ok (.iaload, 1) := by decide +kernel
theorem dL_law_208 : decode cL_law 208 = .ok (.invokevirtual 27, 3) := by decide +kernel
theorem dL_law_211 : decode cL_law 211 = .ok (.aload_n 2, 1) := by decide +kernel
theorem dL_law_212 : decode cL_law 212 = .ok (.aload_n 0, 1) := by decide +kernel
theorem dL_law_213 : decode cL_law 213 = .ok (.iload_n 3, 1) := by decide +kernel
theorem dL_law_214 : decode cL_law 214 = .ok (.iconst 1, 1) := by decide +kernel
theorem dL_law_215 : decode cL_law 215 = .ok (.iadd, 1) := by decide +kernel
theorem dL_law_216 : decode cL_law 216 = .ok (.iaload, 1) := by decide +kernel
theorem dL_law_217 : decode cL_law 217 = .ok (.aload_n 0, 1) := by decide +kernel
theorem dL_law_218 : decode cL_law 218 = .ok (.iload_n 3, 1) := by decide +kernel
theorem dL_law_219 : decode cL_law 219 = .ok (.iconst 2, 1) := by decide +kernel
theorem dL_law_220 : decode cL_law 220 = .ok (.iadd, 1) := by decide +kernel
theorem dL_law_221 : decode cL_law 221 = .ok (.iaload, 1) := by decide +kernel
theorem dL_law_222 : decode cL_law 222 = .ok (.invokevirtual 31, 3) := by decide +kernel
theorem dL_law_225 : decode cL_law 225 = .ok (.if_icmp .eq 559, 3) := by decide +kernel
theorem dL_law_228 : decode cL_law 228 = .ok (.iconst 0, 1) := by decide +kernel
theorem dL_law_229 : decode cL_law 229 = .ok (.ireturn, 1) := by decide +kernel
theorem dL_law_230 : decode cL_law 230 = .ok (.aload_n 1, 1) := by decide +kernel
theorem dL_law_231 : decode cL_law 231 = .ok (.aload_n 0, 1) := by decide +kernel
theorem dL_law_232 : decode cL_law 232 = .ok (.iload_n 3, 1) := by decide +kernel
theorem dL_law_233 : decode cL_law 233 = .ok (.iconst 1, 1) := by decide +kernel
theorem dL_law_234 : decode cL_law 234 = .ok (.iadd, 1) := by decide +kernel
theorem dL_law_235 : decode cL_law 235 = .ok (.iaload, 1) := by decide +kernel
theorem dL_law_236 : decode cL_law 236 = .ok (.aload_n 0, 1) := by decide +kernel
theorem dL_law_237 : decode cL_law 237 = .ok (.iload_n 3, 1) := by decide +kernel
theorem dL_law_238 : decode cL_law 238 = .ok (.iconst 2, 1) := by decide +kernel
theorem dL_law_239 : decode cL_law 239 = .ok (.iadd, 1) := by decide +kernel
theorem dL_law_240 : decode cL_law 240 = .ok (.iaload, 1) := by decide +kernel
theorem dL_law_241 : decode cL_law 241 = .ok (.invokevirtual 32, 3) := by decide +kernel
theorem dL_law_244 : decode cL_law 244 = .ok (.aload_n 2, 1) := by decide +kernel
theorem dL_law_245 : decode cL_law 245 = .ok (.aload_n 0, 1) := by decide +kernel
theorem dL_law_246 : decode cL_law 246 = .ok (.iload_n 3, 1) := by decide +kernel
theorem dL_law_247 : decode cL_law 247 = .ok (.iconst 1, 1) := by decide +kernel
theorem dL_law_248 : decode cL_law 248 = .ok (.iadd, 1) := by decide +kernel
theorem dL_law_249 : decode cL_law 249 = .ok (.iaload, 1) := by decide +kernel
theorem dL_law_250 : decode cL_law 250 = .ok (.aload_n 0, 1) := by decide +kernel
theorem dL_law_251 : decode cL_law 251 = .ok (.iload_n 3, 1) := by decide +kernel
theorem dL_law_252 : decode cL_law 252 = .ok (.iconst 2, 1) := by decide +kernel
theorem dL_law_253 : decode cL_law 253 = .ok (.iadd, 1) := by decide +kernel
theorem dL_law_254 : decode cL_law 254 = .ok (.iaload, 1) := by decide +kernel
theorem dL_law_255 : decode cL_law 255 = .ok (.invokevirtual 35, 3) := by decide +kernel
theorem dL_law_258 : decode cL_law 258 = .ok (.if_icmp .eq 526, 3) := by decide +kernel
theorem dL_law_261 : decode cL_law 261 = .ok (.iconst 0, 1) := by decide +kernel
theorem dL_law_262 : decode cL_law 262 = .ok (.ireturn, 1) := by decide +kernel
theorem dL_law_263 : decode cL_law 263 = .ok (.aload_n 1, 1) := by decide +kernel
theorem dL_law_264 : decode cL_law 264 = .ok (.aload_n 0, 1) := by decide +kernel
theorem dL_law_265 : decode cL_law 265 = .ok (.iload_n 3, 1) := by decide +kernel
theorem dL_law_266 : decode cL_law 266 = .ok (.iconst 1, 1) := by decide +kernel
theorem dL_law_267 : decode cL_law 267 = .ok (.iadd, 1) := by decide +kernel
theorem dL_law_268 : decode cL_law 268 = .ok (.iaload, 1) := by decide +kernel
theorem dL_law_269 : decode cL_law 269 = .ok (.invokevirtual 36, 3) := by decide +kernel
theorem dL_law_272 : decode cL_law 272 = .ok (.aload_n 2, 1) := by decide +kernel
theorem dL_law_273 : decode cL_law 273 = .ok (.aload_n 0, 1) := by decide +kernel
theorem dL_law_274 : decode cL_law 274 = .ok (.iload_n 3, 1) := by decide +kernel
theorem dL_law_275 : decode cL_law 275 = .ok (.iconst 1, 1) := by decide +kernel
theorem dL_law_276 : decode cL_law 276 = .ok (.iadd, 1) := by decide +kernel
theorem dL_law_277 : decode cL_law 277 = .ok (.iaload, 1) := by decide +kernel
theorem dL_law_278 : decode cL_law 278 = .ok (.invokevirtual 39, 3) := by decide +kernel
theorem dL_law_281 : decode cL_law 281 = .ok (.if_icmp .eq 503, 3) := by decide +kernel
theorem dL_law_284 : decode cL_law 284 = .ok (.iconst 0, 1) := by decide +kernel
theorem dL_law_285 : decode cL_law 285 = .ok (.ireturn, 1) := by decide +kernel
theorem dL_law_286 : decode cL_law 286 = .ok (.aload_n 1, 1) := by decide +kernel
theorem dL_law_287 : decode cL_law 287 = .ok (.aload_n 0, 1) := by decide +kernel
theorem dL_law_288 : decode cL_law 288 = .ok (.iload_n 3, 1) := by decide +kernel
theorem dL_law_289 : decode cL_law 289 = .ok (.iconst 1, 1) := by decide +kernel
theorem dL_law_290 : decode cL_law 290 = .ok (.iadd, 1) := by decide +kernel
theorem dL_law_291 : decode cL_law 291 = .ok (.iaload, 1) := by decide +kernel
theorem dL_law_292 : decode cL_law 292 = .ok (.aload_n 0, 1) := by decide +kernel
theorem dL_law_293 : decode cL_law 293 = .ok (.iload_n 3, 1) := by decide +kernel
theorem dL_law_294 : decode cL_law 294 = .ok (.iconst 2, 1) := by decide +kernel
theorem dL_law_295 : decode cL_law 295 = .ok (.iadd, 1) := by decide +kernel
theorem dL_law_296 : decode cL_law 296 = .ok (.iaload, 1) := by decide +kernel
theorem dL_law_297 : decode cL_law 297 = .ok (.invokevirtual 40, 3) := by decide +kernel
theorem dL_law_300 : decode cL_law 300 = .ok (.aload_n 2, 1) := by decide +kernel
theorem dL_law_301 : decode cL_law 301 = .ok (.aload_n 0, 1) := by decide +kernel
theorem dL_law_302 : decode cL_law 302 = .ok (.iload_n 3, 1) := by decide +kernel
theorem dL_law_303 : decode cL_law 303 = .ok (.iconst 1, 1) := by decide +kernel
theorem dL_law_304 : decode cL_law 304 = .ok (.iadd, 1) := by decide +kernel
theorem dL_law_305 : decode cL_law 305 = .ok (.iaload, 1) := by decide +kernel
theorem dL_law_306 : decode cL_law 306 = .ok (.aload_n 0, 1) := by decide +kernel
theorem dL_law_307 : decode cL_law 307 = .ok (.iload_n 3, 1) := by decide +kernel
theorem dL_law_308 : decode cL_law 308 = .ok (.iconst 2, 1) := by decide +kernel
theorem dL_law_309 : decode cL_law 309 = .ok (.iadd, 1) := by decide +kernel
theorem dL_law_310 : decode cL_law 310 = .ok (.iaload, 1) := by decide +kernel
theorem dL_law_311 : decode cL_law 311 = .ok (.invokevirtual 43, 3) := by decide +kernel
theorem dL_law_314 : decode cL_law 314 = .ok (.if_icmp .eq 470, 3) := by decide +kernel
theorem dL_law_317 : decode cL_law 317 = .ok (.iconst 0, 1) := by decide +kernel
theorem dL_law_318 : decode cL_law 318 = .ok (.ireturn, 1) := by decide +kernel
theorem dL_law_319 : decode cL_law 319 = .ok (.aload_n 1, 1) := by decide +kernel
theorem dL_law_320 : decode cL_law 320 = .ok (.aload_n 0, 1) := by decide +kernel
theorem dL_law_321 : decode cL_law 321 = .ok (.iload_n 3, 1) := by decide +kernel
theorem dL_law_322 : decode cL_law 322 = .ok (.iconst 1, 1) := by decide +kernel
theorem dL_law_323 : decode cL_law 323 = .ok (.iadd, 1) := by decide +kernel
theorem dL_law_324 : decode cL_law 324 = .ok (.iaload, 1) := by decide +kernel
theorem dL_law_325 : decode cL_law 325 = .ok (.aload_n 0, 1) := by decide +kernel
theorem dL_law_326 : decode cL_law 326 = .ok (.iload_n 3, 1) := by decide +kernel
theorem dL_law_327 : decode cL_law 327 = .ok (.iconst 2, 1) := by decide +kernel
theorem dL_law_328 : decode cL_law 328 = .ok (.iadd, 1) := by decide +kernel
theorem dL_law_329 : decode cL_law 329 = .ok (.iaload, 1) := by decide +kernel
theorem dL_law_330 : decode cL_law 330 = .ok (.invokevirtual 44, 3) := by decide +kernel
theorem dL_law_333 : decode cL_law 333 = .ok (.aload_n 2, 1) := by decide +kernel
theorem dL_law_334 : decode cL_law 334 = .ok (.aload_n 0, 1) := by decide +kernel
theorem dL_law_335 : decode cL_law 335 = .ok (.iload_n 3, 1) := by decide +kernel
theorem dL_law_336 : decode cL_law 336 = .ok (.iconst 1, 1) := by decide +kernel
theorem dL_law_337 : decode cL_law 337 = .ok (.iadd, 1) := by decide +kernel
theorem dL_law_338 : decode cL_law 338 = .ok (.iaload, 1) := by decide +kernel
theorem dL_law_339 : decode cL_law 339 = .ok (.aload_n 0, 1) := by decide +kernel
theorem dL_law_340 : decode cL_law 340 = .ok (.iload_n 3, 1) := by decide +kernel
theorem dL_law_341 : decode cL_law 341 = .ok (.iconst 2, 1) := by decide +kernel
theorem dL_law_342 : decode cL_law 342 = .ok (.iadd, 1) := by decide +kernel
theorem dL_law_343 : decode cL_law 343 = .ok (.iaload, 1) := by decide +kernel
theorem dL_law_344 : decode cL_law 344 = .ok (.invokevirtual 47, 3) := by decide +kernel
theorem dL_law_347 : decode cL_law 347 = .ok (.if_icmp .eq 437, 3) := by decide +kernel
theorem dL_law_350 : decode cL_law 350 = .ok (.iconst 0, 1) := by decide +kernel
theorem dL_law_351 : decode cL_law 351 = .ok (.ireturn, 1) := by decide +kernel
theorem dL_law_352 : decode cL_law 352 = .ok (.aload_n 1, 1) := by decide +kernel
theorem dL_law_353 : decode cL_law 353 = .ok (.invokevirtual 48, 3) := by decide +kernel
theorem dL_law_356 : decode cL_law 356 = .ok (.aload_n 2, 1) := by decide +kernel
theorem dL_law_357 : decode cL_law 357 = .ok (.invokevirtual 51, 3) := by decide +kernel
theorem dL_law_360 : decode cL_law 360 = .ok (.if_icmp .eq 424, 3) := by decide +kernel
theorem dL_law_363 : decode cL_law 363 = .ok (.iconst 0, 1) := by decide +kernel
theorem dL_law_364 : decode cL_law 364 = .ok (.ireturn, 1) := by decide +kernel
theorem dL_law_365 : decode cL_law 365 = .ok (.aload_n 1, 1) := by decide +kernel
theorem dL_law_366 : decode cL_law 366 = .ok (.aload_n 0, 1) := by decide +kernel
theorem dL_law_367 : decode cL_law 367 = .ok (.iload_n 3, 1) := by decide +kernel
theorem dL_law_368 : decode cL_law 368 = .ok (.iconst 1, 1) := by decide +kernel
theorem dL_law_369 : decode cL_law 369 = .ok (.iadd, 1) := by decide +kernel
theorem dL_law_370 : decode cL_law 370 = .ok (.iaload, 1) := by decide +kernel
theorem dL_law_371 : decode cL_law 371 = .ok (.aload_n 0, 1) := by decide +kernel
theorem dL_law_372 : decode cL_law 372 = .ok (.iload_n 3, 1) := by decide +kernel
theorem dL_law_373 : decode cL_law 373 = .ok (.iconst 2, 1) := by decide +kernel
theorem dL_law_374 : decode cL_law 374 = .ok (.iadd, 1) := by decide +kernel
theorem dL_law_375 : decode cL_law 375 = .ok (.iaload, 1) := by decide +kernel
theorem dL_law_376 : decode cL_law 376 = .ok (.invokevirtual 52, 3) := by decide +kernel
theorem dL_law_379 : decode cL_law 379 = .ok (.aload_n 2, 1) := by decide +kernel
theorem dL_law_380 : decode cL_law 380 = .ok (.aload_n 0, 1) := by decide +kernel
theorem dL_law_381 : decode cL_law 381 = .ok (.iload_n 3, 1) := by decide +kernel
theorem dL_law_382 : decode cL_law 382 = .ok (.iconst 1, 1) := by decide +kernel
theorem dL_law_383 : decode cL_law 383 = .ok (.iadd, 1) := by decide +kernel
theorem dL_law_384 : decode cL_law 384 = .ok (.iaload, 1) := by decide +kernel
theorem dL_law_385 : decode cL_law 385 = .ok (.aload_n 0, 1) := by decide +kernel
theorem dL_law_386 : decode cL_law 386 = .ok (.iload_n 3, 1) := by decide +kernel
theorem dL_law_387 : decode cL_law 387 = .ok (.iconst 2, 1) := by decide +kernel
theorem dL_law_388 : decode cL_law 388 = .ok (.iadd, 1) := by decide +kernel
theorem dL_law_389 : decode cL_law 389 = .ok (.iaload, 1) := by decide +kernel
theorem dL_law_390 : decode cL_law 390 = .ok (.invokevirtual 55, 3) := by decide +kernel
theorem dL_law_393 : decode cL_law 393 = .ok (.if_icmp .eq 391, 3) := by decide +kernel
theorem dL_law_396 : decode cL_law 396 = .ok (.iconst 0, 1) := by decide +kernel
theorem dL_law_397 : decode cL_law 397 = .ok (.ireturn, 1) := by decide +kernel
theorem dL_law_398 : decode cL_law 398 = .ok (.aload_n 1, 1) := by decide +kernel
theorem dL_law_399 : decode cL_law 399 = .ok (.aload_n 0, 1) := by decide +kernel
theorem dL_law_400 : decode cL_law 400 = .ok (.iload_n 3, 1) := by decide +kernel
theorem dL_law_401 : decode cL_law 401 = .ok (.iconst 1, 1) := by decide +kernel
theorem dL_law_402 : decode cL_law 402 = .ok (.iadd, 1) := by decide +kernel
theorem dL_law_403 : decode cL_law 403 = .ok (.iaload, 1) := by decide +kernel
theorem dL_law_404 : decode cL_law 404 = .ok (.invokevirtual 56, 3) := by decide +kernel
theorem dL_law_407 : decode cL_law 407 = .ok (.aload_n 2, 1) := by decide +kernel
theorem dL_law_408 : decode cL_law 408 = .ok (.aload_n 0, 1) := by decide +kernel
theorem dL_law_409 : decode cL_law 409 = .ok (.iload_n 3, 1) := by decide +kernel
theorem dL_law_410 : decode cL_law 410 = .ok (.iconst 1, 1) := by decide +kernel
theorem dL_law_411 : decode cL_law 411 = .ok (.iadd, 1) := by decide +kernel
theorem dL_law_412 : decode cL_law 412 = .ok (.iaload, 1) := by decide +kernel
theorem dL_law_413 : decode cL_law 413 = .ok (.invokevirtual 59, 3) := by decide +kernel
theorem dL_law_416 : decode cL_law 416 = .ok (.if_icmp .eq 368, 3) := by decide +kernel
theorem dL_law_419 : decode cL_law 419 = .ok (.iconst 0, 1) := by decide +kernel
theorem dL_law_420 : decode cL_law 420 = .ok (.ireturn, 1) := by decide +kernel
theorem dL_law_421 : decode cL_law 421 = .ok (.aload_n 1, 1) := by decide +kernel
theorem dL_law_422 : decode cL_law 422 = .ok (.invokevirtual 60, 3) := by decide +kernel
theorem dL_law_425 : decode cL_law 425 = .ok (.aload_n 2, 1) := by decide +kernel
theorem dL_law_426 : decode cL_law 426 = .ok (.invokevirtual 63, 3) := by decide +kernel
theorem dL_law_429 : decode cL_law 429 = .ok (.if_icmp .eq 355, 3) := by decide +kernel
theorem dL_law_432 : decode cL_law 432 = .ok (.iconst 0, 1) := by decide +kernel
theorem dL_law_433 : decode cL_law 433 = .ok (.ireturn, 1) := by decide +kernel
theorem dL_law_434 : decode cL_law 434 = .ok (.aload_n 1, 1) := by decide +kernel
theorem dL_law_435 : decode cL_law 435 = .ok (.aload_n 0, 1) := by decide +kernel
theorem dL_law_436 : decode cL_law 436 = .ok (.iload_n 3, 1) := by decide +kernel
theorem dL_law_437 : decode cL_law 437 = .ok (.iconst 1, 1) := by decide +kernel
theorem dL_law_438 : decode cL_law 438 = .ok (.iadd, 1) := by decide +kernel
theorem dL_law_439 : decode cL_law 439 = .ok (.iaload, 1) := by decide +kernel
theorem dL_law_440 : decode cL_law 440 = .ok (.aload_n 0, 1) := by decide +kernel
theorem dL_law_441 : decode cL_law 441 = .ok (.iload_n 3, 1) := by decide +kernel
theorem dL_law_442 : decode cL_law 442 = .ok (.iconst 2, 1) := by decide +kernel
theorem dL_law_443 : decode cL_law 443 = .ok (.iadd, 1) := by decide +kernel
theorem dL_law_444 : decode cL_law 444 = .ok (.iaload, 1) := by decide +kernel
theorem dL_law_445 : decode cL_law 445 = .ok (.invokevirtual 64, 3) := by decide +kernel
theorem dL_law_448 : decode cL_law 448 = .ok (.aload_n 2, 1) := by decide +kernel
theorem dL_law_449 : decode cL_law 449 = .ok (.aload_n 0, 1) := by decide +kernel
theorem dL_law_450 : decode cL_law 450 = .ok (.iload_n 3, 1) := by decide +kernel
theorem dL_law_451 : decode cL_law 451 = .ok (.iconst 1, 1) := by decide +kernel
theorem dL_law_452 : decode cL_law 452 = .ok (.iadd, 1) := by decide +kernel
theorem dL_law_453 : decode cL_law 453 = .ok (.iaload, 1) := by decide +kernel
theorem dL_law_454 : decode cL_law 454 = .ok (.aload_n 0, 1) := by decide +kernel
theorem dL_law_455 : decode cL_law 455 = .ok (.iload_n 3, 1) := by decide +kernel
theorem dL_law_456 : decode cL_law 456 = .ok (.iconst 2, 1) := by decide +kernel
theorem dL_law_457 : decode cL_law 457 = .ok (.iadd, 1) := by decide +kernel
theorem dL_law_458 : decode cL_law 458 = .ok (.iaload, 1) := by decide +kernel
theorem dL_law_459 : decode cL_law 459 = .ok (.invokevirtual 67, 3) := by decide +kernel
theorem dL_law_462 : decode cL_law 462 = .ok (.if_icmp .eq 322, 3) := by decide +kernel
theorem dL_law_465 : decode cL_law 465 = .ok (.iconst 0, 1) := by decide +kernel
theorem dL_law_466 : decode cL_law 466 = .ok (.ireturn, 1) := by decide +kernel
theorem dL_law_467 : decode cL_law 467 = .ok (.aload_n 1, 1) := by decide +kernel
theorem dL_law_468 : decode cL_law 468 = .ok (.aload_n 0, 1) := by decide +kernel
theorem dL_law_469 : decode cL_law 469 = .ok (.iload_n 3, 1) := by decide +kernel
theorem dL_law_470 : decode cL_law 470 = .ok (.iconst 1, 1) := by decide +kernel
theorem dL_law_471 : decode cL_law 471 = .ok (.iadd, 1) := by decide +kernel
theorem dL_law_472 : decode cL_law 472 = .ok (.iaload, 1) := by decide +kernel
theorem dL_law_473 : decode cL_law 473 = .ok (.aload_n 0, 1) := by decide +kernel
theorem dL_law_474 : decode cL_law 474 = .ok (.iload_n 3, 1) := by decide +kernel
theorem dL_law_475 : decode cL_law 475 = .ok (.iconst 2, 1) := by decide +kernel
theorem dL_law_476 : decode cL_law 476 = .ok (.iadd, 1) := by decide +kernel
theorem dL_law_477 : decode cL_law 477 = .ok (.iaload, 1) := by decide +kernel
theorem dL_law_478 : decode cL_law 478 = .ok (.invokevirtual 68, 3) := by decide +kernel
theorem dL_law_481 : decode cL_law 481 = .ok (.aload_n 2, 1) := by decide +kernel
theorem dL_law_482 : decode cL_law 482 = .ok (.aload_n 0, 1) := by decide +kernel
theorem dL_law_483 : decode cL_law 483 = .ok (.iload_n 3, 1) := by decide +kernel
theorem dL_law_484 : decode cL_law 484 = .ok (.iconst 1, 1) := by decide +kernel
theorem dL_law_485 : decode cL_law 485 = .ok (.iadd, 1) := by decide +kernel
theorem dL_law_486 : decode cL_law 486 = .ok (.iaload, 1) := by decide +kernel
theorem dL_law_487 : decode cL_law 487 = .ok (.aload_n 0, 1) := by decide +kernel
theorem dL_law_488 : decode cL_law 488 = .ok (.iload_n 3, 1) := by decide +kernel
theorem dL_law_489 : decode cL_law 489 = .ok (.iconst 2, 1) := by decide +kernel
theorem dL_law_490 : decode cL_law 490 = .ok (.iadd, 1) := by decide +kernel
theorem dL_law_491 : decode cL_law 491 = .ok (.iaload, 1) := by decide +kernel
theorem dL_law_492 : decode cL_law 492 = .ok (.invokevirtual 71, 3) := by decide +kernel
theorem dL_law_495 : decode cL_law 495 = .ok (.if_icmp .eq 289, 3) := by decide +kernel
theorem dL_law_498 : decode cL_law 498 = .ok (.iconst 0, 1) := by decide +kernel
theorem dL_law_499 : decode cL_law 499 = .ok (.ireturn, 1) := by decide +kernel
theorem dL_law_500 : decode cL_law 500 = .ok (.aload_n 1, 1) := by decide +kernel
theorem dL_law_501 : decode cL_law 501 = .ok (.aload_n 0, 1) := by decide +kernel
theorem dL_law_502 : decode cL_law 502 = .ok (.iload_n 3, 1) := by decide +kernel
theorem dL_law_503 : decode cL_law 503 = .ok (.iconst 1, 1) := by decide +kernel
theorem dL_law_504 : decode cL_law 504 = .ok (.iadd, 1) := by decide +kernel
theorem dL_law_505 : decode cL_law 505 = .ok (.iaload, 1) := by decide +kernel
theorem dL_law_506 : decode cL_law 506 = .ok (.aload_n 0, 1) := by decide +kernel
theorem dL_law_507 : decode cL_law 507 = .ok (.iload_n 3, 1) := by decide +kernel
theorem dL_law_508 : decode cL_law 508 = .ok (.iconst 2, 1) := by decide +kernel
theorem dL_law_509 : decode cL_law 509 = .ok (.iadd, 1) := by decide +kernel
theorem dL_law_510 : decode cL_law 510 = .ok (.iaload, 1) := by decide +kernel
theorem dL_law_511 : decode cL_law 511 = .ok (.invokevirtual 72, 3) := by decide +kernel
theorem dL_law_514 : decode cL_law 514 = .ok (.aload_n 2, 1) := by decide +kernel
theorem dL_law_515 : decode cL_law 515 = .ok (.aload_n 0, 1) := by decide +kernel
theorem dL_law_516 : decode cL_law 516 = .ok (.iload_n 3, 1) := by decide +kernel
theorem dL_law_517 : decode cL_law 517 = .ok (.iconst 1, 1) := by decide +kernel
theorem dL_law_518 : decode cL_law 518 = .ok (.iadd, 1) := by decide +kernel
theorem dL_law_519 : decode cL_law 519 = .ok (.iaload, 1) := by decide +kernel
theorem dL_law_520 : decode cL_law 520 = .ok (.aload_n 0, 1) := by decide +kernel
theorem dL_law_521 : decode cL_law 521 = .ok (.iload_n 3, 1) := by decide +kernel
theorem dL_law_522 : decode cL_law 522 = .ok (.iconst 2, 1) := by decide +kernel
theorem dL_law_523 : decode cL_law 523 = .ok (.iadd, 1) := by decide +kernel
theorem dL_law_524 : decode cL_law 524 = .ok (.iaload, 1) := by decide +kernel
theorem dL_law_525 : decode cL_law 525 = .ok (.invokevirtual 75, 3) := by decide +kernel
theorem dL_law_528 : decode cL_law 528 = .ok (.if_icmp .eq 256, 3) := by decide +kernel
theorem dL_law_531 : decode cL_law 531 = .ok (.iconst 0, 1) := by decide +kernel
theorem dL_law_532 : decode cL_law 532 = .ok (.ireturn, 1) := by decide +kernel
theorem dL_law_533 : decode cL_law 533 = .ok (.aload_n 1, 1) := by decide +kernel
theorem dL_law_534 : decode cL_law 534 = .ok (.aload_n 0, 1) := by decide +kernel
theorem dL_law_535 : decode cL_law 535 = .ok (.iload_n 3, 1) := by decide +kernel
theorem dL_law_536 : decode cL_law 536 = .ok (.iconst 1, 1) := by decide +kernel
theorem dL_law_537 : decode cL_law 537 = .ok (.iadd, 1) := by decide +kernel
theorem dL_law_538 : decode cL_law 538 = .ok (.iaload, 1) := by decide +kernel
theorem dL_law_539 : decode cL_law 539 = .ok (.aload_n 0, 1) := by decide +kernel
theorem dL_law_540 : decode cL_law 540 = .ok (.iload_n 3, 1) := by decide +kernel
theorem dL_law_541 : decode cL_law 541 = .ok (.iconst 2, 1) := by decide +kernel
theorem dL_law_542 : decode cL_law 542 = .ok (.iadd, 1) := by decide +kernel
theorem dL_law_543 : decode cL_law 543 = .ok (.iaload, 1) := by decide +kernel
theorem dL_law_544 : decode cL_law 544 = .ok (.aload_n 0, 1) := by decide +kernel
theorem dL_law_545 : decode cL_law 545 = .ok (.iload_n 3, 1) := by decide +kernel
theorem dL_law_546 : decode cL_law 546 = .ok (.iconst 3, 1) := by decide +kernel
theorem dL_law_547 : decode cL_law 547 = .ok (.iadd, 1) := by decide +kernel
theorem dL_law_548 : decode cL_law 548 = .ok (.iaload, 1) := by decide +kernel
theorem dL_law_549 : decode cL_law 549 = .ok (.aload_n 0, 1) := by decide +kernel
theorem dL_law_550 : decode cL_law 550 = .ok (.iload_n 3, 1) := by decide +kernel
theorem dL_law_551 : decode cL_law 551 = .ok (.iconst 4, 1) := by decide +kernel
theorem dL_law_552 : decode cL_law 552 = .ok (.iadd, 1) := by decide +kernel
theorem dL_law_553 : decode cL_law 553 = .ok (.iaload, 1) := by decide +kernel
theorem dL_law_554 : decode cL_law 554 = .ok (.invokevirtual 76, 3) := by decide +kernel
theorem dL_law_557 : decode cL_law 557 = .ok (.aload_n 2, 1) := by decide +kernel
theorem dL_law_558 : decode cL_law 558 = .ok (.aload_n 0, 1) := by decide +kernel
theorem dL_law_559 : decode cL_law 559 = .ok (.iload_n 3, 1) := by decide +kernel
theorem dL_law_560 : decode cL_law 560 = .ok (.iconst 1, 1) := by decide +kernel
theorem dL_law_561 : decode cL_law 561 = .ok (.iadd, 1) := by decide +kernel
theorem dL_law_562 : decode cL_law 562 = .ok (.iaload, 1) := by decide +kernel
theorem dL_law_563 : decode cL_law 563 = .ok (.aload_n 0, 1) := by decide +kernel
theorem dL_law_564 : decode cL_law 564 = .ok (.iload_n 3, 1) := by decide +kernel
theorem dL_law_565 : decode cL_law 565 = .ok (.iconst 2, 1) := by decide +kernel
theorem dL_law_566 : decode cL_law 566 = .ok (.iadd, 1) := by decide +kernel
theorem dL_law_567 : decode cL_law 567 = .ok (.iaload, 1) := by decide +kernel
theorem dL_law_568 : decode cL_law 568 = .ok (.aload_n 0, 1) := by decide +kernel
theorem dL_law_569 : decode cL_law 569 = .ok (.iload_n 3, 1) := by decide +kernel
theorem dL_law_570 : decode cL_law 570 = .ok (.iconst 3, 1) := by decide +kernel
theorem dL_law_571 : decode cL_law 571 = .ok (.iadd, 1) := by decide +kernel
theorem dL_law_572 : decode cL_law 572 = .ok (.iaload, 1) := by decide +kernel
theorem dL_law_573 : decode cL_law 573 = .ok (.aload_n 0, 1) := by decide +kernel
theorem dL_law_574 : decode cL_law 574 = .ok (.iload_n 3, 1) := by decide +kernel
theorem dL_law_575 : decode cL_law 575 = .ok (.iconst 4, 1) := by decide +kernel
theorem dL_law_576 : decode cL_law 576 = .ok (.iadd, 1) := by decide +kernel
theorem dL_law_577 : decode cL_law 577 = .ok (.iaload, 1) := by decide +kernel
theorem dL_law_578 : decode cL_law 578 = .ok (.invokevirtual 80, 3) := by decide +kernel
theorem dL_law_581 : decode cL_law 581 = .ok (.if_icmp .eq 203, 3) := by decide +kernel
theorem dL_law_584 : decode cL_law 584 = .ok (.iconst 0, 1) := by decide +kernel
theorem dL_law_585 : decode cL_law 585 = .ok (.ireturn, 1) := by decide +kernel
theorem dL_law_586 : decode cL_law 586 = .ok (.aload_n 1, 1) := by decide +kernel
theorem dL_law_587 : decode cL_law 587 = .ok (.aload_n 0, 1) := by decide +kernel
theorem dL_law_588 : decode cL_law 588 = .ok (.iload_n 3, 1) := by decide +kernel
theorem dL_law_589 : decode cL_law 589 = .ok (.iconst 1, 1) := by decide +kernel
theorem dL_law_590 : decode cL_law 590 = .ok (.iadd, 1) := by decide +kernel
theorem dL_law_591 : decode cL_law 591 = .ok (.iaload, 1) := by decide +kernel
theorem dL_law_592 : decode cL_law 592 = .ok (.aload_n 0, 1) := by decide +kernel
theorem dL_law_593 : decode cL_law 593 = .ok (.iload_n 3, 1) := by decide +kernel
theorem dL_law_594 : decode cL_law 594 = .ok (.iconst 2, 1) := by decide +kernel
theorem dL_law_595 : decode cL_law 595 = .ok (.iadd, 1) := by decide +kernel
theorem dL_law_596 : decode cL_law 596 = .ok (.iaload, 1) := by decide +kernel
theorem dL_law_597 : decode cL_law 597 = .ok (.invokevirtual 81, 3) := by decide +kernel
theorem dL_law_600 : decode cL_law 600 = .ok (.aload_n 2, 1) := by decide +kernel
theorem dL_law_601 : decode cL_law 601 = .ok (.aload_n 0, 1) := by decide +kernel
theorem dL_law_602 : decode cL_law 602 = .ok (.iload_n 3, 1) := by decide +kernel
theorem dL_law_603 : decode cL_law 603 = .ok (.iconst 1, 1) := by decide +kernel
theorem dL_law_604 : decode cL_law 604 = .ok (.iadd, 1) := by decide +kernel
theorem dL_law_605 : decode cL_law 605 = .ok (.iaload, 1) := by decide +kernel
theorem dL_law_606 : decode cL_law 606 = .ok (.aload_n 0, 1) := by decide +kernel
theorem dL_law_607 : decode cL_law 607 = .ok (.iload_n 3, 1) := by decide +kernel
theorem dL_law_608 : decode cL_law 608 = .ok (.iconst 2, 1) := by decide +kernel
theorem dL_law_609 : decode cL_law 609 = .ok (.iadd, 1) := by decide +kernel
theorem dL_law_610 : decode cL_law 610 = .ok (.iaload, 1) := by decide +kernel
theorem dL_law_611 : decode cL_law 611 = .ok (.invokevirtual 84, 3) := by decide +kernel
theorem dL_law_614 : decode cL_law 614 = .ok (.if_icmp .eq 170, 3) := by decide +kernel
theorem dL_law_617 : decode cL_law 617 = .ok (.iconst 0, 1) := by decide +kernel
theorem dL_law_618 : decode cL_law 618 = .ok (.ireturn, 1) := by decide +kernel
theorem dL_law_619 : decode cL_law 619 = .ok (.aload_n 1, 1) := by decide +kernel
theorem dL_law_620 : decode cL_law 620 = .ok (.invokevirtual 85, 3) := by decide +kernel
theorem dL_law_623 : decode cL_law 623 = .ok (.aload_n 2, 1) := by decide +kernel
theorem dL_law_624 : decode cL_law 624 = .ok (.invokevirtual 88, 3) := by decide +kernel
theorem dL_law_627 : decode cL_law 627 = .ok (.if_icmp .eq 157, 3) := by decide +kernel
theorem dL_law_630 : decode cL_law 630 = .ok (.iconst 0, 1) := by decide +kernel
theorem dL_law_631 : decode cL_law 631 = .ok (.ireturn, 1) := by decide +kernel
theorem dL_law_632 : decode cL_law 632 = .ok (.aload_n 1, 1) := by decide +kernel
theorem dL_law_633 : decode cL_law 633 = .ok (.aload_n 0, 1) := by decide +kernel
theorem dL_law_634 : decode cL_law 634 = .ok (.iload_n 3, 1) := by decide +kernel
theorem dL_law_635 : decode cL_law 635 = .ok (.iconst 1, 1) := by decide +kernel
theorem dL_law_636 : decode cL_law 636 = .ok (.iadd, 1) := by decide +kernel
theorem dL_law_637 : decode cL_law 637 = .ok (.iaload, 1) := by decide +kernel
theorem dL_law_638 : decode cL_law 638 = .ok (.invokevirtual 89, 3) := by decide +kernel
theorem dL_law_641 : decode cL_law 641 = .ok (.aload_n 2, 1) := by decide +kernel
theorem dL_law_642 : decode cL_law 642 = .ok (.aload_n 0, 1) := by decide +kernel
theorem dL_law_643 : decode cL_law 643 = .ok (.iload_n 3, 1) := by decide +kernel
theorem dL_law_644 : decode cL_law 644 = .ok (.iconst 1, 1) := by decide +kernel
theorem dL_law_645 : decode cL_law 645 = .ok (.iadd, 1) := by decide +kernel
theorem dL_law_646 : decode cL_law 646 = .ok (.iaload, 1) := by decide +kernel
theorem dL_law_647 : decode cL_law 647 = .ok (.invokevirtual 92, 3) := by decide +kernel
theorem dL_law_650 : decode cL_law 650 = .ok (.if_icmp .eq 134, 3) := by decide +kernel
theorem dL_law_653 : decode cL_law 653 = .ok (.iconst 0, 1) := by decide +kernel
theorem dL_law_654 : decode cL_law 654 = .ok (.ireturn, 1) := by decide +kernel
theorem dL_law_655 : decode cL_law 655 = .ok (.aload_n 1, 1) := by decide +kernel
theorem dL_law_656 : decode cL_law 656 = .ok (.invokevirtual 93, 3) := by decide +kernel
theorem dL_law_659 : decode cL_law 659 = .ok (.aload_n 2, 1) := by decide +kernel
theorem dL_law_660 : decode cL_law 660 = .ok (.invokevirtual 96, 3) := by decide +kernel
theorem dL_law_663 : decode cL_law 663 = .ok (.if_icmp .eq 121, 3) := by decide +kernel
theorem dL_law_666 : decode cL_law 666 = .ok (.iconst 0, 1) := by decide +kernel
theorem dL_law_667 : decode cL_law 667 = .ok (.ireturn, 1) := by decide +kernel
theorem dL_law_668 : decode cL_law 668 = .ok (.aload_n 1, 1) := by decide +kernel
theorem dL_law_669 : decode cL_law 669 = .ok (.aload_n 0, 1) := by decide +kernel
theorem dL_law_670 : decode cL_law 670 = .ok (.iload_n 3, 1) := by decide +kernel
theorem dL_law_671 : decode cL_law 671 = .ok (.iconst 1, 1) := by decide +kernel
theorem dL_law_672 : decode cL_law 672 = .ok (.iadd, 1) := by decide +kernel
theorem dL_law_673 : decode cL_law 673 = .ok (.iaload, 1) := by decide +kernel
theorem dL_law_674 : decode cL_law 674 = .ok (.aload_n 0, 1) := by decide +kernel
theorem dL_law_675 : decode cL_law 675 = .ok (.iload_n 3, 1) := by decide +kernel
theorem dL_law_676 : decode cL_law 676 = .ok (.iconst 2, 1) := by decide +kernel
theorem dL_law_677 : decode cL_law 677 = .ok (.iadd, 1) := by decide +kernel
theorem dL_law_678 : decode cL_law 678 = .ok (.iaload, 1) := by decide +kernel
theorem dL_law_679 : decode cL_law 679 = .ok (.invokevirtual 97, 3) := by decide +kernel
theorem dL_law_682 : decode cL_law 682 = .ok (.aload_n 2, 1) := by decide +kernel
theorem dL_law_683 : decode cL_law 683 = .ok (.aload_n 0, 1) := by decide +kernel
theorem dL_law_684 : decode cL_law 684 = .ok (.iload_n 3, 1) := by decide +kernel
theorem dL_law_685 : decode cL_law 685 = .ok (.iconst 1, 1) := by decide +kernel
theorem dL_law_686 : decode cL_law 686 = .ok (.iadd, 1) := by decide +kernel
theorem dL_law_687 : decode cL_law 687 = .ok (.iaload, 1) := by decide +kernel
theorem dL_law_688 : decode cL_law 688 = .ok (.aload_n 0, 1) := by decide +kernel
theorem dL_law_689 : decode cL_law 689 = .ok (.iload_n 3, 1) := by decide +kernel
theorem dL_law_690 : decode cL_law 690 = .ok (.iconst 2, 1) := by decide +kernel
theorem dL_law_691 : decode cL_law 691 = .ok (.iadd, 1) := by decide +kernel
theorem dL_law_692 : decode cL_law 692 = .ok (.iaload, 1) := by decide +kernel
theorem dL_law_693 : decode cL_law 693 = .ok (.invokevirtual 100, 3) := by decide +kernel
theorem dL_law_696 : decode cL_law 696 = .ok (.if_icmp .eq 88, 3) := by decide +kernel
theorem dL_law_699 : decode cL_law 699 = .ok (.iconst 0, 1) := by decide +kernel
theorem dL_law_700 : decode cL_law 700 = .ok (.ireturn, 1) := by decide +kernel
theorem dL_law_701 : decode cL_law 701 = .ok (.aload_n 1, 1) := by decide +kernel
theorem dL_law_702 : decode cL_law 702 = .ok (.aload_n 0, 1) := by decide +kernel
theorem dL_law_703 : decode cL_law 703 = .ok (.iload_n 3, 1) := by decide +kernel
theorem dL_law_704 : decode cL_law 704 = .ok (.iconst 1, 1) := by decide +kernel
theorem dL_law_705 : decode cL_law 705 = .ok (.iadd, 1) := by decide +kernel
theorem dL_law_706 : decode cL_law 706 = .ok (.iaload, 1) := by decide +kernel
theorem dL_law_707 : decode cL_law 707 = .ok (.invokevirtual 101, 3) := by decide +kernel
theorem dL_law_710 : decode cL_law 710 = .ok (.aload_n 2, 1) := by decide +kernel
theorem dL_law_711 : decode cL_law 711 = .ok (.aload_n 0, 1) := by decide +kernel
theorem dL_law_712 : decode cL_law 712 = .ok (.iload_n 3, 1) := by decide +kernel
theorem dL_law_713 : decode cL_law 713 = .ok (.iconst 1, 1) := by decide +kernel
theorem dL_law_714 : decode cL_law 714 = .ok (.iadd, 1) := by decide +kernel
theorem dL_law_715 : decode cL_law 715 = .ok (.iaload, 1) := by decide +kernel
theorem dL_law_716 : decode cL_law 716 = .ok (.invokevirtual 104, 3) := by decide +kernel
theorem dL_law_719 : decode cL_law 719 = .ok (.if_icmp .eq 65, 3) := by decide +kernel
theorem dL_law_722 : decode cL_law 722 = .ok (.iconst 0, 1) := by decide +kernel
theorem dL_law_723 : decode cL_law 723 = .ok (.ireturn, 1) := by decide +kernel
theorem dL_law_724 : decode cL_law 724 = .ok (.aload_n 1, 1) := by decide +kernel
theorem dL_law_725 : decode cL_law 725 = .ok (.aload_n 0, 1) := by decide +kernel
theorem dL_law_726 : decode cL_law 726 = .ok (.iload_n 3, 1) := by decide +kernel
theorem dL_law_727 : decode cL_law 727 = .ok (.iconst 1, 1) := by decide +kernel
theorem dL_law_728 : decode cL_law 728 = .ok (.iadd, 1) := by decide +kernel
theorem dL_law_729 : decode cL_law 729 = .ok (.iaload, 1) := by decide +kernel
theorem dL_law_730 : decode cL_law 730 = .ok (.invokevirtual 105, 3) := by decide +kernel
theorem dL_law_733 : decode cL_law 733 = .ok (.aload_n 2, 1) := by decide +kernel
theorem dL_law_734 : decode cL_law 734 = .ok (.aload_n 0, 1) := by decide +kernel
theorem dL_law_735 : decode cL_law 735 = .ok (.iload_n 3, 1) := by decide +kernel
theorem dL_law_736 : decode cL_law 736 = .ok (.iconst 1, 1) := by decide +kernel
theorem dL_law_737 : decode cL_law 737 = .ok (.iadd, 1) := by decide +kernel
theorem dL_law_738 : decode cL_law 738 = .ok (.iaload, 1) := by decide +kernel
theorem dL_law_739 : decode cL_law 739 = .ok (.invokevirtual 108, 3) := by decide +kernel
theorem dL_law_742 : decode cL_law 742 = .ok (.if_icmp .eq 42, 3) := by decide +kernel
theorem dL_law_745 : decode cL_law 745 = .ok (.iconst 0, 1) := by decide +kernel
theorem dL_law_746 : decode cL_law 746 = .ok (.ireturn, 1) := by decide +kernel
theorem dL_law_747 : decode cL_law 747 = .ok (.aload_n 1, 1) := by decide +kernel
theorem dL_law_748 : decode cL_law 748 = .ok (.aload_n 0, 1) := by decide +kernel
theorem dL_law_749 : decode cL_law 749 = .ok (.iload_n 3, 1) := by decide +kernel
theorem dL_law_750 : decode cL_law 750 = .ok (.iconst 1, 1) := by decide +kernel
theorem dL_law_751 : decode cL_law 751 = .ok (.iadd, 1) := by decide +kernel
theorem dL_law_752 : decode cL_law 752 = .ok (.iaload, 1) := by decide +kernel
theorem dL_law_753 : decode cL_law 753 = .ok (.invokevirtual 109, 3) := by decide +kernel
theorem dL_law_756 : decode cL_law 756 = .ok (.aload_n 2, 1) := by decide +kernel
theorem dL_law_757 : decode cL_law 757 = .ok (.aload_n 0, 1) := by decide +kernel
theorem dL_law_758 : decode cL_law 758 = .ok (.iload_n 3, 1) := by decide +kernel
theorem dL_law_759 : decode cL_law 759 = .ok (.iconst 1, 1) := by decide +kernel
theorem dL_law_760 : decode cL_law 760 = .ok (.iadd, 1) := by decide +kernel
theorem dL_law_761 : decode cL_law 761 = .ok (.iaload, 1) := by decide +kernel
theorem dL_law_762 : decode cL_law 762 = .ok (.invokevirtual 112, 3) := by decide +kernel
theorem dL_law_765 : decode cL_law 765 = .ok (.if_icmp .eq 19, 3) := by decide +kernel
theorem dL_law_768 : decode cL_law 768 = .ok (.iconst 0, 1) := by decide +kernel
theorem dL_law_769 : decode cL_law 769 = .ok (.ireturn, 1) := by decide +kernel
theorem dL_law_770 : decode cL_law 770 = .ok (.aload_n 1, 1) := by decide +kernel
theorem dL_law_771 : decode cL_law 771 = .ok (.invokevirtual 113, 3) := by decide +kernel
theorem dL_law_774 : decode cL_law 774 = .ok (.aload_n 2, 1) := by decide +kernel
theorem dL_law_775 : decode cL_law 775 = .ok (.invokevirtual 117, 3) := by decide +kernel
theorem dL_law_778 : decode cL_law 778 = .ok (.lcmp, 1) := by decide +kernel
theorem dL_law_779 : decode cL_law 779 = .ok (.ifCond .eq 5, 3) := by decide +kernel
theorem dL_law_782 : decode cL_law 782 = .ok (.iconst 0, 1) := by decide +kernel
theorem dL_law_783 : decode cL_law 783 = .ok (.ireturn, 1) := by decide +kernel
theorem dL_law_784 : decode cL_law 784 = .ok (.iinc 3 5, 3) := by decide +kernel
theorem dL_law_787 : decode cL_law 787 = .ok (.goto (-769), 3) := by decide +kernel
theorem dL_law_790 : decode cL_law 790 = .ok (.iconst 1, 1) := by decide +kernel
theorem dL_law_791 : decode cL_law 791 = .ok (.ireturn, 1) := by decide +kernel
