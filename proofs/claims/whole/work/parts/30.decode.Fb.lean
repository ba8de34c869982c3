/-! decode rows: written by wip/gen/names.py -/
theorem d_Fb_init_0 : decode b_Fb_init 0 = .ok (.aload_n 0, 1) := by decide +kernel
theorem d_Fb_init_1 : decode b_Fb_init 1 = .ok (.invokespecial 3, 3) := by decide +kernel
theorem d_Fb_init_4 : decode b_Fb_init 4 = .ok (.aload_n 0, 1) := by decide +kernel
theorem d_Fb_init_5 : decode b_Fb_init 5 = .ok (.new 9, 3) := by decide +kernel
theorem d_Fb_init_8 : decode b_Fb_init 8 = .ok (.dup, 1) := by decide +kernel
theorem d_Fb_init_9 : decode b_Fb_init 9 = .ok (.invokespecial 11, 3) := by decide +kernel
theorem d_Fb_init_12 : decode b_Fb_init 12 = .ok (.putfield 12, 3) := by decide +kernel
theorem d_Fb_init_15 : decode b_Fb_init 15 = .ok (.aload_n 0, 1) := by decide +kernel
theorem d_Fb_init_16 : decode b_Fb_init 16 = .ok (.new 16, 3) := by decide +kernel
theorem d_Fb_init_19 : decode b_Fb_init 19 = .ok (.dup, 1) := by decide +kernel
theorem d_Fb_init_20 : decode b_Fb_init 20 = .ok (.invokespecial 18, 3) := by decide +kernel
theorem d_Fb_init_23 : decode b_Fb_init 23 = .ok (.putfield 19, 3) := by decide +kernel
theorem d_Fb_init_26 : decode b_Fb_init 26 = .ok (.aload_n 0, 1) := by decide +kernel
theorem d_Fb_init_27 : decode b_Fb_init 27 = .ok (.new 23, 3) := by decide +kernel
theorem d_Fb_init_30 : decode b_Fb_init 30 = .ok (.dup, 1) := by decide +kernel
theorem d_Fb_init_31 : decode b_Fb_init 31 = .ok (.iload_n 1, 1) := by decide +kernel
theorem d_Fb_init_32 : decode b_Fb_init 32 = .ok (.iconst 0, 1) := by decide +kernel
theorem d_Fb_init_33 : decode b_Fb_init 33 = .ok (.invokestatic 25, 3) := by decide +kernel
theorem d_Fb_init_36 : decode b_Fb_init 36 = .ok (.bipush 10, 2) := by decide +kernel
theorem d_Fb_init_38 : decode b_Fb_init 38 = .ok (.invokestatic 31, 3) := by decide +kernel
theorem d_Fb_init_41 : decode b_Fb_init 41 = .ok (.invokespecial 34, 3) := by decide +kernel
theorem d_Fb_init_44 : decode b_Fb_init 44 = .ok (.putfield 37, 3) := by decide +kernel
theorem d_Fb_init_47 : decode b_Fb_init 47 = .ok (.aload_n 0, 1) := by decide +kernel
theorem d_Fb_init_48 : decode b_Fb_init 48 = .ok (.new 41, 3) := by decide +kernel
theorem d_Fb_init_51 : decode b_Fb_init 51 = .ok (.dup, 1) := by decide +kernel
theorem d_Fb_init_52 : decode b_Fb_init 52 = .ok (.invokespecial 43, 3) := by decide +kernel
theorem d_Fb_init_55 : decode b_Fb_init 55 = .ok (.putfield 44, 3) := by decide +kernel
theorem d_Fb_init_58 : decode b_Fb_init 58 = .ok (.aload_n 0, 1) := by decide +kernel
theorem d_Fb_init_59 : decode b_Fb_init 59 = .ok (.new 48, 3) := by decide +kernel
theorem d_Fb_init_62 : decode b_Fb_init 62 = .ok (.dup, 1) := by decide +kernel
theorem d_Fb_init_63 : decode b_Fb_init 63 = .ok (.invokespecial 50, 3) := by decide +kernel
theorem d_Fb_init_66 : decode b_Fb_init 66 = .ok (.putfield 51, 3) := by decide +kernel
theorem d_Fb_init_69 : decode b_Fb_init 69 = .ok (.aload_n 0, 1) := by decide +kernel
theorem d_Fb_init_70 : decode b_Fb_init 70 = .ok (.new 55, 3) := by decide +kernel
theorem d_Fb_init_73 : decode b_Fb_init 73 = .ok (.dup, 1) := by decide +kernel
theorem d_Fb_init_74 : decode b_Fb_init 74 = .ok (.invokespecial 57, 3) := by decide +kernel
theorem d_Fb_init_77 : decode b_Fb_init 77 = .ok (.putfield 58, 3) := by decide +kernel
theorem d_Fb_init_80 : decode b_Fb_init 80 = .ok (.return_, 1) := by decide +kernel
theorem d_Fb_carton_0 : decode b_Fb_carton 0 = .ok (.iload_n 1, 1) := by decide +kernel
theorem d_Fb_carton_1 : decode b_Fb_carton 1 = .ok (.iload_n 2, 1) := by decide +kernel
theorem d_Fb_carton_2 : decode b_Fb_carton 2 = .ok (.iload_n 3, 1) := by decide +kernel
theorem d_Fb_carton_3 : decode b_Fb_carton 3 = .ok (.invokestatic 62, 3) := by decide +kernel
theorem d_Fb_carton_6 : decode b_Fb_carton 6 = .ok (.ifCond .ne 13, 3) := by decide +kernel
theorem d_Fb_carton_9 : decode b_Fb_carton 9 = .ok (.new 66, 3) := by decide +kernel
theorem d_Fb_carton_12 : decode b_Fb_carton 12 = .ok (.dup, 1) := by decide +kernel
theorem d_Fb_carton_13 : decode b_Fb_carton 13 = .ok (.ldc 68, 2) := by decide +kernel
theorem d_Fb_carton_15 : decode b_Fb_carton 15 = .ok (.invokespecial 70, 3) := by decide +kernel
theorem d_Fb_carton_18 : decode b_Fb_carton 18 = .ok (.athrow, 1) := by decide +kernel
theorem d_Fb_carton_19 : decode b_Fb_carton 19 = .ok (.iload 4, 2) := by decide +kernel
theorem d_Fb_carton_21 : decode b_Fb_carton 21 = .ok (.iconst 1, 1) := by decide +kernel
theorem d_Fb_carton_22 : decode b_Fb_carton 22 = .ok (.ldc 73, 2) := by decide +kernel
theorem d_Fb_carton_24 : decode b_Fb_carton 24 = .ok (.invokestatic 74, 3) := by decide +kernel
theorem d_Fb_carton_27 : decode b_Fb_carton 27 = .ok (.ifCond .eq 14, 3) := by decide +kernel
theorem d_Fb_carton_30 : decode b_Fb_carton 30 = .ok (.iload 5, 2) := by decide +kernel
theorem d_Fb_carton_32 : decode b_Fb_carton 32 = .ok (.iconst 1, 1) := by decide +kernel
theorem d_Fb_carton_33 : decode b_Fb_carton 33 = .ok (.ldc 73, 2) := by decide +kernel
theorem d_Fb_carton_35 : decode b_Fb_carton 35 = .ok (.invokestatic 74, 3) := by decide +kernel
theorem d_Fb_carton_38 : decode b_Fb_carton 38 = .ok (.ifCond .ne 13, 3) := by decide +kernel
theorem d_Fb_carton_41 : decode b_Fb_carton 41 = .ok (.new 66, 3) := by decide +kernel
theorem d_Fb_carton_44 : decode b_Fb_carton 44 = .ok (.dup, 1) := by decide +kernel
theorem d_Fb_carton_45 : decode b_Fb_carton 45 = .ok (.ldc 77, 2) := by decide +kernel
theorem d_Fb_carton_47 : decode b_Fb_carton 47 = .ok (.invokespecial 70, 3) := by decide +kernel
theorem d_Fb_carton_50 : decode b_Fb_carton 50 = .ok (.athrow, 1) := by decide +kernel
theorem d_Fb_carton_51 : decode b_Fb_carton 51 = .ok (.aload_n 0, 1) := by decide +kernel
theorem d_Fb_carton_52 : decode b_Fb_carton 52 = .ok (.getfield 12, 3) := by decide +kernel
theorem d_Fb_carton_55 : decode b_Fb_carton 55 = .ok (.getfield 79, 3) := by decide +kernel
theorem d_Fb_carton_58 : decode b_Fb_carton 58 = .ok (.iconst 4, 1) := by decide +kernel
theorem d_Fb_carton_59 : decode b_Fb_carton 59 = .ok (.if_icmp .lt 13, 3) := by decide +kernel
theorem d_Fb_carton_62 : decode b_Fb_carton 62 = .ok (.new 83, 3) := by decide +kernel
theorem d_Fb_carton_65 : decode b_Fb_carton 65 = .ok (.dup, 1) := by decide +kernel
theorem d_Fb_carton_66 : decode b_Fb_carton 66 = .ok (.ldc 85, 2) := by decide +kernel
theorem d_Fb_carton_68 : decode b_Fb_carton 68 = .ok (.invokespecial 87, 3) := by decide +kernel
theorem d_Fb_carton_71 : decode b_Fb_carton 71 = .ok (.athrow, 1) := by decide +kernel
theorem d_Fb_carton_72 : decode b_Fb_carton 72 = .ok (.aload_n 0, 1) := by decide +kernel
theorem d_Fb_carton_73 : decode b_Fb_carton 73 = .ok (.getfield 51, 3) := by decide +kernel
theorem d_Fb_carton_76 : decode b_Fb_carton 76 = .ok (.invokevirtual 88, 3) := by decide +kernel
theorem d_Fb_carton_79 : decode b_Fb_carton 79 = .ok (.aload_n 0, 1) := by decide +kernel
theorem d_Fb_carton_80 : decode b_Fb_carton 80 = .ok (.getfield 12, 3) := by decide +kernel
theorem d_Fb_carton_83 : decode b_Fb_carton 83 = .ok (.iload_n 1, 1) := by decide +kernel
theorem d_Fb_carton_84 : decode b_Fb_carton 84 = .ok (.iload_n 2, 1) := by decide +kernel
theorem d_Fb_carton_85 : decode b_Fb_carton 85 = .ok (.iload_n 3, 1) := by decide +kernel
theorem d_Fb_carton_86 : decode b_Fb_carton 86 = .ok (.iload 4, 2) := by decide +kernel
theorem d_Fb_carton_88 : decode b_Fb_carton 88 = .ok (.iload 5, 2) := by decide +kernel
theorem d_Fb_carton_90 : decode b_Fb_carton 90 = .ok (.invokevirtual 91, 3) := by decide +kernel
theorem d_Fb_carton_93 : decode b_Fb_carton 93 = .ok (.ireturn, 1) := by decide +kernel
theorem d_Fb_part_0 : decode b_Fb_part 0 = .ok (.iload_n 1, 1) := by decide +kernel
theorem d_Fb_part_1 : decode b_Fb_part 1 = .ok (.iload_n 2, 1) := by decide +kernel
theorem d_Fb_part_2 : decode b_Fb_part 2 = .ok (.iload_n 3, 1) := by decide +kernel
theorem d_Fb_part_3 : decode b_Fb_part 3 = .ok (.invokestatic 62, 3) := by decide +kernel
theorem d_Fb_part_6 : decode b_Fb_part 6 = .ok (.ifCond .ne 13, 3) := by decide +kernel
theorem d_Fb_part_9 : decode b_Fb_part 9 = .ok (.new 66, 3) := by decide +kernel
theorem d_Fb_part_12 : decode b_Fb_part 12 = .ok (.dup, 1) := by decide +kernel
theorem d_Fb_part_13 : decode b_Fb_part 13 = .ok (.ldc 68, 2) := by decide +kernel
theorem d_Fb_part_15 : decode b_Fb_part 15 = .ok (.invokespecial 70, 3) := by decide +kernel
theorem d_Fb_part_18 : decode b_Fb_part 18 = .ok (.athrow, 1) := by decide +kernel
theorem d_Fb_part_19 : decode b_Fb_part 19 = .ok (.iload 4, 2) := by decide +kernel
theorem d_Fb_part_21 : decode b_Fb_part 21 = .ok (.iconst 1, 1) := by decide +kernel
theorem d_Fb_part_22 : decode b_Fb_part 22 = .ok (.ldc 95, 2) := by decide +kernel
theorem d_Fb_part_24 : decode b_Fb_part 24 = .ok (.invokestatic 74, 3) := by decide +kernel
theorem d_Fb_part_27 : decode b_Fb_part 27 = .ok (.ifCond .eq 14, 3) := by decide +kernel
theorem d_Fb_part_30 : decode b_Fb_part 30 = .ok (.iload 5, 2) := by decide +kernel
theorem d_Fb_part_32 : decode b_Fb_part 32 = .ok (.iconst 0, 1) := by decide +kernel
theorem d_Fb_part_33 : decode b_Fb_part 33 = .ok (.bipush 50, 2) := by decide +kernel
theorem d_Fb_part_35 : decode b_Fb_part 35 = .ok (.invokestatic 74, 3) := by decide +kernel
theorem d_Fb_part_38 : decode b_Fb_part 38 = .ok (.ifCond .ne 13, 3) := by decide +kernel
theorem d_Fb_part_41 : decode b_Fb_part 41 = .ok (.new 66, 3) := by decide +kernel
theorem d_Fb_part_44 : decode b_Fb_part 44 = .ok (.dup, 1) := by decide +kernel
theorem d_Fb_part_45 : decode b_Fb_part 45 = .ok (.ldc 96, 2) := by decide +kernel
theorem d_Fb_part_47 : decode b_Fb_part 47 = .ok (.invokespecial 70, 3) := by decide +kernel
theorem d_Fb_part_50 : decode b_Fb_part 50 = .ok (.athrow, 1) := by decide +kernel
theorem d_Fb_part_51 : decode b_Fb_part 51 = .ok (.aload_n 0, 1) := by decide +kernel
theorem d_Fb_part_52 : decode b_Fb_part 52 = .ok (.getfield 19, 3) := by decide +kernel
theorem d_Fb_part_55 : decode b_Fb_part 55 = .ok (.getfield 98, 3) := by decide +kernel
theorem d_Fb_part_58 : decode b_Fb_part 58 = .ok (.bipush 8, 2) := by decide +kernel
theorem d_Fb_part_60 : decode b_Fb_part 60 = .ok (.if_icmp .lt 13, 3) := by decide +kernel
theorem d_Fb_part_63 : decode b_Fb_part 63 = .ok (.new 83, 3) := by decide +kernel
theorem d_Fb_part_66 : decode b_Fb_part 66 = .ok (.dup, 1) := by decide +kernel
theorem d_Fb_part_67 : decode b_Fb_part 67 = .ok (.ldc 99, 2) := by decide +kernel
theorem d_Fb_part_69 : decode b_Fb_part 69 = .ok (.invokespecial 87, 3) := by decide +kernel
theorem d_Fb_part_72 : decode b_Fb_part 72 = .ok (.athrow, 1) := by decide +kernel
theorem d_Fb_part_73 : decode b_Fb_part 73 = .ok (.aload_n 0, 1) := by decide +kernel
theorem d_Fb_part_74 : decode b_Fb_part 74 = .ok (.getfield 51, 3) := by decide +kernel
theorem d_Fb_part_77 : decode b_Fb_part 77 = .ok (.invokevirtual 88, 3) := by decide +kernel
theorem d_Fb_part_80 : decode b_Fb_part 80 = .ok (.aload_n 0, 1) := by decide +kernel
theorem d_Fb_part_81 : decode b_Fb_part 81 = .ok (.getfield 19, 3) := by decide +kernel
theorem d_Fb_part_84 : decode b_Fb_part 84 = .ok (.iload_n 1, 1) := by decide +kernel
theorem d_Fb_part_85 : decode b_Fb_part 85 = .ok (.iload_n 2, 1) := by decide +kernel
theorem d_Fb_part_86 : decode b_Fb_part 86 = .ok (.iload_n 3, 1) := by decide +kernel
theorem d_Fb_part_87 : decode b_Fb_part 87 = .ok (.iload 4, 2) := by decide +kernel
theorem d_Fb_part_89 : decode b_Fb_part 89 = .ok (.iload 5, 2) := by decide +kernel
theorem d_Fb_part_91 : decode b_Fb_part 91 = .ok (.invokevirtual 101, 3) := by decide +kernel
theorem d_Fb_part_94 : decode b_Fb_part 94 = .ok (.ireturn, 1) := by decide +kernel
theorem d_Fb_fragile_0 : decode b_Fb_fragile 0 = .ok (.iload_n 1, 1) := by decide +kernel
theorem d_Fb_fragile_1 : decode b_Fb_fragile 1 = .ok (.aload_n 0, 1) := by decide +kernel
theorem d_Fb_fragile_2 : decode b_Fb_fragile 2 = .ok (.getfield 19, 3) := by decide +kernel
theorem d_Fb_fragile_5 : decode b_Fb_fragile 5 = .ok (.getfield 98, 3) := by decide +kernel
theorem d_Fb_fragile_8 : decode b_Fb_fragile 8 = .ok (.invokestatic 102, 3) := by decide +kernel
theorem d_Fb_fragile_11 : decode b_Fb_fragile 11 = .ok (.ifCond .ne 13, 3) := by decide +kernel
theorem d_Fb_fragile_14 : decode b_Fb_fragile 14 = .ok (.new 106, 3) := by decide +kernel
theorem d_Fb_fragile_17 : decode b_Fb_fragile 17 = .ok (.dup, 1) := by decide +kernel
theorem d_Fb_fragile_18 : decode b_Fb_fragile 18 = .ok (.ldc 108, 2) := by decide +kernel
theorem d_Fb_fragile_20 : decode b_Fb_fragile 20 = .ok (.invokespecial 110, 3) := by decide +kernel
theorem d_Fb_fragile_23 : decode b_Fb_fragile 23 = .ok (.athrow, 1) := by decide +kernel
theorem d_Fb_fragile_24 : decode b_Fb_fragile 24 = .ok (.aload_n 0, 1) := by decide +kernel
theorem d_Fb_fragile_25 : decode b_Fb_fragile 25 = .ok (.getfield 19, 3) := by decide +kernel
theorem d_Fb_fragile_28 : decode b_Fb_fragile 28 = .ok (.getfield 111, 3) := by decide +kernel
theorem d_Fb_fragile_31 : decode b_Fb_fragile 31 = .ok (.iload_n 1, 1) := by decide +kernel
theorem d_Fb_fragile_32 : decode b_Fb_fragile 32 = .ok (.baload, 1) := by decide +kernel
theorem d_Fb_fragile_33 : decode b_Fb_fragile 33 = .ok (.iload_n 2, 1) := by decide +kernel
theorem d_Fb_fragile_34 : decode b_Fb_fragile 34 = .ok (.if_icmp .ne 5, 3) := by decide +kernel
theorem d_Fb_fragile_37 : decode b_Fb_fragile 37 = .ok (.iconst 0, 1) := by decide +kernel
theorem d_Fb_fragile_38 : decode b_Fb_fragile 38 = .ok (.ireturn, 1) := by decide +kernel
theorem d_Fb_fragile_39 : decode b_Fb_fragile 39 = .ok (.aload_n 0, 1) := by decide +kernel
theorem d_Fb_fragile_40 : decode b_Fb_fragile 40 = .ok (.getfield 51, 3) := by decide +kernel
theorem d_Fb_fragile_43 : decode b_Fb_fragile 43 = .ok (.invokevirtual 88, 3) := by decide +kernel
theorem d_Fb_fragile_46 : decode b_Fb_fragile 46 = .ok (.aload_n 0, 1) := by decide +kernel
theorem d_Fb_fragile_47 : decode b_Fb_fragile 47 = .ok (.getfield 19, 3) := by decide +kernel
theorem d_Fb_fragile_50 : decode b_Fb_fragile 50 = .ok (.getfield 111, 3) := by decide +kernel
theorem d_Fb_fragile_53 : decode b_Fb_fragile 53 = .ok (.iload_n 1, 1) := by decide +kernel
theorem d_Fb_fragile_54 : decode b_Fb_fragile 54 = .ok (.iload_n 2, 1) := by decide +kernel
theorem d_Fb_fragile_55 : decode b_Fb_fragile 55 = .ok (.bastore, 1) := by decide +kernel
theorem d_Fb_fragile_56 : decode b_Fb_fragile 56 = .ok (.iconst 1, 1) := by decide +kernel
theorem d_Fb_fragile_57 : decode b_Fb_fragile 57 = .ok (.ireturn, 1) := by decide +kernel
theorem d_Fb_fits_0 : decode b_Fb_fits 0 = .ok (.iload_n 1, 1) := by decide +kernel
theorem d_Fb_fits_1 : decode b_Fb_fits 1 = .ok (.aload_n 0, 1) := by decide +kernel
theorem d_Fb_fits_2 : decode b_Fb_fits 2 = .ok (.getfield 12, 3) := by decide +kernel
theorem d_Fb_fits_5 : decode b_Fb_fits 5 = .ok (.getfield 79, 3) := by decide +kernel
theorem d_Fb_fits_8 : decode b_Fb_fits 8 = .ok (.invokestatic 102, 3) := by decide +kernel
theorem d_Fb_fits_11 : decode b_Fb_fits 11 = .ok (.ifCond .ne 13, 3) := by decide +kernel
theorem d_Fb_fits_14 : decode b_Fb_fits 14 = .ok (.new 106, 3) := by decide +kernel
theorem d_Fb_fits_17 : decode b_Fb_fits 17 = .ok (.dup, 1) := by decide +kernel
theorem d_Fb_fits_18 : decode b_Fb_fits 18 = .ok (.ldc 115, 2) := by decide +kernel
theorem d_Fb_fits_20 : decode b_Fb_fits 20 = .ok (.invokespecial 110, 3) := by decide +kernel
theorem d_Fb_fits_23 : decode b_Fb_fits 23 = .ok (.athrow, 1) := by decide +kernel
theorem d_Fb_fits_24 : decode b_Fb_fits 24 = .ok (.iload_n 2, 1) := by decide +kernel
theorem d_Fb_fits_25 : decode b_Fb_fits 25 = .ok (.iconst 1, 1) := by decide +kernel
theorem d_Fb_fits_26 : decode b_Fb_fits 26 = .ok (.aload_n 0, 1) := by decide +kernel
theorem d_Fb_fits_27 : decode b_Fb_fits 27 = .ok (.getfield 19, 3) := by decide +kernel
theorem d_Fb_fits_30 : decode b_Fb_fits 30 = .ok (.invokevirtual 117, 3) := by decide +kernel
theorem d_Fb_fits_33 : decode b_Fb_fits 33 = .ok (.invokestatic 74, 3) := by decide +kernel
theorem d_Fb_fits_36 : decode b_Fb_fits 36 = .ok (.ifCond .ne 13, 3) := by decide +kernel
theorem d_Fb_fits_39 : decode b_Fb_fits 39 = .ok (.new 66, 3) := by decide +kernel
theorem d_Fb_fits_42 : decode b_Fb_fits 42 = .ok (.dup, 1) := by decide +kernel
theorem d_Fb_fits_43 : decode b_Fb_fits 43 = .ok (.ldc 121, 2) := by decide +kernel
theorem d_Fb_fits_45 : decode b_Fb_fits 45 = .ok (.invokespecial 70, 3) := by decide +kernel
theorem d_Fb_fits_48 : decode b_Fb_fits 48 = .ok (.athrow, 1) := by decide +kernel
theorem d_Fb_fits_49 : decode b_Fb_fits 49 = .ok (.aload_n 0, 1) := by decide +kernel
theorem d_Fb_fits_50 : decode b_Fb_fits 50 = .ok (.getfield 37, 3) := by decide +kernel
theorem d_Fb_fits_53 : decode b_Fb_fits 53 = .ok (.aload_n 0, 1) := by decide +kernel
theorem d_Fb_fits_54 : decode b_Fb_fits 54 = .ok (.getfield 12, 3) := by decide +kernel
theorem d_Fb_fits_57 : decode b_Fb_fits 57 = .ok (.iload_n 1, 1) := by decide +kernel
theorem d_Fb_fits_58 : decode b_Fb_fits 58 = .ok (.aload_n 0, 1) := by decide +kernel
theorem d_Fb_fits_59 : decode b_Fb_fits 59 = .ok (.getfield 19, 3) := by decide +kernel
theorem d_Fb_fits_62 : decode b_Fb_fits 62 = .ok (.iload_n 2, 1) := by decide +kernel
theorem d_Fb_fits_63 : decode b_Fb_fits 63 = .ok (.invokevirtual 123, 3) := by decide +kernel
theorem d_Fb_fits_66 : decode b_Fb_fits 66 = .ok (.ireturn, 1) := by decide +kernel
theorem d_Fb_run_0 : decode b_Fb_run 0 = .ok (.aload_n 0, 1) := by decide +kernel
theorem d_Fb_run_1 : decode b_Fb_run 1 = .ok (.getfield 51, 3) := by decide +kernel
theorem d_Fb_run_4 : decode b_Fb_run 4 = .ok (.getfield 127, 3) := by decide +kernel
theorem d_Fb_run_7 : decode b_Fb_run 7 = .ok (.ifCond .ne 45, 3) := by decide +kernel
theorem d_Fb_run_10 : decode b_Fb_run 10 = .ok (.aload_n 0, 1) := by decide +kernel
theorem d_Fb_run_11 : decode b_Fb_run 11 = .ok (.getfield 44, 3) := by decide +kernel
theorem d_Fb_run_14 : decode b_Fb_run 14 = .ok (.aload_n 0, 1) := by decide +kernel
theorem d_Fb_run_15 : decode b_Fb_run 15 = .ok (.getfield 12, 3) := by decide +kernel
theorem d_Fb_run_18 : decode b_Fb_run 18 = .ok (.aload_n 0, 1) := by decide +kernel
theorem d_Fb_run_19 : decode b_Fb_run 19 = .ok (.getfield 19, 3) := by decide +kernel
theorem d_Fb_run_22 : decode b_Fb_run 22 = .ok (.aload_n 0, 1) := by decide +kernel
theorem d_Fb_run_23 : decode b_Fb_run 23 = .ok (.getfield 37, 3) := by decide +kernel
theorem d_Fb_run_26 : decode b_Fb_run 26 = .ok (.invokevirtual 131, 3) := by decide +kernel
theorem d_Fb_run_29 : decode b_Fb_run 29 = .ok (.aload_n 0, 1) := by decide +kernel
theorem d_Fb_run_30 : decode b_Fb_run 30 = .ok (.getfield 51, 3) := by decide +kernel
theorem d_Fb_run_33 : decode b_Fb_run 33 = .ok (.aload_n 0, 1) := by decide +kernel
theorem d_Fb_run_34 : decode b_Fb_run 34 = .ok (.getfield 44, 3) := by decide +kernel
theorem d_Fb_run_37 : decode b_Fb_run 37 = .ok (.aload_n 0, 1) := by decide +kernel
theorem d_Fb_run_38 : decode b_Fb_run 38 = .ok (.getfield 12, 3) := by decide +kernel
theorem d_Fb_run_41 : decode b_Fb_run 41 = .ok (.aload_n 0, 1) := by decide +kernel
theorem d_Fb_run_42 : decode b_Fb_run 42 = .ok (.getfield 19, 3) := by decide +kernel
theorem d_Fb_run_45 : decode b_Fb_run 45 = .ok (.aload_n 0, 1) := by decide +kernel
theorem d_Fb_run_46 : decode b_Fb_run 46 = .ok (.getfield 37, 3) := by decide +kernel
theorem d_Fb_run_49 : decode b_Fb_run 49 = .ok (.invokevirtual 135, 3) := by decide +kernel
theorem d_Fb_run_52 : decode b_Fb_run 52 = .ok (.aload_n 0, 1) := by decide +kernel
theorem d_Fb_run_53 : decode b_Fb_run 53 = .ok (.getfield 51, 3) := by decide +kernel
theorem d_Fb_run_56 : decode b_Fb_run 56 = .ok (.getfield 139, 3) := by decide +kernel
theorem d_Fb_run_59 : decode b_Fb_run 59 = .ok (.ireturn, 1) := by decide +kernel
theorem d_Fb_at_0 : decode b_Fb_at 0 = .ok (.aload_n 0, 1) := by decide +kernel
theorem d_Fb_at_1 : decode b_Fb_at 1 = .ok (.invokevirtual 142, 3) := by decide +kernel
theorem d_Fb_at_4 : decode b_Fb_at 4 = .ok (.iload_n 1, 1) := by decide +kernel
theorem d_Fb_at_5 : decode b_Fb_at 5 = .ok (.aload_n 0, 1) := by decide +kernel
theorem d_Fb_at_6 : decode b_Fb_at 6 = .ok (.getfield 19, 3) := by decide +kernel
theorem d_Fb_at_9 : decode b_Fb_at 9 = .ok (.getfield 98, 3) := by decide +kernel
theorem d_Fb_at_12 : decode b_Fb_at 12 = .ok (.invokestatic 102, 3) := by decide +kernel
theorem d_Fb_at_15 : decode b_Fb_at 15 = .ok (.ifCond .eq 11, 3) := by decide +kernel
theorem d_Fb_at_18 : decode b_Fb_at 18 = .ok (.iload_n 2, 1) := by decide +kernel
theorem d_Fb_at_19 : decode b_Fb_at 19 = .ok (.iconst 4, 1) := by decide +kernel
theorem d_Fb_at_20 : decode b_Fb_at 20 = .ok (.invokestatic 102, 3) := by decide +kernel
theorem d_Fb_at_23 : decode b_Fb_at 23 = .ok (.ifCond .ne 13, 3) := by decide +kernel
theorem d_Fb_at_26 : decode b_Fb_at 26 = .ok (.new 106, 3) := by decide +kernel
theorem d_Fb_at_29 : decode b_Fb_at 29 = .ok (.dup, 1) := by decide +kernel
theorem d_Fb_at_30 : decode b_Fb_at 30 = .ok (.ldc 145, 2) := by decide +kernel
theorem d_Fb_at_32 : decode b_Fb_at 32 = .ok (.invokespecial 110, 3) := by decide +kernel
theorem d_Fb_at_35 : decode b_Fb_at 35 = .ok (.athrow, 1) := by decide +kernel
theorem d_Fb_at_36 : decode b_Fb_at 36 = .ok (.aload_n 0, 1) := by decide +kernel
theorem d_Fb_at_37 : decode b_Fb_at 37 = .ok (.getfield 51, 3) := by decide +kernel
theorem d_Fb_at_40 : decode b_Fb_at 40 = .ok (.getfield 147, 3) := by decide +kernel
theorem d_Fb_at_43 : decode b_Fb_at 43 = .ok (.iload_n 1, 1) := by decide +kernel
theorem d_Fb_at_44 : decode b_Fb_at 44 = .ok (.aaload, 1) := by decide +kernel
theorem d_Fb_at_45 : decode b_Fb_at 45 = .ok (.iload_n 2, 1) := by decide +kernel
theorem d_Fb_at_46 : decode b_Fb_at 46 = .ok (.iaload, 1) := by decide +kernel
theorem d_Fb_at_47 : decode b_Fb_at 47 = .ok (.ireturn, 1) := by decide +kernel
theorem d_Fb_box_0 : decode b_Fb_box 0 = .ok (.aload_n 0, 1) := by decide +kernel
theorem d_Fb_box_1 : decode b_Fb_box 1 = .ok (.invokevirtual 142, 3) := by decide +kernel
theorem d_Fb_box_4 : decode b_Fb_box 4 = .ok (.iload_n 1, 1) := by decide +kernel
theorem d_Fb_box_5 : decode b_Fb_box 5 = .ok (.aload_n 0, 1) := by decide +kernel
theorem d_Fb_box_6 : decode b_Fb_box 6 = .ok (.getfield 51, 3) := by decide +kernel
theorem d_Fb_box_9 : decode b_Fb_box 9 = .ok (.getfield 139, 3) := by decide +kernel
theorem d_Fb_box_12 : decode b_Fb_box 12 = .ok (.invokestatic 102, 3) := by decide +kernel
theorem d_Fb_box_15 : decode b_Fb_box 15 = .ok (.ifCond .eq 11, 3) := by decide +kernel
theorem d_Fb_box_18 : decode b_Fb_box 18 = .ok (.iload_n 2, 1) := by decide +kernel
theorem d_Fb_box_19 : decode b_Fb_box 19 = .ok (.iconst 5, 1) := by decide +kernel
theorem d_Fb_box_20 : decode b_Fb_box 20 = .ok (.invokestatic 102, 3) := by decide +kernel
theorem d_Fb_box_23 : decode b_Fb_box 23 = .ok (.ifCond .ne 13, 3) := by decide +kernel
theorem d_Fb_box_26 : decode b_Fb_box 26 = .ok (.new 106, 3) := by decide +kernel
theorem d_Fb_box_29 : decode b_Fb_box 29 = .ok (.dup, 1) := by decide +kernel
theorem d_Fb_box_30 : decode b_Fb_box 30 = .ok (.ldc 151, 2) := by decide +kernel
theorem d_Fb_box_32 : decode b_Fb_box 32 = .ok (.invokespecial 110, 3) := by decide +kernel
theorem d_Fb_box_35 : decode b_Fb_box 35 = .ok (.athrow, 1) := by decide +kernel
theorem d_Fb_box_36 : decode b_Fb_box 36 = .ok (.aload_n 0, 1) := by decide +kernel
theorem d_Fb_box_37 : decode b_Fb_box 37 = .ok (.getfield 51, 3) := by decide +kernel
theorem d_Fb_box_40 : decode b_Fb_box 40 = .ok (.getfield 153, 3) := by decide +kernel
theorem d_Fb_box_43 : decode b_Fb_box 43 = .ok (.iload_n 1, 1) := by decide +kernel
theorem d_Fb_box_44 : decode b_Fb_box 44 = .ok (.aaload, 1) := by decide +kernel
theorem d_Fb_box_45 : decode b_Fb_box 45 = .ok (.iload_n 2, 1) := by decide +kernel
theorem d_Fb_box_46 : decode b_Fb_box 46 = .ok (.iaload, 1) := by decide +kernel
theorem d_Fb_box_47 : decode b_Fb_box 47 = .ok (.ireturn, 1) := by decide +kernel
theorem d_Fb_cost_0 : decode b_Fb_cost 0 = .ok (.aload_n 0, 1) := by decide +kernel
theorem d_Fb_cost_1 : decode b_Fb_cost 1 = .ok (.invokevirtual 142, 3) := by decide +kernel
theorem d_Fb_cost_4 : decode b_Fb_cost 4 = .ok (.aload_n 0, 1) := by decide +kernel
theorem d_Fb_cost_5 : decode b_Fb_cost 5 = .ok (.getfield 51, 3) := by decide +kernel
theorem d_Fb_cost_8 : decode b_Fb_cost 8 = .ok (.getfield 156, 3) := by decide +kernel
theorem d_Fb_cost_11 : decode b_Fb_cost 11 = .ok (.ireturn, 1) := by decide +kernel
theorem d_Fb_manual_0 : decode b_Fb_manual 0 = .ok (.iload_n 1, 1) := by decide +kernel
theorem d_Fb_manual_1 : decode b_Fb_manual 1 = .ok (.aload_n 0, 1) := by decide +kernel
theorem d_Fb_manual_2 : decode b_Fb_manual 2 = .ok (.getfield 19, 3) := by decide +kernel
theorem d_Fb_manual_5 : decode b_Fb_manual 5 = .ok (.getfield 98, 3) := by decide +kernel
theorem d_Fb_manual_8 : decode b_Fb_manual 8 = .ok (.invokestatic 102, 3) := by decide +kernel
theorem d_Fb_manual_11 : decode b_Fb_manual 11 = .ok (.ifCond .ne 13, 3) := by decide +kernel
theorem d_Fb_manual_14 : decode b_Fb_manual 14 = .ok (.new 106, 3) := by decide +kernel
theorem d_Fb_manual_17 : decode b_Fb_manual 17 = .ok (.dup, 1) := by decide +kernel
theorem d_Fb_manual_18 : decode b_Fb_manual 18 = .ok (.ldc 159, 2) := by decide +kernel
theorem d_Fb_manual_20 : decode b_Fb_manual 20 = .ok (.invokespecial 110, 3) := by decide +kernel
theorem d_Fb_manual_23 : decode b_Fb_manual 23 = .ok (.athrow, 1) := by decide +kernel
theorem d_Fb_manual_24 : decode b_Fb_manual 24 = .ok (.aload_n 0, 1) := by decide +kernel
theorem d_Fb_manual_25 : decode b_Fb_manual 25 = .ok (.getfield 19, 3) := by decide +kernel
theorem d_Fb_manual_28 : decode b_Fb_manual 28 = .ok (.getfield 161, 3) := by decide +kernel
theorem d_Fb_manual_31 : decode b_Fb_manual 31 = .ok (.iload_n 1, 1) := by decide +kernel
theorem d_Fb_manual_32 : decode b_Fb_manual 32 = .ok (.iaload, 1) := by decide +kernel
theorem d_Fb_manual_33 : decode b_Fb_manual 33 = .ok (.ireturn, 1) := by decide +kernel
theorem d_Fb_bag_0 : decode b_Fb_bag 0 = .ok (.aload_n 0, 1) := by decide +kernel
theorem d_Fb_bag_1 : decode b_Fb_bag 1 = .ok (.getfield 58, 3) := by decide +kernel
theorem d_Fb_bag_4 : decode b_Fb_bag 4 = .ok (.getfield 165, 3) := by decide +kernel
theorem d_Fb_bag_7 : decode b_Fb_bag 7 = .ok (.iconst 4, 1) := by decide +kernel
theorem d_Fb_bag_8 : decode b_Fb_bag 8 = .ok (.if_icmp .lt 13, 3) := by decide +kernel
theorem d_Fb_bag_11 : decode b_Fb_bag 11 = .ok (.new 83, 3) := by decide +kernel
theorem d_Fb_bag_14 : decode b_Fb_bag 14 = .ok (.dup, 1) := by decide +kernel
theorem d_Fb_bag_15 : decode b_Fb_bag 15 = .ok (.ldc 166, 2) := by decide +kernel
theorem d_Fb_bag_17 : decode b_Fb_bag 17 = .ok (.invokespecial 87, 3) := by decide +kernel
theorem d_Fb_bag_20 : decode b_Fb_bag 20 = .ok (.athrow, 1) := by decide +kernel
theorem d_Fb_bag_21 : decode b_Fb_bag 21 = .ok (.aload_n 0, 1) := by decide +kernel
theorem d_Fb_bag_22 : decode b_Fb_bag 22 = .ok (.getfield 58, 3) := by decide +kernel
theorem d_Fb_bag_25 : decode b_Fb_bag 25 = .ok (.invokevirtual 168, 3) := by decide +kernel
theorem d_Fb_bag_28 : decode b_Fb_bag 28 = .ok (.ireturn, 1) := by decide +kernel
theorem d_Fb_into_0 : decode b_Fb_into 0 = .ok (.iload_n 1, 1) := by decide +kernel
theorem d_Fb_into_1 : decode b_Fb_into 1 = .ok (.aload_n 0, 1) := by decide +kernel
theorem d_Fb_into_2 : decode b_Fb_into 2 = .ok (.getfield 58, 3) := by decide +kernel
theorem d_Fb_into_5 : decode b_Fb_into 5 = .ok (.getfield 165, 3) := by decide +kernel
theorem d_Fb_into_8 : decode b_Fb_into 8 = .ok (.invokestatic 102, 3) := by decide +kernel
theorem d_Fb_into_11 : decode b_Fb_into 11 = .ok (.ifCond .ne 13, 3) := by decide +kernel
theorem d_Fb_into_14 : decode b_Fb_into 14 = .ok (.new 106, 3) := by decide +kernel
theorem d_Fb_into_17 : decode b_Fb_into 17 = .ok (.dup, 1) := by decide +kernel
theorem d_Fb_into_18 : decode b_Fb_into 18 = .ok (.ldc 170, 2) := by decide +kernel
theorem d_Fb_into_20 : decode b_Fb_into 20 = .ok (.invokespecial 110, 3) := by decide +kernel
theorem d_Fb_into_23 : decode b_Fb_into 23 = .ok (.athrow, 1) := by decide +kernel
theorem d_Fb_into_24 : decode b_Fb_into 24 = .ok (.iload_n 2, 1) := by decide +kernel
theorem d_Fb_into_25 : decode b_Fb_into 25 = .ok (.iconst 0, 1) := by decide +kernel
theorem d_Fb_into_26 : decode b_Fb_into 26 = .ok (.sipush 1000, 3) := by decide +kernel
theorem d_Fb_into_29 : decode b_Fb_into 29 = .ok (.invokestatic 74, 3) := by decide +kernel
theorem d_Fb_into_32 : decode b_Fb_into 32 = .ok (.ifCond .eq 14, 3) := by decide +kernel
theorem d_Fb_into_35 : decode b_Fb_into 35 = .ok (.iload_n 3, 1) := by decide +kernel
theorem d_Fb_into_36 : decode b_Fb_into 36 = .ok (.iconst 1, 1) := by decide +kernel
theorem d_Fb_into_37 : decode b_Fb_into 37 = .ok (.sipush 1000, 3) := by decide +kernel
theorem d_Fb_into_40 : decode b_Fb_into 40 = .ok (.invokestatic 74, 3) := by decide +kernel
theorem d_Fb_into_43 : decode b_Fb_into 43 = .ok (.ifCond .ne 13, 3) := by decide +kernel
theorem d_Fb_into_46 : decode b_Fb_into 46 = .ok (.new 66, 3) := by decide +kernel
theorem d_Fb_into_49 : decode b_Fb_into 49 = .ok (.dup, 1) := by decide +kernel
theorem d_Fb_into_50 : decode b_Fb_into 50 = .ok (.ldc 172, 2) := by decide +kernel
theorem d_Fb_into_52 : decode b_Fb_into 52 = .ok (.invokespecial 70, 3) := by decide +kernel
theorem d_Fb_into_55 : decode b_Fb_into 55 = .ok (.athrow, 1) := by decide +kernel
theorem d_Fb_into_56 : decode b_Fb_into 56 = .ok (.iload 4, 2) := by decide +kernel
theorem d_Fb_into_58 : decode b_Fb_into 58 = .ok (.iconst 0, 1) := by decide +kernel
theorem d_Fb_into_59 : decode b_Fb_into 59 = .ok (.iload_n 3, 1) := by decide +kernel
theorem d_Fb_into_60 : decode b_Fb_into 60 = .ok (.invokestatic 74, 3) := by decide +kernel
theorem d_Fb_into_63 : decode b_Fb_into 63 = .ok (.ifCond .ne 13, 3) := by decide +kernel
theorem d_Fb_into_66 : decode b_Fb_into 66 = .ok (.new 66, 3) := by decide +kernel
theorem d_Fb_into_69 : decode b_Fb_into 69 = .ok (.dup, 1) := by decide +kernel
theorem d_Fb_into_70 : decode b_Fb_into 70 = .ok (.ldc 174, 2) := by decide +kernel
theorem d_Fb_into_72 : decode b_Fb_into 72 = .ok (.invokespecial 70, 3) := by decide +kernel
theorem d_Fb_into_75 : decode b_Fb_into 75 = .ok (.athrow, 1) := by decide +kernel
theorem d_Fb_into_76 : decode b_Fb_into 76 = .ok (.aload_n 0, 1) := by decide +kernel
theorem d_Fb_into_77 : decode b_Fb_into 77 = .ok (.getfield 58, 3) := by decide +kernel
theorem d_Fb_into_80 : decode b_Fb_into 80 = .ok (.getfield 176, 3) := by decide +kernel
theorem d_Fb_into_83 : decode b_Fb_into 83 = .ok (.iload_n 1, 1) := by decide +kernel
theorem d_Fb_into_84 : decode b_Fb_into 84 = .ok (.iaload, 1) := by decide +kernel
theorem d_Fb_into_85 : decode b_Fb_into 85 = .ok (.bipush 6, 2) := by decide +kernel
theorem d_Fb_into_87 : decode b_Fb_into 87 = .ok (.if_icmp .lt 13, 3) := by decide +kernel
theorem d_Fb_into_90 : decode b_Fb_into 90 = .ok (.new 83, 3) := by decide +kernel
theorem d_Fb_into_93 : decode b_Fb_into 93 = .ok (.dup, 1) := by decide +kernel
theorem d_Fb_into_94 : decode b_Fb_into 94 = .ok (.ldc 179, 2) := by decide +kernel
theorem d_Fb_into_96 : decode b_Fb_into 96 = .ok (.invokespecial 87, 3) := by decide +kernel
theorem d_Fb_into_99 : decode b_Fb_into 99 = .ok (.athrow, 1) := by decide +kernel
theorem d_Fb_into_100 : decode b_Fb_into 100 = .ok (.aload_n 0, 1) := by decide +kernel
theorem d_Fb_into_101 : decode b_Fb_into 101 = .ok (.getfield 58, 3) := by decide +kernel
theorem d_Fb_into_104 : decode b_Fb_into 104 = .ok (.iload_n 1, 1) := by decide +kernel
theorem d_Fb_into_105 : decode b_Fb_into 105 = .ok (.iload_n 2, 1) := by decide +kernel
theorem d_Fb_into_106 : decode b_Fb_into 106 = .ok (.iload_n 3, 1) := by decide +kernel
theorem d_Fb_into_107 : decode b_Fb_into 107 = .ok (.iload 4, 2) := by decide +kernel
theorem d_Fb_into_109 : decode b_Fb_into 109 = .ok (.invokevirtual 181, 3) := by decide +kernel
theorem d_Fb_into_112 : decode b_Fb_into 112 = .ok (.ireturn, 1) := by decide +kernel
theorem d_Fb_counted_0 : decode b_Fb_counted 0 = .ok (.iload_n 1, 1) := by decide +kernel
theorem d_Fb_counted_1 : decode b_Fb_counted 1 = .ok (.aload_n 0, 1) := by decide +kernel
theorem d_Fb_counted_2 : decode b_Fb_counted 2 = .ok (.getfield 58, 3) := by decide +kernel
theorem d_Fb_counted_5 : decode b_Fb_counted 5 = .ok (.getfield 165, 3) := by decide +kernel
theorem d_Fb_counted_8 : decode b_Fb_counted 8 = .ok (.invokestatic 102, 3) := by decide +kernel
theorem d_Fb_counted_11 : decode b_Fb_counted 11 = .ok (.ifCond .ne 13, 3) := by decide +kernel
theorem d_Fb_counted_14 : decode b_Fb_counted 14 = .ok (.new 106, 3) := by decide +kernel
theorem d_Fb_counted_17 : decode b_Fb_counted 17 = .ok (.dup, 1) := by decide +kernel
theorem d_Fb_counted_18 : decode b_Fb_counted 18 = .ok (.ldc 170, 2) := by decide +kernel
theorem d_Fb_counted_20 : decode b_Fb_counted 20 = .ok (.invokespecial 110, 3) := by decide +kernel
theorem d_Fb_counted_23 : decode b_Fb_counted 23 = .ok (.athrow, 1) := by decide +kernel
theorem d_Fb_counted_24 : decode b_Fb_counted 24 = .ok (.iload_n 2, 1) := by decide +kernel
theorem d_Fb_counted_25 : decode b_Fb_counted 25 = .ok (.ifCond .ge 13, 3) := by decide +kernel
theorem d_Fb_counted_28 : decode b_Fb_counted 28 = .ok (.new 66, 3) := by decide +kernel
theorem d_Fb_counted_31 : decode b_Fb_counted 31 = .ok (.dup, 1) := by decide +kernel
theorem d_Fb_counted_32 : decode b_Fb_counted 32 = .ok (.ldc 185, 2) := by decide +kernel
theorem d_Fb_counted_34 : decode b_Fb_counted 34 = .ok (.invokespecial 70, 3) := by decide +kernel
theorem d_Fb_counted_37 : decode b_Fb_counted 37 = .ok (.athrow, 1) := by decide +kernel
theorem d_Fb_counted_38 : decode b_Fb_counted 38 = .ok (.aload_n 0, 1) := by decide +kernel
theorem d_Fb_counted_39 : decode b_Fb_counted 39 = .ok (.getfield 58, 3) := by decide +kernel
theorem d_Fb_counted_42 : decode b_Fb_counted 42 = .ok (.iload_n 1, 1) := by decide +kernel
theorem d_Fb_counted_43 : decode b_Fb_counted 43 = .ok (.iload_n 2, 1) := by decide +kernel
theorem d_Fb_counted_44 : decode b_Fb_counted 44 = .ok (.invokevirtual 187, 3) := by decide +kernel
theorem d_Fb_counted_47 : decode b_Fb_counted 47 = .ok (.ireturn, 1) := by decide +kernel
theorem d_Fb_raised_0 : decode b_Fb_raised 0 = .ok (.aload_n 0, 1) := by decide +kernel
theorem d_Fb_raised_1 : decode b_Fb_raised 1 = .ok (.invokevirtual 142, 3) := by decide +kernel
theorem d_Fb_raised_4 : decode b_Fb_raised 4 = .ok (.iload_n 1, 1) := by decide +kernel
theorem d_Fb_raised_5 : decode b_Fb_raised 5 = .ok (.aload_n 0, 1) := by decide +kernel
theorem d_Fb_raised_6 : decode b_Fb_raised 6 = .ok (.getfield 51, 3) := by decide +kernel
theorem d_Fb_raised_9 : decode b_Fb_raised 9 = .ok (.getfield 139, 3) := by decide +kernel
theorem d_Fb_raised_12 : decode b_Fb_raised 12 = .ok (.invokestatic 102, 3) := by decide +kernel
theorem d_Fb_raised_15 : decode b_Fb_raised 15 = .ok (.ifCond .ne 13, 3) := by decide +kernel
theorem d_Fb_raised_18 : decode b_Fb_raised 18 = .ok (.new 106, 3) := by decide +kernel
theorem d_Fb_raised_21 : decode b_Fb_raised 21 = .ok (.dup, 1) := by decide +kernel
theorem d_Fb_raised_22 : decode b_Fb_raised 22 = .ok (.ldc 190, 2) := by decide +kernel
theorem d_Fb_raised_24 : decode b_Fb_raised 24 = .ok (.invokespecial 110, 3) := by decide +kernel
theorem d_Fb_raised_27 : decode b_Fb_raised 27 = .ok (.athrow, 1) := by decide +kernel
theorem d_Fb_raised_28 : decode b_Fb_raised 28 = .ok (.iload_n 2, 1) := by decide +kernel
theorem d_Fb_raised_29 : decode b_Fb_raised 29 = .ok (.iconst 1, 1) := by decide +kernel
theorem d_Fb_raised_30 : decode b_Fb_raised 30 = .ok (.sipush 1000, 3) := by decide +kernel
theorem d_Fb_raised_33 : decode b_Fb_raised 33 = .ok (.invokestatic 74, 3) := by decide +kernel
theorem d_Fb_raised_36 : decode b_Fb_raised 36 = .ok (.ifCond .ne 13, 3) := by decide +kernel
theorem d_Fb_raised_39 : decode b_Fb_raised 39 = .ok (.new 66, 3) := by decide +kernel
theorem d_Fb_raised_42 : decode b_Fb_raised 42 = .ok (.dup, 1) := by decide +kernel
theorem d_Fb_raised_43 : decode b_Fb_raised 43 = .ok (.ldc 192, 2) := by decide +kernel
theorem d_Fb_raised_45 : decode b_Fb_raised 45 = .ok (.invokespecial 70, 3) := by decide +kernel
theorem d_Fb_raised_48 : decode b_Fb_raised 48 = .ok (.athrow, 1) := by decide +kernel
theorem d_Fb_raised_49 : decode b_Fb_raised 49 = .ok (.aload_n 0, 1) := by decide +kernel
theorem d_Fb_raised_50 : decode b_Fb_raised 50 = .ok (.getfield 51, 3) := by decide +kernel
theorem d_Fb_raised_53 : decode b_Fb_raised 53 = .ok (.getfield 153, 3) := by decide +kernel
theorem d_Fb_raised_56 : decode b_Fb_raised 56 = .ok (.iload_n 1, 1) := by decide +kernel
theorem d_Fb_raised_57 : decode b_Fb_raised 57 = .ok (.aaload, 1) := by decide +kernel
theorem d_Fb_raised_58 : decode b_Fb_raised 58 = .ok (.iconst 0, 1) := by decide +kernel
theorem d_Fb_raised_59 : decode b_Fb_raised 59 = .ok (.iaload, 1) := by decide +kernel
theorem d_Fb_raised_60 : decode b_Fb_raised 60 = .ok (.istore_n 3, 1) := by decide +kernel
theorem d_Fb_raised_61 : decode b_Fb_raised 61 = .ok (.aload_n 0, 1) := by decide +kernel
theorem d_Fb_raised_62 : decode b_Fb_raised 62 = .ok (.getfield 12, 3) := by decide +kernel
theorem d_Fb_raised_65 : decode b_Fb_raised 65 = .ok (.getfield 194, 3) := by decide +kernel
theorem d_Fb_raised_68 : decode b_Fb_raised 68 = .ok (.iload_n 3, 1) := by decide +kernel
theorem d_Fb_raised_69 : decode b_Fb_raised 69 = .ok (.iaload, 1) := by decide +kernel
theorem d_Fb_raised_70 : decode b_Fb_raised 70 = .ok (.istore 4, 2) := by decide +kernel
theorem d_Fb_raised_72 : decode b_Fb_raised 72 = .ok (.aload_n 0, 1) := by decide +kernel
theorem d_Fb_raised_73 : decode b_Fb_raised 73 = .ok (.getfield 12, 3) := by decide +kernel
theorem d_Fb_raised_76 : decode b_Fb_raised 76 = .ok (.getfield 197, 3) := by decide +kernel
theorem d_Fb_raised_79 : decode b_Fb_raised 79 = .ok (.iload_n 3, 1) := by decide +kernel
theorem d_Fb_raised_80 : decode b_Fb_raised 80 = .ok (.iaload, 1) := by decide +kernel
theorem d_Fb_raised_81 : decode b_Fb_raised 81 = .ok (.istore 5, 2) := by decide +kernel
theorem d_Fb_raised_83 : decode b_Fb_raised 83 = .ok (.iload 4, 2) := by decide +kernel
theorem d_Fb_raised_85 : decode b_Fb_raised 85 = .ok (.iload 4, 2) := by decide +kernel
theorem d_Fb_raised_87 : decode b_Fb_raised 87 = .ok (.imul, 1) := by decide +kernel
theorem d_Fb_raised_88 : decode b_Fb_raised 88 = .ok (.iload 5, 2) := by decide +kernel
theorem d_Fb_raised_90 : decode b_Fb_raised 90 = .ok (.iload 5, 2) := by decide +kernel
theorem d_Fb_raised_92 : decode b_Fb_raised 92 = .ok (.imul, 1) := by decide +kernel
theorem d_Fb_raised_93 : decode b_Fb_raised 93 = .ok (.iadd, 1) := by decide +kernel
theorem d_Fb_raised_94 : decode b_Fb_raised 94 = .ok (.iload_n 2, 1) := by decide +kernel
theorem d_Fb_raised_95 : decode b_Fb_raised 95 = .ok (.iload_n 2, 1) := by decide +kernel
theorem d_Fb_raised_96 : decode b_Fb_raised 96 = .ok (.imul, 1) := by decide +kernel
theorem d_Fb_raised_97 : decode b_Fb_raised 97 = .ok (.if_icmp .gt 7, 3) := by decide +kernel
theorem d_Fb_raised_100 : decode b_Fb_raised 100 = .ok (.iconst 1, 1) := by decide +kernel
theorem d_Fb_raised_101 : decode b_Fb_raised 101 = .ok (.goto 4, 3) := by decide +kernel
theorem d_Fb_raised_104 : decode b_Fb_raised 104 = .ok (.iconst 0, 1) := by decide +kernel
theorem d_Fb_raised_105 : decode b_Fb_raised 105 = .ok (.ireturn, 1) := by decide +kernel
theorem d_Fb_pallets_0 : decode b_Fb_pallets 0 = .ok (.aload_n 0, 1) := by decide +kernel
theorem d_Fb_pallets_1 : decode b_Fb_pallets 1 = .ok (.invokevirtual 142, 3) := by decide +kernel
theorem d_Fb_pallets_4 : decode b_Fb_pallets 4 = .ok (.iload_n 1, 1) := by decide +kernel
theorem d_Fb_pallets_5 : decode b_Fb_pallets 5 = .ok (.iconst 1, 1) := by decide +kernel
theorem d_Fb_pallets_6 : decode b_Fb_pallets 6 = .ok (.ldc 200, 2) := by decide +kernel
theorem d_Fb_pallets_8 : decode b_Fb_pallets 8 = .ok (.invokestatic 74, 3) := by decide +kernel
theorem d_Fb_pallets_11 : decode b_Fb_pallets 11 = .ok (.ifCond .ne 13, 3) := by decide +kernel
theorem d_Fb_pallets_14 : decode b_Fb_pallets 14 = .ok (.new 66, 3) := by decide +kernel
theorem d_Fb_pallets_17 : decode b_Fb_pallets 17 = .ok (.dup, 1) := by decide +kernel
theorem d_Fb_pallets_18 : decode b_Fb_pallets 18 = .ok (.ldc 201, 2) := by decide +kernel
theorem d_Fb_pallets_20 : decode b_Fb_pallets 20 = .ok (.invokespecial 70, 3) := by decide +kernel
theorem d_Fb_pallets_23 : decode b_Fb_pallets 23 = .ok (.athrow, 1) := by decide +kernel
theorem d_Fb_pallets_24 : decode b_Fb_pallets 24 = .ok (.aload_n 0, 1) := by decide +kernel
theorem d_Fb_pallets_25 : decode b_Fb_pallets 25 = .ok (.getfield 51, 3) := by decide +kernel
theorem d_Fb_pallets_28 : decode b_Fb_pallets 28 = .ok (.iload_n 1, 1) := by decide +kernel
theorem d_Fb_pallets_29 : decode b_Fb_pallets 29 = .ok (.invokevirtual 203, 3) := by decide +kernel
theorem d_Fb_pallets_32 : decode b_Fb_pallets 32 = .ok (.ireturn, 1) := by decide +kernel
theorem d_Fb_needShares_0 : decode b_Fb_needShares 0 = .ok (.aload_n 0, 1) := by decide +kernel
theorem d_Fb_needShares_1 : decode b_Fb_needShares 1 = .ok (.getfield 51, 3) := by decide +kernel
theorem d_Fb_needShares_4 : decode b_Fb_needShares 4 = .ok (.getfield 139, 3) := by decide +kernel
theorem d_Fb_needShares_7 : decode b_Fb_needShares 7 = .ok (.iconst (-1), 1) := by decide +kernel
theorem d_Fb_needShares_8 : decode b_Fb_needShares 8 = .ok (.if_icmp .ne 13, 3) := by decide +kernel
theorem d_Fb_needShares_11 : decode b_Fb_needShares 11 = .ok (.new 83, 3) := by decide +kernel
theorem d_Fb_needShares_14 : decode b_Fb_needShares 14 = .ok (.dup, 1) := by decide +kernel
theorem d_Fb_needShares_15 : decode b_Fb_needShares 15 = .ok (.ldc 207, 2) := by decide +kernel
theorem d_Fb_needShares_17 : decode b_Fb_needShares 17 = .ok (.invokespecial 87, 3) := by decide +kernel
theorem d_Fb_needShares_20 : decode b_Fb_needShares 20 = .ok (.athrow, 1) := by decide +kernel
theorem d_Fb_needShares_21 : decode b_Fb_needShares 21 = .ok (.return_, 1) := by decide +kernel
theorem d_Fb_isWithin_0 : decode b_Fb_isWithin 0 = .ok (.iload_n 0, 1) := by decide +kernel
theorem d_Fb_isWithin_1 : decode b_Fb_isWithin 1 = .ok (.iload_n 1, 1) := by decide +kernel
theorem d_Fb_isWithin_2 : decode b_Fb_isWithin 2 = .ok (.if_icmp .lt 12, 3) := by decide +kernel
theorem d_Fb_isWithin_5 : decode b_Fb_isWithin 5 = .ok (.iload_n 0, 1) := by decide +kernel
theorem d_Fb_isWithin_6 : decode b_Fb_isWithin 6 = .ok (.iload_n 2, 1) := by decide +kernel
theorem d_Fb_isWithin_7 : decode b_Fb_isWithin 7 = .ok (.if_icmp .gt 7, 3) := by decide +kernel
theorem d_Fb_isWithin_10 : decode b_Fb_isWithin 10 = .ok (.iconst 1, 1) := by decide +kernel
theorem d_Fb_isWithin_11 : decode b_Fb_isWithin 11 = .ok (.goto 4, 3) := by decide +kernel
theorem d_Fb_isWithin_14 : decode b_Fb_isWithin 14 = .ok (.iconst 0, 1) := by decide +kernel
theorem d_Fb_isWithin_15 : decode b_Fb_isWithin 15 = .ok (.ireturn, 1) := by decide +kernel
theorem d_Fb_isPlace_0 : decode b_Fb_isPlace 0 = .ok (.iload_n 0, 1) := by decide +kernel
theorem d_Fb_isPlace_1 : decode b_Fb_isPlace 1 = .ok (.ifCond .lt 12, 3) := by decide +kernel
theorem d_Fb_isPlace_4 : decode b_Fb_isPlace 4 = .ok (.iload_n 0, 1) := by decide +kernel
theorem d_Fb_isPlace_5 : decode b_Fb_isPlace 5 = .ok (.iload_n 1, 1) := by decide +kernel
theorem d_Fb_isPlace_6 : decode b_Fb_isPlace 6 = .ok (.if_icmp .ge 7, 3) := by decide +kernel
theorem d_Fb_isPlace_9 : decode b_Fb_isPlace 9 = .ok (.iconst 1, 1) := by decide +kernel
theorem d_Fb_isPlace_10 : decode b_Fb_isPlace 10 = .ok (.goto 4, 3) := by decide +kernel
theorem d_Fb_isPlace_13 : decode b_Fb_isPlace 13 = .ok (.iconst 0, 1) := by decide +kernel
theorem d_Fb_isPlace_14 : decode b_Fb_isPlace 14 = .ok (.ireturn, 1) := by decide +kernel
theorem d_Fb_areSides_0 : decode b_Fb_areSides 0 = .ok (.iload_n 0, 1) := by decide +kernel
theorem d_Fb_areSides_1 : decode b_Fb_areSides 1 = .ok (.iconst 1, 1) := by decide +kernel
theorem d_Fb_areSides_2 : decode b_Fb_areSides 2 = .ok (.bipush 100, 2) := by decide +kernel
theorem d_Fb_areSides_4 : decode b_Fb_areSides 4 = .ok (.invokestatic 74, 3) := by decide +kernel
theorem d_Fb_areSides_7 : decode b_Fb_areSides 7 = .ok (.ifCond .eq 27, 3) := by decide +kernel
theorem d_Fb_areSides_10 : decode b_Fb_areSides 10 = .ok (.iload_n 1, 1) := by decide +kernel
theorem d_Fb_areSides_11 : decode b_Fb_areSides 11 = .ok (.iconst 1, 1) := by decide +kernel
theorem d_Fb_areSides_12 : decode b_Fb_areSides 12 = .ok (.bipush 100, 2) := by decide +kernel
theorem d_Fb_areSides_14 : decode b_Fb_areSides 14 = .ok (.invokestatic 74, 3) := by decide +kernel
theorem d_Fb_areSides_17 : decode b_Fb_areSides 17 = .ok (.ifCond .eq 17, 3) := by decide +kernel
theorem d_Fb_areSides_20 : decode b_Fb_areSides 20 = .ok (.iload_n 2, 1) := by decide +kernel
theorem d_Fb_areSides_21 : decode b_Fb_areSides 21 = .ok (.iconst 1, 1) := by decide +kernel
theorem d_Fb_areSides_22 : decode b_Fb_areSides 22 = .ok (.bipush 100, 2) := by decide +kernel
theorem d_Fb_areSides_24 : decode b_Fb_areSides 24 = .ok (.invokestatic 74, 3) := by decide +kernel
theorem d_Fb_areSides_27 : decode b_Fb_areSides 27 = .ok (.ifCond .eq 7, 3) := by decide +kernel
theorem d_Fb_areSides_30 : decode b_Fb_areSides 30 = .ok (.iconst 1, 1) := by decide +kernel
theorem d_Fb_areSides_31 : decode b_Fb_areSides 31 = .ok (.goto 4, 3) := by decide +kernel
theorem d_Fb_areSides_34 : decode b_Fb_areSides 34 = .ok (.iconst 0, 1) := by decide +kernel
theorem d_Fb_areSides_35 : decode b_Fb_areSides 35 = .ok (.ireturn, 1) := by decide +kernel
theorem d_Fb_isIn_0 : decode b_Fb_isIn 0 = .ok (.iload_n 0, 1) := by decide +kernel
theorem d_Fb_isIn_1 : decode b_Fb_isIn 1 = .ok (.iload_n 1, 1) := by decide +kernel
theorem d_Fb_isIn_2 : decode b_Fb_isIn 2 = .ok (.ishr, 1) := by decide +kernel
theorem d_Fb_isIn_3 : decode b_Fb_isIn 3 = .ok (.iconst 1, 1) := by decide +kernel
theorem d_Fb_isIn_4 : decode b_Fb_isIn 4 = .ok (.iand, 1) := by decide +kernel
theorem d_Fb_isIn_5 : decode b_Fb_isIn 5 = .ok (.ifCond .eq 7, 3) := by decide +kernel
theorem d_Fb_isIn_8 : decode b_Fb_isIn 8 = .ok (.iconst 1, 1) := by decide +kernel
theorem d_Fb_isIn_9 : decode b_Fb_isIn 9 = .ok (.goto 4, 3) := by decide +kernel
theorem d_Fb_isIn_12 : decode b_Fb_isIn 12 = .ok (.iconst 0, 1) := by decide +kernel
theorem d_Fb_isIn_13 : decode b_Fb_isIn 13 = .ok (.ireturn, 1) := by decide +kernel
theorem d_Bg_init_0 : decode b_Bg_init 0 = .ok (.aload_n 0, 1) := by decide +kernel
theorem d_Bg_init_1 : decode b_Bg_init 1 = .ok (.invokespecial 3, 3) := by decide +kernel
theorem d_Bg_init_4 : decode b_Bg_init 4 = .ok (.aload_n 0, 1) := by decide +kernel
theorem d_Bg_init_5 : decode b_Bg_init 5 = .ok (.iconst 4, 1) := by decide +kernel
theorem d_Bg_init_6 : decode b_Bg_init 6 = .ok (.bipush 6, 2) := by decide +kernel
theorem d_Bg_init_8 : decode b_Bg_init 8 = .ok (.multianewarray 9 2, 4) := by decide +kernel
theorem d_Bg_init_12 : decode b_Bg_init 12 = .ok (.putfield 11, 3) := by decide +kernel
theorem d_Bg_init_15 : decode b_Bg_init 15 = .ok (.aload_n 0, 1) := by decide +kernel
theorem d_Bg_init_16 : decode b_Bg_init 16 = .ok (.iconst 4, 1) := by decide +kernel
theorem d_Bg_init_17 : decode b_Bg_init 17 = .ok (.bipush 6, 2) := by decide +kernel
theorem d_Bg_init_19 : decode b_Bg_init 19 = .ok (.multianewarray 9 2, 4) := by decide +kernel
theorem d_Bg_init_23 : decode b_Bg_init 23 = .ok (.putfield 16, 3) := by decide +kernel
theorem d_Bg_init_26 : decode b_Bg_init 26 = .ok (.aload_n 0, 1) := by decide +kernel
theorem d_Bg_init_27 : decode b_Bg_init 27 = .ok (.iconst 4, 1) := by decide +kernel
theorem d_Bg_init_28 : decode b_Bg_init 28 = .ok (.bipush 6, 2) := by decide +kernel
theorem d_Bg_init_30 : decode b_Bg_init 30 = .ok (.multianewarray 9 2, 4) := by decide +kernel
theorem d_Bg_init_34 : decode b_Bg_init 34 = .ok (.putfield 19, 3) := by decide +kernel
theorem d_Bg_init_37 : decode b_Bg_init 37 = .ok (.aload_n 0, 1) := by decide +kernel
theorem d_Bg_init_38 : decode b_Bg_init 38 = .ok (.iconst 4, 1) := by decide +kernel
theorem d_Bg_init_39 : decode b_Bg_init 39 = .ok (.newarray .int, 2) := by decide +kernel
theorem d_Bg_init_41 : decode b_Bg_init 41 = .ok (.putfield 22, 3) := by decide +kernel
theorem d_Bg_init_44 : decode b_Bg_init 44 = .ok (.aload_n 0, 1) := by decide +kernel
theorem d_Bg_init_45 : decode b_Bg_init 45 = .ok (.iconst 4, 1) := by decide +kernel
theorem d_Bg_init_46 : decode b_Bg_init 46 = .ok (.newarray .int, 2) := by decide +kernel
theorem d_Bg_init_48 : decode b_Bg_init 48 = .ok (.putfield 26, 3) := by decide +kernel
theorem d_Bg_init_51 : decode b_Bg_init 51 = .ok (.aload_n 0, 1) := by decide +kernel
theorem d_Bg_init_52 : decode b_Bg_init 52 = .ok (.iconst 4, 1) := by decide +kernel
theorem d_Bg_init_53 : decode b_Bg_init 53 = .ok (.newarray .int, 2) := by decide +kernel
theorem d_Bg_init_55 : decode b_Bg_init 55 = .ok (.putfield 29, 3) := by decide +kernel
theorem d_Bg_init_58 : decode b_Bg_init 58 = .ok (.return_, 1) := by decide +kernel
theorem d_Bg_add_0 : decode b_Bg_add 0 = .ok (.aload_n 0, 1) := by decide +kernel
theorem d_Bg_add_1 : decode b_Bg_add 1 = .ok (.getfield 32, 3) := by decide +kernel
theorem d_Bg_add_4 : decode b_Bg_add 4 = .ok (.istore_n 1, 1) := by decide +kernel
theorem d_Bg_add_5 : decode b_Bg_add 5 = .ok (.aload_n 0, 1) := by decide +kernel
theorem d_Bg_add_6 : decode b_Bg_add 6 = .ok (.iload_n 1, 1) := by decide +kernel
theorem d_Bg_add_7 : decode b_Bg_add 7 = .ok (.iconst 1, 1) := by decide +kernel
theorem d_Bg_add_8 : decode b_Bg_add 8 = .ok (.iadd, 1) := by decide +kernel
theorem d_Bg_add_9 : decode b_Bg_add 9 = .ok (.putfield 32, 3) := by decide +kernel
theorem d_Bg_add_12 : decode b_Bg_add 12 = .ok (.iload_n 1, 1) := by decide +kernel
theorem d_Bg_add_13 : decode b_Bg_add 13 = .ok (.ireturn, 1) := by decide +kernel
theorem d_Bg_addKind_0 : decode b_Bg_addKind 0 = .ok (.aload_n 0, 1) := by decide +kernel
theorem d_Bg_addKind_1 : decode b_Bg_addKind 1 = .ok (.getfield 29, 3) := by decide +kernel
theorem d_Bg_addKind_4 : decode b_Bg_addKind 4 = .ok (.iload_n 1, 1) := by decide +kernel
theorem d_Bg_addKind_5 : decode b_Bg_addKind 5 = .ok (.iaload, 1) := by decide +kernel
theorem d_Bg_addKind_6 : decode b_Bg_addKind 6 = .ok (.istore 5, 2) := by decide +kernel
theorem d_Bg_addKind_8 : decode b_Bg_addKind 8 = .ok (.aload_n 0, 1) := by decide +kernel
theorem d_Bg_addKind_9 : decode b_Bg_addKind 9 = .ok (.getfield 11, 3) := by decide +kernel
theorem d_Bg_addKind_12 : decode b_Bg_addKind 12 = .ok (.iload_n 1, 1) := by decide +kernel
theorem d_Bg_addKind_13 : decode b_Bg_addKind 13 = .ok (.aaload, 1) := by decide +kernel
theorem d_Bg_addKind_14 : decode b_Bg_addKind 14 = .ok (.iload 5, 2) := by decide +kernel
theorem d_Bg_addKind_16 : decode b_Bg_addKind 16 = .ok (.iload_n 2, 1) := by decide +kernel
theorem d_Bg_addKind_17 : decode b_Bg_addKind 17 = .ok (.iastore, 1) := by decide +kernel
theorem d_Bg_addKind_18 : decode b_Bg_addKind 18 = .ok (.aload_n 0, 1) := by decide +kernel
theorem d_Bg_addKind_19 : decode b_Bg_addKind 19 = .ok (.getfield 16, 3) := by decide +kernel
theorem d_Bg_addKind_22 : decode b_Bg_addKind 22 = .ok (.iload_n 1, 1) := by decide +kernel
theorem d_Bg_addKind_23 : decode b_Bg_addKind 23 = .ok (.aaload, 1) := by decide +kernel
theorem d_Bg_addKind_24 : decode b_Bg_addKind 24 = .ok (.iload 5, 2) := by decide +kernel
theorem d_Bg_addKind_26 : decode b_Bg_addKind 26 = .ok (.iload_n 3, 1) := by decide +kernel
theorem d_Bg_addKind_27 : decode b_Bg_addKind 27 = .ok (.iastore, 1) := by decide +kernel
theorem d_Bg_addKind_28 : decode b_Bg_addKind 28 = .ok (.aload_n 0, 1) := by decide +kernel
theorem d_Bg_addKind_29 : decode b_Bg_addKind 29 = .ok (.getfield 19, 3) := by decide +kernel
theorem d_Bg_addKind_32 : decode b_Bg_addKind 32 = .ok (.iload_n 1, 1) := by decide +kernel
theorem d_Bg_addKind_33 : decode b_Bg_addKind 33 = .ok (.aaload, 1) := by decide +kernel
theorem d_Bg_addKind_34 : decode b_Bg_addKind 34 = .ok (.iload 5, 2) := by decide +kernel
theorem d_Bg_addKind_36 : decode b_Bg_addKind 36 = .ok (.iload 4, 2) := by decide +kernel
theorem d_Bg_addKind_38 : decode b_Bg_addKind 38 = .ok (.iastore, 1) := by decide +kernel
theorem d_Bg_addKind_39 : decode b_Bg_addKind 39 = .ok (.aload_n 0, 1) := by decide +kernel
theorem d_Bg_addKind_40 : decode b_Bg_addKind 40 = .ok (.getfield 22, 3) := by decide +kernel
theorem d_Bg_addKind_43 : decode b_Bg_addKind 43 = .ok (.iload_n 1, 1) := by decide +kernel
theorem d_Bg_addKind_44 : decode b_Bg_addKind 44 = .ok (.dup2, 1) := by decide +kernel
theorem d_Bg_addKind_45 : decode b_Bg_addKind 45 = .ok (.iaload, 1) := by decide +kernel
theorem d_Bg_addKind_46 : decode b_Bg_addKind 46 = .ok (.iload_n 2, 1) := by decide +kernel
theorem d_Bg_addKind_47 : decode b_Bg_addKind 47 = .ok (.iload_n 3, 1) := by decide +kernel
theorem d_Bg_addKind_48 : decode b_Bg_addKind 48 = .ok (.imul, 1) := by decide +kernel
theorem d_Bg_addKind_49 : decode b_Bg_addKind 49 = .ok (.iadd, 1) := by decide +kernel
theorem d_Bg_addKind_50 : decode b_Bg_addKind 50 = .ok (.iastore, 1) := by decide +kernel
theorem d_Bg_addKind_51 : decode b_Bg_addKind 51 = .ok (.aload_n 0, 1) := by decide +kernel
theorem d_Bg_addKind_52 : decode b_Bg_addKind 52 = .ok (.getfield 26, 3) := by decide +kernel
theorem d_Bg_addKind_55 : decode b_Bg_addKind 55 = .ok (.iload_n 1, 1) := by decide +kernel
theorem d_Bg_addKind_56 : decode b_Bg_addKind 56 = .ok (.dup2, 1) := by decide +kernel
theorem d_Bg_addKind_57 : decode b_Bg_addKind 57 = .ok (.iaload, 1) := by decide +kernel
theorem d_Bg_addKind_58 : decode b_Bg_addKind 58 = .ok (.iload_n 2, 1) := by decide +kernel
theorem d_Bg_addKind_59 : decode b_Bg_addKind 59 = .ok (.iload 4, 2) := by decide +kernel
theorem d_Bg_addKind_61 : decode b_Bg_addKind 61 = .ok (.imul, 1) := by decide +kernel
theorem d_Bg_addKind_62 : decode b_Bg_addKind 62 = .ok (.iadd, 1) := by decide +kernel
theorem d_Bg_addKind_63 : decode b_Bg_addKind 63 = .ok (.iastore, 1) := by decide +kernel
theorem d_Bg_addKind_64 : decode b_Bg_addKind 64 = .ok (.aload_n 0, 1) := by decide +kernel
theorem d_Bg_addKind_65 : decode b_Bg_addKind 65 = .ok (.getfield 29, 3) := by decide +kernel
theorem d_Bg_addKind_68 : decode b_Bg_addKind 68 = .ok (.iload_n 1, 1) := by decide +kernel
theorem d_Bg_addKind_69 : decode b_Bg_addKind 69 = .ok (.iload 5, 2) := by decide +kernel
theorem d_Bg_addKind_71 : decode b_Bg_addKind 71 = .ok (.iconst 1, 1) := by decide +kernel
theorem d_Bg_addKind_72 : decode b_Bg_addKind 72 = .ok (.iadd, 1) := by decide +kernel
theorem d_Bg_addKind_73 : decode b_Bg_addKind 73 = .ok (.iastore, 1) := by decide +kernel
theorem d_Bg_addKind_74 : decode b_Bg_addKind 74 = .ok (.aload_n 0, 1) := by decide +kernel
theorem d_Bg_addKind_75 : decode b_Bg_addKind 75 = .ok (.getfield 29, 3) := by decide +kernel
theorem d_Bg_addKind_78 : decode b_Bg_addKind 78 = .ok (.iload_n 1, 1) := by decide +kernel
theorem d_Bg_addKind_79 : decode b_Bg_addKind 79 = .ok (.iaload, 1) := by decide +kernel
theorem d_Bg_addKind_80 : decode b_Bg_addKind 80 = .ok (.ireturn, 1) := by decide +kernel
theorem d_Bg_judge_0 : decode b_Bg_judge 0 = .ok (.iload_n 2, 1) := by decide +kernel
theorem d_Bg_judge_1 : decode b_Bg_judge 1 = .ok (.aload_n 0, 1) := by decide +kernel
theorem d_Bg_judge_2 : decode b_Bg_judge 2 = .ok (.getfield 22, 3) := by decide +kernel
theorem d_Bg_judge_5 : decode b_Bg_judge 5 = .ok (.iload_n 1, 1) := by decide +kernel
theorem d_Bg_judge_6 : decode b_Bg_judge 6 = .ok (.iaload, 1) := by decide +kernel
theorem d_Bg_judge_7 : decode b_Bg_judge 7 = .ok (.aload_n 0, 1) := by decide +kernel
theorem d_Bg_judge_8 : decode b_Bg_judge 8 = .ok (.getfield 26, 3) := by decide +kernel
theorem d_Bg_judge_11 : decode b_Bg_judge 11 = .ok (.iload_n 1, 1) := by decide +kernel
theorem d_Bg_judge_12 : decode b_Bg_judge 12 = .ok (.iaload, 1) := by decide +kernel
theorem d_Bg_judge_13 : decode b_Bg_judge 13 = .ok (.invokestatic 36, 3) := by decide +kernel
theorem d_Bg_judge_16 : decode b_Bg_judge 16 = .ok (.ifCond .ne 5, 3) := by decide +kernel
theorem d_Bg_judge_19 : decode b_Bg_judge 19 = .ok (.iconst 0, 1) := by decide +kernel
theorem d_Bg_judge_20 : decode b_Bg_judge 20 = .ok (.ireturn, 1) := by decide +kernel
theorem d_Bg_judge_21 : decode b_Bg_judge 21 = .ok (.iconst 0, 1) := by decide +kernel
theorem d_Bg_judge_22 : decode b_Bg_judge 22 = .ok (.istore_n 3, 1) := by decide +kernel
theorem d_Bg_judge_23 : decode b_Bg_judge 23 = .ok (.iload_n 3, 1) := by decide +kernel
theorem d_Bg_judge_24 : decode b_Bg_judge 24 = .ok (.aload_n 0, 1) := by decide +kernel
theorem d_Bg_judge_25 : decode b_Bg_judge 25 = .ok (.getfield 29, 3) := by decide +kernel
theorem d_Bg_judge_28 : decode b_Bg_judge 28 = .ok (.iload_n 1, 1) := by decide +kernel
theorem d_Bg_judge_29 : decode b_Bg_judge 29 = .ok (.iaload, 1) := by decide +kernel
theorem d_Bg_judge_30 : decode b_Bg_judge 30 = .ok (.if_icmp .ge 31, 3) := by decide +kernel
theorem d_Bg_judge_33 : decode b_Bg_judge 33 = .ok (.aload_n 0, 1) := by decide +kernel
theorem d_Bg_judge_34 : decode b_Bg_judge 34 = .ok (.iload_n 1, 1) := by decide +kernel
theorem d_Bg_judge_35 : decode b_Bg_judge 35 = .ok (.iload_n 3, 1) := by decide +kernel
theorem d_Bg_judge_36 : decode b_Bg_judge 36 = .ok (.iload_n 2, 1) := by decide +kernel
theorem d_Bg_judge_37 : decode b_Bg_judge 37 = .ok (.invokevirtual 40, 3) := by decide +kernel
theorem d_Bg_judge_40 : decode b_Bg_judge 40 = .ok (.ifCond .ne 13, 3) := by decide +kernel
theorem d_Bg_judge_43 : decode b_Bg_judge 43 = .ok (.aload_n 0, 1) := by decide +kernel
theorem d_Bg_judge_44 : decode b_Bg_judge 44 = .ok (.iload_n 1, 1) := by decide +kernel
theorem d_Bg_judge_45 : decode b_Bg_judge 45 = .ok (.iload_n 3, 1) := by decide +kernel
theorem d_Bg_judge_46 : decode b_Bg_judge 46 = .ok (.iload_n 2, 1) := by decide +kernel
theorem d_Bg_judge_47 : decode b_Bg_judge 47 = .ok (.invokevirtual 43, 3) := by decide +kernel
theorem d_Bg_judge_50 : decode b_Bg_judge 50 = .ok (.ifCond .eq 5, 3) := by decide +kernel
theorem d_Bg_judge_53 : decode b_Bg_judge 53 = .ok (.iconst 2, 1) := by decide +kernel
theorem d_Bg_judge_54 : decode b_Bg_judge 54 = .ok (.ireturn, 1) := by decide +kernel
theorem d_Bg_judge_55 : decode b_Bg_judge 55 = .ok (.iinc 3 1, 3) := by decide +kernel
theorem d_Bg_judge_58 : decode b_Bg_judge 58 = .ok (.goto (-35), 3) := by decide +kernel
theorem d_Bg_judge_61 : decode b_Bg_judge 61 = .ok (.iconst 1, 1) := by decide +kernel
theorem d_Bg_judge_62 : decode b_Bg_judge 62 = .ok (.ireturn, 1) := by decide +kernel
theorem d_Bg_couldHaveOneMore_0 : decode b_Bg_couldHaveOneMore 0 = .ok (.iload_n 3, 1) := by decide +kernel
theorem d_Bg_couldHaveOneMore_1 : decode b_Bg_couldHaveOneMore 1 = .ok (.aload_n 0, 1) := by decide +kernel
theorem d_Bg_couldHaveOneMore_2 : decode b_Bg_couldHaveOneMore 2 = .ok (.getfield 22, 3) := by decide +kernel
theorem d_Bg_couldHaveOneMore_5 : decode b_Bg_couldHaveOneMore 5 = .ok (.iload_n 1, 1) := by decide +kernel
theorem d_Bg_couldHaveOneMore_6 : decode b_Bg_couldHaveOneMore 6 = .ok (.iaload, 1) := by decide +kernel
theorem d_Bg_couldHaveOneMore_7 : decode b_Bg_couldHaveOneMore 7 = .ok (.aload_n 0, 1) := by decide +kernel
theorem d_Bg_couldHaveOneMore_8 : decode b_Bg_couldHaveOneMore 8 = .ok (.getfield 16, 3) := by decide +kernel
theorem d_Bg_couldHaveOneMore_11 : decode b_Bg_couldHaveOneMore 11 = .ok (.iload_n 1, 1) := by decide +kernel
theorem d_Bg_couldHaveOneMore_12 : decode b_Bg_couldHaveOneMore 12 = .ok (.aaload, 1) := by decide +kernel
theorem d_Bg_couldHaveOneMore_13 : decode b_Bg_couldHaveOneMore 13 = .ok (.iload_n 2, 1) := by decide +kernel
theorem d_Bg_couldHaveOneMore_14 : decode b_Bg_couldHaveOneMore 14 = .ok (.iaload, 1) := by decide +kernel
theorem d_Bg_couldHaveOneMore_15 : decode b_Bg_couldHaveOneMore 15 = .ok (.iadd, 1) := by decide +kernel
theorem d_Bg_couldHaveOneMore_16 : decode b_Bg_couldHaveOneMore 16 = .ok (.aload_n 0, 1) := by decide +kernel
theorem d_Bg_couldHaveOneMore_17 : decode b_Bg_couldHaveOneMore 17 = .ok (.getfield 26, 3) := by decide +kernel
theorem d_Bg_couldHaveOneMore_20 : decode b_Bg_couldHaveOneMore 20 = .ok (.iload_n 1, 1) := by decide +kernel
theorem d_Bg_couldHaveOneMore_21 : decode b_Bg_couldHaveOneMore 21 = .ok (.iaload, 1) := by decide +kernel
theorem d_Bg_couldHaveOneMore_22 : decode b_Bg_couldHaveOneMore 22 = .ok (.aload_n 0, 1) := by decide +kernel
theorem d_Bg_couldHaveOneMore_23 : decode b_Bg_couldHaveOneMore 23 = .ok (.getfield 19, 3) := by decide +kernel
theorem d_Bg_couldHaveOneMore_26 : decode b_Bg_couldHaveOneMore 26 = .ok (.iload_n 1, 1) := by decide +kernel
theorem d_Bg_couldHaveOneMore_27 : decode b_Bg_couldHaveOneMore 27 = .ok (.aaload, 1) := by decide +kernel
theorem d_Bg_couldHaveOneMore_28 : decode b_Bg_couldHaveOneMore 28 = .ok (.iload_n 2, 1) := by decide +kernel
theorem d_Bg_couldHaveOneMore_29 : decode b_Bg_couldHaveOneMore 29 = .ok (.iaload, 1) := by decide +kernel
theorem d_Bg_couldHaveOneMore_30 : decode b_Bg_couldHaveOneMore 30 = .ok (.iadd, 1) := by decide +kernel
theorem d_Bg_couldHaveOneMore_31 : decode b_Bg_couldHaveOneMore 31 = .ok (.invokestatic 36, 3) := by decide +kernel
theorem d_Bg_couldHaveOneMore_34 : decode b_Bg_couldHaveOneMore 34 = .ok (.ireturn, 1) := by decide +kernel
theorem d_Bg_couldHaveOneLess_0 : decode b_Bg_couldHaveOneLess 0 = .ok (.aload_n 0, 1) := by decide +kernel
theorem d_Bg_couldHaveOneLess_1 : decode b_Bg_couldHaveOneLess 1 = .ok (.getfield 11, 3) := by decide +kernel
theorem d_Bg_couldHaveOneLess_4 : decode b_Bg_couldHaveOneLess 4 = .ok (.iload_n 1, 1) := by decide +kernel
theorem d_Bg_couldHaveOneLess_5 : decode b_Bg_couldHaveOneLess 5 = .ok (.aaload, 1) := by decide +kernel
theorem d_Bg_couldHaveOneLess_6 : decode b_Bg_couldHaveOneLess 6 = .ok (.iload_n 2, 1) := by decide +kernel
theorem d_Bg_couldHaveOneLess_7 : decode b_Bg_couldHaveOneLess 7 = .ok (.iaload, 1) := by decide +kernel
theorem d_Bg_couldHaveOneLess_8 : decode b_Bg_couldHaveOneLess 8 = .ok (.ifCond .le 44, 3) := by decide +kernel
theorem d_Bg_couldHaveOneLess_11 : decode b_Bg_couldHaveOneLess 11 = .ok (.iload_n 3, 1) := by decide +kernel
theorem d_Bg_couldHaveOneLess_12 : decode b_Bg_couldHaveOneLess 12 = .ok (.aload_n 0, 1) := by decide +kernel
theorem d_Bg_couldHaveOneLess_13 : decode b_Bg_couldHaveOneLess 13 = .ok (.getfield 22, 3) := by decide +kernel
theorem d_Bg_couldHaveOneLess_16 : decode b_Bg_couldHaveOneLess 16 = .ok (.iload_n 1, 1) := by decide +kernel
theorem d_Bg_couldHaveOneLess_17 : decode b_Bg_couldHaveOneLess 17 = .ok (.iaload, 1) := by decide +kernel
theorem d_Bg_couldHaveOneLess_18 : decode b_Bg_couldHaveOneLess 18 = .ok (.aload_n 0, 1) := by decide +kernel
theorem d_Bg_couldHaveOneLess_19 : decode b_Bg_couldHaveOneLess 19 = .ok (.getfield 16, 3) := by decide +kernel
theorem d_Bg_couldHaveOneLess_22 : decode b_Bg_couldHaveOneLess 22 = .ok (.iload_n 1, 1) := by decide +kernel
theorem d_Bg_couldHaveOneLess_23 : decode b_Bg_couldHaveOneLess 23 = .ok (.aaload, 1) := by decide +kernel
theorem d_Bg_couldHaveOneLess_24 : decode b_Bg_couldHaveOneLess 24 = .ok (.iload_n 2, 1) := by decide +kernel
theorem d_Bg_couldHaveOneLess_25 : decode b_Bg_couldHaveOneLess 25 = .ok (.iaload, 1) := by decide +kernel
theorem d_Bg_couldHaveOneLess_26 : decode b_Bg_couldHaveOneLess 26 = .ok (.isub, 1) := by decide +kernel
theorem d_Bg_couldHaveOneLess_27 : decode b_Bg_couldHaveOneLess 27 = .ok (.aload_n 0, 1) := by decide +kernel
theorem d_Bg_couldHaveOneLess_28 : decode b_Bg_couldHaveOneLess 28 = .ok (.getfield 26, 3) := by decide +kernel
theorem d_Bg_couldHaveOneLess_31 : decode b_Bg_couldHaveOneLess 31 = .ok (.iload_n 1, 1) := by decide +kernel
theorem d_Bg_couldHaveOneLess_32 : decode b_Bg_couldHaveOneLess 32 = .ok (.iaload, 1) := by decide +kernel
theorem d_Bg_couldHaveOneLess_33 : decode b_Bg_couldHaveOneLess 33 = .ok (.aload_n 0, 1) := by decide +kernel
theorem d_Bg_couldHaveOneLess_34 : decode b_Bg_couldHaveOneLess 34 = .ok (.getfield 19, 3) := by decide +kernel
theorem d_Bg_couldHaveOneLess_37 : decode b_Bg_couldHaveOneLess 37 = .ok (.iload_n 1, 1) := by decide +kernel
theorem d_Bg_couldHaveOneLess_38 : decode b_Bg_couldHaveOneLess 38 = .ok (.aaload, 1) := by decide +kernel
theorem d_Bg_couldHaveOneLess_39 : decode b_Bg_couldHaveOneLess 39 = .ok (.iload_n 2, 1) := by decide +kernel
theorem d_Bg_couldHaveOneLess_40 : decode b_Bg_couldHaveOneLess 40 = .ok (.iaload, 1) := by decide +kernel
theorem d_Bg_couldHaveOneLess_41 : decode b_Bg_couldHaveOneLess 41 = .ok (.isub, 1) := by decide +kernel
theorem d_Bg_couldHaveOneLess_42 : decode b_Bg_couldHaveOneLess 42 = .ok (.invokestatic 36, 3) := by decide +kernel
theorem d_Bg_couldHaveOneLess_45 : decode b_Bg_couldHaveOneLess 45 = .ok (.ifCond .eq 7, 3) := by decide +kernel
theorem d_Bg_couldHaveOneLess_48 : decode b_Bg_couldHaveOneLess 48 = .ok (.iconst 1, 1) := by decide +kernel
theorem d_Bg_couldHaveOneLess_49 : decode b_Bg_couldHaveOneLess 49 = .ok (.goto 4, 3) := by decide +kernel
theorem d_Bg_couldHaveOneLess_52 : decode b_Bg_couldHaveOneLess 52 = .ok (.iconst 0, 1) := by decide +kernel
theorem d_Bg_couldHaveOneLess_53 : decode b_Bg_couldHaveOneLess 53 = .ok (.ireturn, 1) := by decide +kernel
theorem d_Bg_isNear_0 : decode b_Bg_isNear 0 = .ok (.iload_n 0, 1) := by decide +kernel
theorem d_Bg_isNear_1 : decode b_Bg_isNear 1 = .ok (.iload_n 1, 1) := by decide +kernel
theorem d_Bg_isNear_2 : decode b_Bg_isNear 2 = .ok (.iload_n 2, 1) := by decide +kernel
theorem d_Bg_isNear_3 : decode b_Bg_isNear 3 = .ok (.isub, 1) := by decide +kernel
theorem d_Bg_isNear_4 : decode b_Bg_isNear 4 = .ok (.if_icmp .lt 14, 3) := by decide +kernel
theorem d_Bg_isNear_7 : decode b_Bg_isNear 7 = .ok (.iload_n 0, 1) := by decide +kernel
theorem d_Bg_isNear_8 : decode b_Bg_isNear 8 = .ok (.iload_n 1, 1) := by decide +kernel
theorem d_Bg_isNear_9 : decode b_Bg_isNear 9 = .ok (.iload_n 2, 1) := by decide +kernel
theorem d_Bg_isNear_10 : decode b_Bg_isNear 10 = .ok (.iadd, 1) := by decide +kernel
theorem d_Bg_isNear_11 : decode b_Bg_isNear 11 = .ok (.if_icmp .gt 7, 3) := by decide +kernel
theorem d_Bg_isNear_14 : decode b_Bg_isNear 14 = .ok (.iconst 1, 1) := by decide +kernel
theorem d_Bg_isNear_15 : decode b_Bg_isNear 15 = .ok (.goto 4, 3) := by decide +kernel
theorem d_Bg_isNear_18 : decode b_Bg_isNear 18 = .ok (.iconst 0, 1) := by decide +kernel
theorem d_Bg_isNear_19 : decode b_Bg_isNear 19 = .ok (.ireturn, 1) := by decide +kernel
theorem d_Ct_init_0 : decode b_Ct_init 0 = .ok (.aload_n 0, 1) := by decide +kernel
theorem d_Ct_init_1 : decode b_Ct_init 1 = .ok (.invokespecial 3, 3) := by decide +kernel
theorem d_Ct_init_4 : decode b_Ct_init 4 = .ok (.aload_n 0, 1) := by decide +kernel
theorem d_Ct_init_5 : decode b_Ct_init 5 = .ok (.iconst 4, 1) := by decide +kernel
theorem d_Ct_init_6 : decode b_Ct_init 6 = .ok (.newarray .int, 2) := by decide +kernel
theorem d_Ct_init_8 : decode b_Ct_init 8 = .ok (.putfield 9, 3) := by decide +kernel
theorem d_Ct_init_11 : decode b_Ct_init 11 = .ok (.aload_n 0, 1) := by decide +kernel
theorem d_Ct_init_12 : decode b_Ct_init 12 = .ok (.iconst 4, 1) := by decide +kernel
theorem d_Ct_init_13 : decode b_Ct_init 13 = .ok (.newarray .int, 2) := by decide +kernel
theorem d_Ct_init_15 : decode b_Ct_init 15 = .ok (.putfield 15, 3) := by decide +kernel
theorem d_Ct_init_18 : decode b_Ct_init 18 = .ok (.aload_n 0, 1) := by decide +kernel
theorem d_Ct_init_19 : decode b_Ct_init 19 = .ok (.iconst 4, 1) := by decide +kernel
theorem d_Ct_init_20 : decode b_Ct_init 20 = .ok (.newarray .int, 2) := by decide +kernel
theorem d_Ct_init_22 : decode b_Ct_init 22 = .ok (.putfield 18, 3) := by decide +kernel
theorem d_Ct_init_25 : decode b_Ct_init 25 = .ok (.aload_n 0, 1) := by decide +kernel
theorem d_Ct_init_26 : decode b_Ct_init 26 = .ok (.iconst 4, 1) := by decide +kernel
theorem d_Ct_init_27 : decode b_Ct_init 27 = .ok (.newarray .int, 2) := by decide +kernel
theorem d_Ct_init_29 : decode b_Ct_init 29 = .ok (.putfield 21, 3) := by decide +kernel
theorem d_Ct_init_32 : decode b_Ct_init 32 = .ok (.aload_n 0, 1) := by decide +kernel
theorem d_Ct_init_33 : decode b_Ct_init 33 = .ok (.iconst 4, 1) := by decide +kernel
theorem d_Ct_init_34 : decode b_Ct_init 34 = .ok (.newarray .int, 2) := by decide +kernel
theorem d_Ct_init_36 : decode b_Ct_init 36 = .ok (.putfield 24, 3) := by decide +kernel
theorem d_Ct_init_39 : decode b_Ct_init 39 = .ok (.return_, 1) := by decide +kernel
theorem d_Ct_add_0 : decode b_Ct_add 0 = .ok (.aload_n 0, 1) := by decide +kernel
theorem d_Ct_add_1 : decode b_Ct_add 1 = .ok (.getfield 27, 3) := by decide +kernel
theorem d_Ct_add_4 : decode b_Ct_add 4 = .ok (.istore 6, 2) := by decide +kernel
theorem d_Ct_add_6 : decode b_Ct_add 6 = .ok (.aload_n 0, 1) := by decide +kernel
theorem d_Ct_add_7 : decode b_Ct_add 7 = .ok (.getfield 9, 3) := by decide +kernel
theorem d_Ct_add_10 : decode b_Ct_add 10 = .ok (.iload 6, 2) := by decide +kernel
theorem d_Ct_add_12 : decode b_Ct_add 12 = .ok (.iload_n 1, 1) := by decide +kernel
theorem d_Ct_add_13 : decode b_Ct_add 13 = .ok (.iastore, 1) := by decide +kernel
theorem d_Ct_add_14 : decode b_Ct_add 14 = .ok (.aload_n 0, 1) := by decide +kernel
theorem d_Ct_add_15 : decode b_Ct_add 15 = .ok (.getfield 15, 3) := by decide +kernel
theorem d_Ct_add_18 : decode b_Ct_add 18 = .ok (.iload 6, 2) := by decide +kernel
theorem d_Ct_add_20 : decode b_Ct_add 20 = .ok (.iload_n 2, 1) := by decide +kernel
theorem d_Ct_add_21 : decode b_Ct_add 21 = .ok (.iastore, 1) := by decide +kernel
theorem d_Ct_add_22 : decode b_Ct_add 22 = .ok (.aload_n 0, 1) := by decide +kernel
theorem d_Ct_add_23 : decode b_Ct_add 23 = .ok (.getfield 18, 3) := by decide +kernel
theorem d_Ct_add_26 : decode b_Ct_add 26 = .ok (.iload 6, 2) := by decide +kernel
theorem d_Ct_add_28 : decode b_Ct_add 28 = .ok (.iload_n 3, 1) := by decide +kernel
theorem d_Ct_add_29 : decode b_Ct_add 29 = .ok (.iastore, 1) := by decide +kernel
theorem d_Ct_add_30 : decode b_Ct_add 30 = .ok (.aload_n 0, 1) := by decide +kernel
theorem d_Ct_add_31 : decode b_Ct_add 31 = .ok (.getfield 21, 3) := by decide +kernel
theorem d_Ct_add_34 : decode b_Ct_add 34 = .ok (.iload 6, 2) := by decide +kernel
theorem d_Ct_add_36 : decode b_Ct_add 36 = .ok (.iload 4, 2) := by decide +kernel
theorem d_Ct_add_38 : decode b_Ct_add 38 = .ok (.iastore, 1) := by decide +kernel
theorem d_Ct_add_39 : decode b_Ct_add 39 = .ok (.aload_n 0, 1) := by decide +kernel
theorem d_Ct_add_40 : decode b_Ct_add 40 = .ok (.getfield 24, 3) := by decide +kernel
theorem d_Ct_add_43 : decode b_Ct_add 43 = .ok (.iload 6, 2) := by decide +kernel
theorem d_Ct_add_45 : decode b_Ct_add 45 = .ok (.iload 5, 2) := by decide +kernel
theorem d_Ct_add_47 : decode b_Ct_add 47 = .ok (.iastore, 1) := by decide +kernel
theorem d_Ct_add_48 : decode b_Ct_add 48 = .ok (.aload_n 0, 1) := by decide +kernel
theorem d_Ct_add_49 : decode b_Ct_add 49 = .ok (.iload 6, 2) := by decide +kernel
theorem d_Ct_add_51 : decode b_Ct_add 51 = .ok (.iconst 1, 1) := by decide +kernel
theorem d_Ct_add_52 : decode b_Ct_add 52 = .ok (.iadd, 1) := by decide +kernel
theorem d_Ct_add_53 : decode b_Ct_add 53 = .ok (.putfield 27, 3) := by decide +kernel
theorem d_Ct_add_56 : decode b_Ct_add 56 = .ok (.iload 6, 2) := by decide +kernel
theorem d_Ct_add_58 : decode b_Ct_add 58 = .ok (.ireturn, 1) := by decide +kernel
theorem d_Pk_init_0 : decode b_Pk_init 0 = .ok (.aload_n 0, 1) := by decide +kernel
theorem d_Pk_init_1 : decode b_Pk_init 1 = .ok (.invokespecial 3, 3) := by decide +kernel
theorem d_Pk_init_4 : decode b_Pk_init 4 = .ok (.aload_n 0, 1) := by decide +kernel
theorem d_Pk_init_5 : decode b_Pk_init 5 = .ok (.bipush 8, 2) := by decide +kernel
theorem d_Pk_init_7 : decode b_Pk_init 7 = .ok (.newarray .int, 2) := by decide +kernel
theorem d_Pk_init_9 : decode b_Pk_init 9 = .ok (.putfield 9, 3) := by decide +kernel
theorem d_Pk_init_12 : decode b_Pk_init 12 = .ok (.aload_n 0, 1) := by decide +kernel
theorem d_Pk_init_13 : decode b_Pk_init 13 = .ok (.bipush 8, 2) := by decide +kernel
theorem d_Pk_init_15 : decode b_Pk_init 15 = .ok (.newarray .int, 2) := by decide +kernel
theorem d_Pk_init_17 : decode b_Pk_init 17 = .ok (.putfield 15, 3) := by decide +kernel
theorem d_Pk_init_20 : decode b_Pk_init 20 = .ok (.aload_n 0, 1) := by decide +kernel
theorem d_Pk_init_21 : decode b_Pk_init 21 = .ok (.bipush 8, 2) := by decide +kernel
theorem d_Pk_init_23 : decode b_Pk_init 23 = .ok (.newarray .int, 2) := by decide +kernel
theorem d_Pk_init_25 : decode b_Pk_init 25 = .ok (.putfield 18, 3) := by decide +kernel
theorem d_Pk_init_28 : decode b_Pk_init 28 = .ok (.aload_n 0, 1) := by decide +kernel
theorem d_Pk_init_29 : decode b_Pk_init 29 = .ok (.bipush 8, 2) := by decide +kernel
theorem d_Pk_init_31 : decode b_Pk_init 31 = .ok (.newarray .int, 2) := by decide +kernel
theorem d_Pk_init_33 : decode b_Pk_init 33 = .ok (.putfield 21, 3) := by decide +kernel
theorem d_Pk_init_36 : decode b_Pk_init 36 = .ok (.aload_n 0, 1) := by decide +kernel
theorem d_Pk_init_37 : decode b_Pk_init 37 = .ok (.bipush 8, 2) := by decide +kernel
theorem d_Pk_init_39 : decode b_Pk_init 39 = .ok (.newarray .boolean, 2) := by decide +kernel
theorem d_Pk_init_41 : decode b_Pk_init 41 = .ok (.putfield 24, 3) := by decide +kernel
theorem d_Pk_init_44 : decode b_Pk_init 44 = .ok (.aload_n 0, 1) := by decide +kernel
theorem d_Pk_init_45 : decode b_Pk_init 45 = .ok (.bipush 8, 2) := by decide +kernel
theorem d_Pk_init_47 : decode b_Pk_init 47 = .ok (.newarray .int, 2) := by decide +kernel
theorem d_Pk_init_49 : decode b_Pk_init 49 = .ok (.putfield 28, 3) := by decide +kernel
theorem d_Pk_init_52 : decode b_Pk_init 52 = .ok (.aload_n 0, 1) := by decide +kernel
theorem d_Pk_init_53 : decode b_Pk_init 53 = .ok (.bipush 8, 2) := by decide +kernel
theorem d_Pk_init_55 : decode b_Pk_init 55 = .ok (.newarray .int, 2) := by decide +kernel
theorem d_Pk_init_57 : decode b_Pk_init 57 = .ok (.putfield 31, 3) := by decide +kernel
theorem d_Pk_init_60 : decode b_Pk_init 60 = .ok (.aload_n 0, 1) := by decide +kernel
theorem d_Pk_init_61 : decode b_Pk_init 61 = .ok (.iload_n 1, 1) := by decide +kernel
theorem d_Pk_init_62 : decode b_Pk_init 62 = .ok (.putfield 34, 3) := by decide +kernel
theorem d_Pk_init_65 : decode b_Pk_init 65 = .ok (.return_, 1) := by decide +kernel
theorem d_Pk_isHeldBy_0 : decode b_Pk_isHeldBy 0 = .ok (.aload_n 3, 1) := by decide +kernel
theorem d_Pk_isHeldBy_1 : decode b_Pk_isHeldBy 1 = .ok (.iload 4, 2) := by decide +kernel
theorem d_Pk_isHeldBy_3 : decode b_Pk_isHeldBy 3 = .ok (.invokevirtual 38, 3) := by decide +kernel
theorem d_Pk_isHeldBy_6 : decode b_Pk_isHeldBy 6 = .ok (.aload_n 1, 1) := by decide +kernel
theorem d_Pk_isHeldBy_7 : decode b_Pk_isHeldBy 7 = .ok (.getfield 44, 3) := by decide +kernel
theorem d_Pk_isHeldBy_10 : decode b_Pk_isHeldBy 10 = .ok (.iload_n 2, 1) := by decide +kernel
theorem d_Pk_isHeldBy_11 : decode b_Pk_isHeldBy 11 = .ok (.iaload, 1) := by decide +kernel
theorem d_Pk_isHeldBy_12 : decode b_Pk_isHeldBy 12 = .ok (.if_icmp .gt 24, 3) := by decide +kernel
theorem d_Pk_isHeldBy_15 : decode b_Pk_isHeldBy 15 = .ok (.aload_n 3, 1) := by decide +kernel
theorem d_Pk_isHeldBy_16 : decode b_Pk_isHeldBy 16 = .ok (.iload 4, 2) := by decide +kernel
theorem d_Pk_isHeldBy_18 : decode b_Pk_isHeldBy 18 = .ok (.aload_n 1, 1) := by decide +kernel
theorem d_Pk_isHeldBy_19 : decode b_Pk_isHeldBy 19 = .ok (.getfield 47, 3) := by decide +kernel
theorem d_Pk_isHeldBy_22 : decode b_Pk_isHeldBy 22 = .ok (.iload_n 2, 1) := by decide +kernel
theorem d_Pk_isHeldBy_23 : decode b_Pk_isHeldBy 23 = .ok (.iaload, 1) := by decide +kernel
theorem d_Pk_isHeldBy_24 : decode b_Pk_isHeldBy 24 = .ok (.aload_n 1, 1) := by decide +kernel
theorem d_Pk_isHeldBy_25 : decode b_Pk_isHeldBy 25 = .ok (.getfield 50, 3) := by decide +kernel
theorem d_Pk_isHeldBy_28 : decode b_Pk_isHeldBy 28 = .ok (.iload_n 2, 1) := by decide +kernel
theorem d_Pk_isHeldBy_29 : decode b_Pk_isHeldBy 29 = .ok (.iaload, 1) := by decide +kernel
theorem d_Pk_isHeldBy_30 : decode b_Pk_isHeldBy 30 = .ok (.invokevirtual 53, 3) := by decide +kernel
theorem d_Pk_isHeldBy_33 : decode b_Pk_isHeldBy 33 = .ok (.ifCond .ne 5, 3) := by decide +kernel
theorem d_Pk_isHeldBy_36 : decode b_Pk_isHeldBy 36 = .ok (.iconst 0, 1) := by decide +kernel
theorem d_Pk_isHeldBy_37 : decode b_Pk_isHeldBy 37 = .ok (.ireturn, 1) := by decide +kernel
theorem d_Pk_isHeldBy_38 : decode b_Pk_isHeldBy 38 = .ok (.aload_n 0, 1) := by decide +kernel
theorem d_Pk_isHeldBy_39 : decode b_Pk_isHeldBy 39 = .ok (.aload_n 3, 1) := by decide +kernel
theorem d_Pk_isHeldBy_40 : decode b_Pk_isHeldBy 40 = .ok (.iload 4, 2) := by decide +kernel
theorem d_Pk_isHeldBy_42 : decode b_Pk_isHeldBy 42 = .ok (.aload_n 1, 1) := by decide +kernel
theorem d_Pk_isHeldBy_43 : decode b_Pk_isHeldBy 43 = .ok (.getfield 47, 3) := by decide +kernel
theorem d_Pk_isHeldBy_46 : decode b_Pk_isHeldBy 46 = .ok (.iload_n 2, 1) := by decide +kernel
theorem d_Pk_isHeldBy_47 : decode b_Pk_isHeldBy 47 = .ok (.iaload, 1) := by decide +kernel
theorem d_Pk_isHeldBy_48 : decode b_Pk_isHeldBy 48 = .ok (.invokevirtual 57, 3) := by decide +kernel
theorem d_Pk_isHeldBy_51 : decode b_Pk_isHeldBy 51 = .ok (.aload_n 0, 1) := by decide +kernel
theorem d_Pk_isHeldBy_52 : decode b_Pk_isHeldBy 52 = .ok (.invokevirtual 61, 3) := by decide +kernel
theorem d_Pk_isHeldBy_55 : decode b_Pk_isHeldBy 55 = .ok (.aload_n 1, 1) := by decide +kernel
theorem d_Pk_isHeldBy_56 : decode b_Pk_isHeldBy 56 = .ok (.getfield 65, 3) := by decide +kernel
theorem d_Pk_isHeldBy_59 : decode b_Pk_isHeldBy 59 = .ok (.iload_n 2, 1) := by decide +kernel
theorem d_Pk_isHeldBy_60 : decode b_Pk_isHeldBy 60 = .ok (.iaload, 1) := by decide +kernel
theorem d_Pk_isHeldBy_61 : decode b_Pk_isHeldBy 61 = .ok (.if_icmp .gt 15, 3) := by decide +kernel
theorem d_Pk_isHeldBy_64 : decode b_Pk_isHeldBy 64 = .ok (.aload_n 0, 1) := by decide +kernel
theorem d_Pk_isHeldBy_65 : decode b_Pk_isHeldBy 65 = .ok (.invokevirtual 67, 3) := by decide +kernel
theorem d_Pk_isHeldBy_68 : decode b_Pk_isHeldBy 68 = .ok (.iconst 1, 1) := by decide +kernel
theorem d_Pk_isHeldBy_69 : decode b_Pk_isHeldBy 69 = .ok (.if_icmp .gt 7, 3) := by decide +kernel
theorem d_Pk_isHeldBy_72 : decode b_Pk_isHeldBy 72 = .ok (.iconst 1, 1) := by decide +kernel
theorem d_Pk_isHeldBy_73 : decode b_Pk_isHeldBy 73 = .ok (.goto 4, 3) := by decide +kernel
theorem d_Pk_isHeldBy_76 : decode b_Pk_isHeldBy 76 = .ok (.iconst 0, 1) := by decide +kernel
theorem d_Pk_isHeldBy_77 : decode b_Pk_isHeldBy 77 = .ok (.ireturn, 1) := by decide +kernel
theorem d_Pk_pack_0 : decode b_Pk_pack 0 = .ok (.aload_n 0, 1) := by decide +kernel
theorem d_Pk_pack_1 : decode b_Pk_pack 1 = .ok (.iconst 0, 1) := by decide +kernel
theorem d_Pk_pack_2 : decode b_Pk_pack 2 = .ok (.putfield 70, 3) := by decide +kernel
theorem d_Pk_pack_5 : decode b_Pk_pack 5 = .ok (.iconst 0, 1) := by decide +kernel
theorem d_Pk_pack_6 : decode b_Pk_pack 6 = .ok (.istore 4, 2) := by decide +kernel
theorem d_Pk_pack_8 : decode b_Pk_pack 8 = .ok (.iload 4, 2) := by decide +kernel
theorem d_Pk_pack_10 : decode b_Pk_pack 10 = .ok (.aload_n 1, 1) := by decide +kernel
theorem d_Pk_pack_11 : decode b_Pk_pack 11 = .ok (.getfield 73, 3) := by decide +kernel
theorem d_Pk_pack_14 : decode b_Pk_pack 14 = .ok (.if_icmp .ge 46, 3) := by decide +kernel
theorem d_Pk_pack_17 : decode b_Pk_pack 17 = .ok (.aload_n 1, 1) := by decide +kernel
theorem d_Pk_pack_18 : decode b_Pk_pack 18 = .ok (.getfield 76, 3) := by decide +kernel
theorem d_Pk_pack_21 : decode b_Pk_pack 21 = .ok (.iload 4, 2) := by decide +kernel
theorem d_Pk_pack_23 : decode b_Pk_pack 23 = .ok (.iaload, 1) := by decide +kernel
theorem d_Pk_pack_24 : decode b_Pk_pack 24 = .ok (.istore 5, 2) := by decide +kernel
theorem d_Pk_pack_26 : decode b_Pk_pack 26 = .ok (.iload_n 2, 1) := by decide +kernel
theorem d_Pk_pack_27 : decode b_Pk_pack 27 = .ok (.iload 5, 2) := by decide +kernel
theorem d_Pk_pack_29 : decode b_Pk_pack 29 = .ok (.invokestatic 79, 3) := by decide +kernel
theorem d_Pk_pack_32 : decode b_Pk_pack 32 = .ok (.ifCond .eq 22, 3) := by decide +kernel
theorem d_Pk_pack_35 : decode b_Pk_pack 35 = .ok (.aload_n 0, 1) := by decide +kernel
theorem d_Pk_pack_36 : decode b_Pk_pack 36 = .ok (.aload_n 1, 1) := by decide +kernel
theorem d_Pk_pack_37 : decode b_Pk_pack 37 = .ok (.iload 5, 2) := by decide +kernel
theorem d_Pk_pack_39 : decode b_Pk_pack 39 = .ok (.aload_n 0, 1) := by decide +kernel
theorem d_Pk_pack_40 : decode b_Pk_pack 40 = .ok (.aload_n 1, 1) := by decide +kernel
theorem d_Pk_pack_41 : decode b_Pk_pack 41 = .ok (.getfield 83, 3) := by decide +kernel
theorem d_Pk_pack_44 : decode b_Pk_pack 44 = .ok (.iload 5, 2) := by decide +kernel
theorem d_Pk_pack_46 : decode b_Pk_pack 46 = .ok (.iaload, 1) := by decide +kernel
theorem d_Pk_pack_47 : decode b_Pk_pack 47 = .ok (.iload_n 3, 1) := by decide +kernel
theorem d_Pk_pack_48 : decode b_Pk_pack 48 = .ok (.invokevirtual 84, 3) := by decide +kernel
theorem d_Pk_pack_51 : decode b_Pk_pack 51 = .ok (.invokevirtual 88, 3) := by decide +kernel
theorem d_Pk_pack_54 : decode b_Pk_pack 54 = .ok (.iinc 4 1, 3) := by decide +kernel
theorem d_Pk_pack_57 : decode b_Pk_pack 57 = .ok (.goto (-49), 3) := by decide +kernel
theorem d_Pk_pack_60 : decode b_Pk_pack 60 = .ok (.return_, 1) := by decide +kernel
theorem d_Pk_firstWithRoom_0 : decode b_Pk_firstWithRoom 0 = .ok (.iconst 0, 1) := by decide +kernel
theorem d_Pk_firstWithRoom_1 : decode b_Pk_firstWithRoom 1 = .ok (.istore_n 3, 1) := by decide +kernel
theorem d_Pk_firstWithRoom_2 : decode b_Pk_firstWithRoom 2 = .ok (.iload_n 3, 1) := by decide +kernel
theorem d_Pk_firstWithRoom_3 : decode b_Pk_firstWithRoom 3 = .ok (.aload_n 0, 1) := by decide +kernel
theorem d_Pk_firstWithRoom_4 : decode b_Pk_firstWithRoom 4 = .ok (.getfield 70, 3) := by decide +kernel
theorem d_Pk_firstWithRoom_7 : decode b_Pk_firstWithRoom 7 = .ok (.if_icmp .ge 26, 3) := by decide +kernel
theorem d_Pk_firstWithRoom_10 : decode b_Pk_firstWithRoom 10 = .ok (.aload_n 0, 1) := by decide +kernel
theorem d_Pk_firstWithRoom_11 : decode b_Pk_firstWithRoom 11 = .ok (.getfield 9, 3) := by decide +kernel
theorem d_Pk_firstWithRoom_14 : decode b_Pk_firstWithRoom 14 = .ok (.iload_n 3, 1) := by decide +kernel
theorem d_Pk_firstWithRoom_15 : decode b_Pk_firstWithRoom 15 = .ok (.iaload, 1) := by decide +kernel
theorem d_Pk_firstWithRoom_16 : decode b_Pk_firstWithRoom 16 = .ok (.aload_n 0, 1) := by decide +kernel
theorem d_Pk_firstWithRoom_17 : decode b_Pk_firstWithRoom 17 = .ok (.getfield 34, 3) := by decide +kernel
theorem d_Pk_firstWithRoom_20 : decode b_Pk_firstWithRoom 20 = .ok (.iadd, 1) := by decide +kernel
theorem d_Pk_firstWithRoom_21 : decode b_Pk_firstWithRoom 21 = .ok (.iload_n 1, 1) := by decide +kernel
theorem d_Pk_firstWithRoom_22 : decode b_Pk_firstWithRoom 22 = .ok (.iadd, 1) := by decide +kernel
theorem d_Pk_firstWithRoom_23 : decode b_Pk_firstWithRoom 23 = .ok (.iload_n 2, 1) := by decide +kernel
theorem d_Pk_firstWithRoom_24 : decode b_Pk_firstWithRoom 24 = .ok (.if_icmp .le 9, 3) := by decide +kernel
theorem d_Pk_firstWithRoom_27 : decode b_Pk_firstWithRoom 27 = .ok (.iinc 3 1, 3) := by decide +kernel
theorem d_Pk_firstWithRoom_30 : decode b_Pk_firstWithRoom 30 = .ok (.goto (-28), 3) := by decide +kernel
theorem d_Pk_firstWithRoom_33 : decode b_Pk_firstWithRoom 33 = .ok (.iload_n 3, 1) := by decide +kernel
theorem d_Pk_firstWithRoom_34 : decode b_Pk_firstWithRoom 34 = .ok (.ireturn, 1) := by decide +kernel
theorem d_Pk_lay_0 : decode b_Pk_lay 0 = .ok (.iconst 0, 1) := by decide +kernel
theorem d_Pk_lay_1 : decode b_Pk_lay 1 = .ok (.istore 4, 2) := by decide +kernel
theorem d_Pk_lay_3 : decode b_Pk_lay 3 = .ok (.iload_n 3, 1) := by decide +kernel
theorem d_Pk_lay_4 : decode b_Pk_lay 4 = .ok (.aload_n 0, 1) := by decide +kernel
theorem d_Pk_lay_5 : decode b_Pk_lay 5 = .ok (.getfield 70, 3) := by decide +kernel
theorem d_Pk_lay_8 : decode b_Pk_lay 8 = .ok (.if_icmp .ne 17, 3) := by decide +kernel
theorem d_Pk_lay_11 : decode b_Pk_lay 11 = .ok (.aload_n 0, 1) := by decide +kernel
theorem d_Pk_lay_12 : decode b_Pk_lay 12 = .ok (.iload_n 3, 1) := by decide +kernel
theorem d_Pk_lay_13 : decode b_Pk_lay 13 = .ok (.aload_n 1, 1) := by decide +kernel
theorem d_Pk_lay_14 : decode b_Pk_lay 14 = .ok (.getfield 91, 3) := by decide +kernel
theorem d_Pk_lay_17 : decode b_Pk_lay 17 = .ok (.iload_n 2, 1) := by decide +kernel
theorem d_Pk_lay_18 : decode b_Pk_lay 18 = .ok (.iaload, 1) := by decide +kernel
theorem d_Pk_lay_19 : decode b_Pk_lay 19 = .ok (.invokevirtual 92, 3) := by decide +kernel
theorem d_Pk_lay_22 : decode b_Pk_lay 22 = .ok (.goto 16, 3) := by decide +kernel
theorem d_Pk_lay_25 : decode b_Pk_lay 25 = .ok (.aload_n 0, 1) := by decide +kernel
theorem d_Pk_lay_26 : decode b_Pk_lay 26 = .ok (.getfield 9, 3) := by decide +kernel
theorem d_Pk_lay_29 : decode b_Pk_lay 29 = .ok (.iload_n 3, 1) := by decide +kernel
theorem d_Pk_lay_30 : decode b_Pk_lay 30 = .ok (.iaload, 1) := by decide +kernel
theorem d_Pk_lay_31 : decode b_Pk_lay 31 = .ok (.aload_n 0, 1) := by decide +kernel
theorem d_Pk_lay_32 : decode b_Pk_lay 32 = .ok (.getfield 34, 3) := by decide +kernel
theorem d_Pk_lay_35 : decode b_Pk_lay 35 = .ok (.iadd, 1) := by decide +kernel
theorem d_Pk_lay_36 : decode b_Pk_lay 36 = .ok (.istore 4, 2) := by decide +kernel
theorem d_Pk_lay_38 : decode b_Pk_lay 38 = .ok (.aload_n 0, 1) := by decide +kernel
theorem d_Pk_lay_39 : decode b_Pk_lay 39 = .ok (.getfield 28, 3) := by decide +kernel
theorem d_Pk_lay_42 : decode b_Pk_lay 42 = .ok (.iload_n 2, 1) := by decide +kernel
theorem d_Pk_lay_43 : decode b_Pk_lay 43 = .ok (.iload_n 3, 1) := by decide +kernel
theorem d_Pk_lay_44 : decode b_Pk_lay 44 = .ok (.iastore, 1) := by decide +kernel
theorem d_Pk_lay_45 : decode b_Pk_lay 45 = .ok (.aload_n 0, 1) := by decide +kernel
theorem d_Pk_lay_46 : decode b_Pk_lay 46 = .ok (.getfield 31, 3) := by decide +kernel
theorem d_Pk_lay_49 : decode b_Pk_lay 49 = .ok (.iload_n 2, 1) := by decide +kernel
theorem d_Pk_lay_50 : decode b_Pk_lay 50 = .ok (.iload 4, 2) := by decide +kernel
theorem d_Pk_lay_52 : decode b_Pk_lay 52 = .ok (.iastore, 1) := by decide +kernel
theorem d_Pk_lay_53 : decode b_Pk_lay 53 = .ok (.aload_n 0, 1) := by decide +kernel
theorem d_Pk_lay_54 : decode b_Pk_lay 54 = .ok (.getfield 9, 3) := by decide +kernel
theorem d_Pk_lay_57 : decode b_Pk_lay 57 = .ok (.iload_n 3, 1) := by decide +kernel
theorem d_Pk_lay_58 : decode b_Pk_lay 58 = .ok (.iload 4, 2) := by decide +kernel
theorem d_Pk_lay_60 : decode b_Pk_lay 60 = .ok (.aload_n 1, 1) := by decide +kernel
theorem d_Pk_lay_61 : decode b_Pk_lay 61 = .ok (.getfield 83, 3) := by decide +kernel
theorem d_Pk_lay_64 : decode b_Pk_lay 64 = .ok (.iload_n 2, 1) := by decide +kernel
theorem d_Pk_lay_65 : decode b_Pk_lay 65 = .ok (.iaload, 1) := by decide +kernel
theorem d_Pk_lay_66 : decode b_Pk_lay 66 = .ok (.iadd, 1) := by decide +kernel
theorem d_Pk_lay_67 : decode b_Pk_lay 67 = .ok (.iastore, 1) := by decide +kernel
theorem d_Pk_lay_68 : decode b_Pk_lay 68 = .ok (.aload_n 0, 1) := by decide +kernel
theorem d_Pk_lay_69 : decode b_Pk_lay 69 = .ok (.getfield 18, 3) := by decide +kernel
theorem d_Pk_lay_72 : decode b_Pk_lay 72 = .ok (.iload_n 3, 1) := by decide +kernel
theorem d_Pk_lay_73 : decode b_Pk_lay 73 = .ok (.dup2, 1) := by decide +kernel
theorem d_Pk_lay_74 : decode b_Pk_lay 74 = .ok (.iaload, 1) := by decide +kernel
theorem d_Pk_lay_75 : decode b_Pk_lay 75 = .ok (.aload_n 1, 1) := by decide +kernel
theorem d_Pk_lay_76 : decode b_Pk_lay 76 = .ok (.getfield 96, 3) := by decide +kernel
theorem d_Pk_lay_79 : decode b_Pk_lay 79 = .ok (.iload_n 2, 1) := by decide +kernel
theorem d_Pk_lay_80 : decode b_Pk_lay 80 = .ok (.iaload, 1) := by decide +kernel
theorem d_Pk_lay_81 : decode b_Pk_lay 81 = .ok (.iadd, 1) := by decide +kernel
theorem d_Pk_lay_82 : decode b_Pk_lay 82 = .ok (.iastore, 1) := by decide +kernel
theorem d_Pk_lay_83 : decode b_Pk_lay 83 = .ok (.aload_n 0, 1) := by decide +kernel
theorem d_Pk_lay_84 : decode b_Pk_lay 84 = .ok (.getfield 21, 3) := by decide +kernel
theorem d_Pk_lay_87 : decode b_Pk_lay 87 = .ok (.iload_n 3, 1) := by decide +kernel
theorem d_Pk_lay_88 : decode b_Pk_lay 88 = .ok (.aload_n 0, 1) := by decide +kernel
theorem d_Pk_lay_89 : decode b_Pk_lay 89 = .ok (.getfield 21, 3) := by decide +kernel
theorem d_Pk_lay_92 : decode b_Pk_lay 92 = .ok (.iload_n 3, 1) := by decide +kernel
theorem d_Pk_lay_93 : decode b_Pk_lay 93 = .ok (.iaload, 1) := by decide +kernel
theorem d_Pk_lay_94 : decode b_Pk_lay 94 = .ok (.aload_n 1, 1) := by decide +kernel
theorem d_Pk_lay_95 : decode b_Pk_lay 95 = .ok (.getfield 97, 3) := by decide +kernel
theorem d_Pk_lay_98 : decode b_Pk_lay 98 = .ok (.iload_n 2, 1) := by decide +kernel
theorem d_Pk_lay_99 : decode b_Pk_lay 99 = .ok (.iaload, 1) := by decide +kernel
theorem d_Pk_lay_100 : decode b_Pk_lay 100 = .ok (.invokestatic 100, 3) := by decide +kernel
theorem d_Pk_lay_103 : decode b_Pk_lay 103 = .ok (.iastore, 1) := by decide +kernel
theorem d_Pk_lay_104 : decode b_Pk_lay 104 = .ok (.aload_n 0, 1) := by decide +kernel
theorem d_Pk_lay_105 : decode b_Pk_lay 105 = .ok (.getfield 24, 3) := by decide +kernel
theorem d_Pk_lay_108 : decode b_Pk_lay 108 = .ok (.iload_n 3, 1) := by decide +kernel
theorem d_Pk_lay_109 : decode b_Pk_lay 109 = .ok (.aload_n 0, 1) := by decide +kernel
theorem d_Pk_lay_110 : decode b_Pk_lay 110 = .ok (.getfield 24, 3) := by decide +kernel
theorem d_Pk_lay_113 : decode b_Pk_lay 113 = .ok (.iload_n 3, 1) := by decide +kernel
theorem d_Pk_lay_114 : decode b_Pk_lay 114 = .ok (.baload, 1) := by decide +kernel
theorem d_Pk_lay_115 : decode b_Pk_lay 115 = .ok (.ifCond .ne 12, 3) := by decide +kernel
theorem d_Pk_lay_118 : decode b_Pk_lay 118 = .ok (.aload_n 1, 1) := by decide +kernel
theorem d_Pk_lay_119 : decode b_Pk_lay 119 = .ok (.getfield 105, 3) := by decide +kernel
theorem d_Pk_lay_122 : decode b_Pk_lay 122 = .ok (.iload_n 2, 1) := by decide +kernel
theorem d_Pk_lay_123 : decode b_Pk_lay 123 = .ok (.baload, 1) := by decide +kernel
theorem d_Pk_lay_124 : decode b_Pk_lay 124 = .ok (.ifCond .eq 7, 3) := by decide +kernel
theorem d_Pk_lay_127 : decode b_Pk_lay 127 = .ok (.iconst 1, 1) := by decide +kernel
theorem d_Pk_lay_128 : decode b_Pk_lay 128 = .ok (.goto 4, 3) := by decide +kernel
theorem d_Pk_lay_131 : decode b_Pk_lay 131 = .ok (.iconst 0, 1) := by decide +kernel
theorem d_Pk_lay_132 : decode b_Pk_lay 132 = .ok (.bastore, 1) := by decide +kernel
theorem d_Pk_lay_133 : decode b_Pk_lay 133 = .ok (.return_, 1) := by decide +kernel
theorem d_Pk_open_0 : decode b_Pk_open 0 = .ok (.aload_n 0, 1) := by decide +kernel
theorem d_Pk_open_1 : decode b_Pk_open 1 = .ok (.getfield 15, 3) := by decide +kernel
theorem d_Pk_open_4 : decode b_Pk_open 4 = .ok (.iload_n 1, 1) := by decide +kernel
theorem d_Pk_open_5 : decode b_Pk_open 5 = .ok (.iload_n 2, 1) := by decide +kernel
theorem d_Pk_open_6 : decode b_Pk_open 6 = .ok (.iastore, 1) := by decide +kernel
theorem d_Pk_open_7 : decode b_Pk_open 7 = .ok (.aload_n 0, 1) := by decide +kernel
theorem d_Pk_open_8 : decode b_Pk_open 8 = .ok (.getfield 18, 3) := by decide +kernel
theorem d_Pk_open_11 : decode b_Pk_open 11 = .ok (.iload_n 1, 1) := by decide +kernel
theorem d_Pk_open_12 : decode b_Pk_open 12 = .ok (.iconst 0, 1) := by decide +kernel
theorem d_Pk_open_13 : decode b_Pk_open 13 = .ok (.iastore, 1) := by decide +kernel
theorem d_Pk_open_14 : decode b_Pk_open 14 = .ok (.aload_n 0, 1) := by decide +kernel
theorem d_Pk_open_15 : decode b_Pk_open 15 = .ok (.getfield 21, 3) := by decide +kernel
theorem d_Pk_open_18 : decode b_Pk_open 18 = .ok (.iload_n 1, 1) := by decide +kernel
theorem d_Pk_open_19 : decode b_Pk_open 19 = .ok (.bipush 50, 2) := by decide +kernel
theorem d_Pk_open_21 : decode b_Pk_open 21 = .ok (.iastore, 1) := by decide +kernel
theorem d_Pk_open_22 : decode b_Pk_open 22 = .ok (.aload_n 0, 1) := by decide +kernel
theorem d_Pk_open_23 : decode b_Pk_open 23 = .ok (.getfield 24, 3) := by decide +kernel
theorem d_Pk_open_26 : decode b_Pk_open 26 = .ok (.iload_n 1, 1) := by decide +kernel
theorem d_Pk_open_27 : decode b_Pk_open 27 = .ok (.iconst 0, 1) := by decide +kernel
theorem d_Pk_open_28 : decode b_Pk_open 28 = .ok (.bastore, 1) := by decide +kernel
theorem d_Pk_open_29 : decode b_Pk_open 29 = .ok (.aload_n 0, 1) := by decide +kernel
theorem d_Pk_open_30 : decode b_Pk_open 30 = .ok (.iload_n 1, 1) := by decide +kernel
theorem d_Pk_open_31 : decode b_Pk_open 31 = .ok (.iconst 1, 1) := by decide +kernel
theorem d_Pk_open_32 : decode b_Pk_open 32 = .ok (.iadd, 1) := by decide +kernel
theorem d_Pk_open_33 : decode b_Pk_open 33 = .ok (.putfield 70, 3) := by decide +kernel
theorem d_Pk_open_36 : decode b_Pk_open 36 = .ok (.return_, 1) := by decide +kernel
theorem d_Pk_height_0 : decode b_Pk_height 0 = .ok (.iconst 0, 1) := by decide +kernel
theorem d_Pk_height_1 : decode b_Pk_height 1 = .ok (.istore_n 1, 1) := by decide +kernel
theorem d_Pk_height_2 : decode b_Pk_height 2 = .ok (.iconst 0, 1) := by decide +kernel
theorem d_Pk_height_3 : decode b_Pk_height 3 = .ok (.istore_n 2, 1) := by decide +kernel
theorem d_Pk_height_4 : decode b_Pk_height 4 = .ok (.iload_n 2, 1) := by decide +kernel
theorem d_Pk_height_5 : decode b_Pk_height 5 = .ok (.aload_n 0, 1) := by decide +kernel
theorem d_Pk_height_6 : decode b_Pk_height 6 = .ok (.getfield 70, 3) := by decide +kernel
theorem d_Pk_height_9 : decode b_Pk_height 9 = .ok (.if_icmp .ge 18, 3) := by decide +kernel
theorem d_Pk_height_12 : decode b_Pk_height 12 = .ok (.iload_n 1, 1) := by decide +kernel
theorem d_Pk_height_13 : decode b_Pk_height 13 = .ok (.aload_n 0, 1) := by decide +kernel
theorem d_Pk_height_14 : decode b_Pk_height 14 = .ok (.getfield 15, 3) := by decide +kernel
theorem d_Pk_height_17 : decode b_Pk_height 17 = .ok (.iload_n 2, 1) := by decide +kernel
theorem d_Pk_height_18 : decode b_Pk_height 18 = .ok (.iaload, 1) := by decide +kernel
theorem d_Pk_height_19 : decode b_Pk_height 19 = .ok (.iadd, 1) := by decide +kernel
theorem d_Pk_height_20 : decode b_Pk_height 20 = .ok (.istore_n 1, 1) := by decide +kernel
theorem d_Pk_height_21 : decode b_Pk_height 21 = .ok (.iinc 2 1, 3) := by decide +kernel
theorem d_Pk_height_24 : decode b_Pk_height 24 = .ok (.goto (-20), 3) := by decide +kernel
theorem d_Pk_height_27 : decode b_Pk_height 27 = .ok (.iload_n 1, 1) := by decide +kernel
theorem d_Pk_height_28 : decode b_Pk_height 28 = .ok (.ireturn, 1) := by decide +kernel
theorem d_Pk_fragileLayers_0 : decode b_Pk_fragileLayers 0 = .ok (.iconst 0, 1) := by decide +kernel
theorem d_Pk_fragileLayers_1 : decode b_Pk_fragileLayers 1 = .ok (.istore_n 1, 1) := by decide +kernel
theorem d_Pk_fragileLayers_2 : decode b_Pk_fragileLayers 2 = .ok (.iconst 0, 1) := by decide +kernel
theorem d_Pk_fragileLayers_3 : decode b_Pk_fragileLayers 3 = .ok (.istore_n 2, 1) := by decide +kernel
theorem d_Pk_fragileLayers_4 : decode b_Pk_fragileLayers 4 = .ok (.iload_n 2, 1) := by decide +kernel
theorem d_Pk_fragileLayers_5 : decode b_Pk_fragileLayers 5 = .ok (.aload_n 0, 1) := by decide +kernel
theorem d_Pk_fragileLayers_6 : decode b_Pk_fragileLayers 6 = .ok (.getfield 70, 3) := by decide +kernel
theorem d_Pk_fragileLayers_9 : decode b_Pk_fragileLayers 9 = .ok (.if_icmp .ge 21, 3) := by decide +kernel
theorem d_Pk_fragileLayers_12 : decode b_Pk_fragileLayers 12 = .ok (.aload_n 0, 1) := by decide +kernel
theorem d_Pk_fragileLayers_13 : decode b_Pk_fragileLayers 13 = .ok (.getfield 24, 3) := by decide +kernel
theorem d_Pk_fragileLayers_16 : decode b_Pk_fragileLayers 16 = .ok (.iload_n 2, 1) := by decide +kernel
theorem d_Pk_fragileLayers_17 : decode b_Pk_fragileLayers 17 = .ok (.baload, 1) := by decide +kernel
theorem d_Pk_fragileLayers_18 : decode b_Pk_fragileLayers 18 = .ok (.ifCond .eq 6, 3) := by decide +kernel
theorem d_Pk_fragileLayers_21 : decode b_Pk_fragileLayers 21 = .ok (.iinc 1 1, 3) := by decide +kernel
theorem d_Pk_fragileLayers_24 : decode b_Pk_fragileLayers 24 = .ok (.iinc 2 1, 3) := by decide +kernel
theorem d_Pk_fragileLayers_27 : decode b_Pk_fragileLayers 27 = .ok (.goto (-23), 3) := by decide +kernel
theorem d_Pk_fragileLayers_30 : decode b_Pk_fragileLayers 30 = .ok (.iload_n 1, 1) := by decide +kernel
theorem d_Pk_fragileLayers_31 : decode b_Pk_fragileLayers 31 = .ok (.ireturn, 1) := by decide +kernel
theorem d_Pk_layersBelow_0 : decode b_Pk_layersBelow 0 = .ok (.iconst 0, 1) := by decide +kernel
theorem d_Pk_layersBelow_1 : decode b_Pk_layersBelow 1 = .ok (.istore_n 2, 1) := by decide +kernel
theorem d_Pk_layersBelow_2 : decode b_Pk_layersBelow 2 = .ok (.iconst 0, 1) := by decide +kernel
theorem d_Pk_layersBelow_3 : decode b_Pk_layersBelow 3 = .ok (.istore_n 3, 1) := by decide +kernel
theorem d_Pk_layersBelow_4 : decode b_Pk_layersBelow 4 = .ok (.iload_n 3, 1) := by decide +kernel
theorem d_Pk_layersBelow_5 : decode b_Pk_layersBelow 5 = .ok (.aload_n 0, 1) := by decide +kernel
theorem d_Pk_layersBelow_6 : decode b_Pk_layersBelow 6 = .ok (.getfield 70, 3) := by decide +kernel
theorem d_Pk_layersBelow_9 : decode b_Pk_layersBelow 9 = .ok (.if_icmp .ge 21, 3) := by decide +kernel
theorem d_Pk_layersBelow_12 : decode b_Pk_layersBelow 12 = .ok (.aload_n 0, 1) := by decide +kernel
theorem d_Pk_layersBelow_13 : decode b_Pk_layersBelow 13 = .ok (.iload_n 3, 1) := by decide +kernel
theorem d_Pk_layersBelow_14 : decode b_Pk_layersBelow 14 = .ok (.iload_n 1, 1) := by decide +kernel
theorem d_Pk_layersBelow_15 : decode b_Pk_layersBelow 15 = .ok (.invokevirtual 106, 3) := by decide +kernel
theorem d_Pk_layersBelow_18 : decode b_Pk_layersBelow 18 = .ok (.ifCond .eq 6, 3) := by decide +kernel
theorem d_Pk_layersBelow_21 : decode b_Pk_layersBelow 21 = .ok (.iinc 2 1, 3) := by decide +kernel
theorem d_Pk_layersBelow_24 : decode b_Pk_layersBelow 24 = .ok (.iinc 3 1, 3) := by decide +kernel
theorem d_Pk_layersBelow_27 : decode b_Pk_layersBelow 27 = .ok (.goto (-23), 3) := by decide +kernel
theorem d_Pk_layersBelow_30 : decode b_Pk_layersBelow 30 = .ok (.iload_n 2, 1) := by decide +kernel
theorem d_Pk_layersBelow_31 : decode b_Pk_layersBelow 31 = .ok (.ireturn, 1) := by decide +kernel
theorem d_Pk_heightBelow_0 : decode b_Pk_heightBelow 0 = .ok (.iconst 0, 1) := by decide +kernel
theorem d_Pk_heightBelow_1 : decode b_Pk_heightBelow 1 = .ok (.istore_n 2, 1) := by decide +kernel
theorem d_Pk_heightBelow_2 : decode b_Pk_heightBelow 2 = .ok (.iconst 0, 1) := by decide +kernel
theorem d_Pk_heightBelow_3 : decode b_Pk_heightBelow 3 = .ok (.istore_n 3, 1) := by decide +kernel
theorem d_Pk_heightBelow_4 : decode b_Pk_heightBelow 4 = .ok (.iload_n 3, 1) := by decide +kernel
theorem d_Pk_heightBelow_5 : decode b_Pk_heightBelow 5 = .ok (.aload_n 0, 1) := by decide +kernel
theorem d_Pk_heightBelow_6 : decode b_Pk_heightBelow 6 = .ok (.getfield 70, 3) := by decide +kernel
theorem d_Pk_heightBelow_9 : decode b_Pk_heightBelow 9 = .ok (.if_icmp .ge 27, 3) := by decide +kernel
theorem d_Pk_heightBelow_12 : decode b_Pk_heightBelow 12 = .ok (.aload_n 0, 1) := by decide +kernel
theorem d_Pk_heightBelow_13 : decode b_Pk_heightBelow 13 = .ok (.iload_n 3, 1) := by decide +kernel
theorem d_Pk_heightBelow_14 : decode b_Pk_heightBelow 14 = .ok (.iload_n 1, 1) := by decide +kernel
theorem d_Pk_heightBelow_15 : decode b_Pk_heightBelow 15 = .ok (.invokevirtual 106, 3) := by decide +kernel
theorem d_Pk_heightBelow_18 : decode b_Pk_heightBelow 18 = .ok (.ifCond .eq 12, 3) := by decide +kernel
theorem d_Pk_heightBelow_21 : decode b_Pk_heightBelow 21 = .ok (.iload_n 2, 1) := by decide +kernel
theorem d_Pk_heightBelow_22 : decode b_Pk_heightBelow 22 = .ok (.aload_n 0, 1) := by decide +kernel
theorem d_Pk_heightBelow_23 : decode b_Pk_heightBelow 23 = .ok (.getfield 15, 3) := by decide +kernel
theorem d_Pk_heightBelow_26 : decode b_Pk_heightBelow 26 = .ok (.iload_n 3, 1) := by decide +kernel
theorem d_Pk_heightBelow_27 : decode b_Pk_heightBelow 27 = .ok (.iaload, 1) := by decide +kernel
theorem d_Pk_heightBelow_28 : decode b_Pk_heightBelow 28 = .ok (.iadd, 1) := by decide +kernel
theorem d_Pk_heightBelow_29 : decode b_Pk_heightBelow 29 = .ok (.istore_n 2, 1) := by decide +kernel
theorem d_Pk_heightBelow_30 : decode b_Pk_heightBelow 30 = .ok (.iinc 3 1, 3) := by decide +kernel
theorem d_Pk_heightBelow_33 : decode b_Pk_heightBelow 33 = .ok (.goto (-29), 3) := by decide +kernel
theorem d_Pk_heightBelow_36 : decode b_Pk_heightBelow 36 = .ok (.iload_n 2, 1) := by decide +kernel
theorem d_Pk_heightBelow_37 : decode b_Pk_heightBelow 37 = .ok (.ireturn, 1) := by decide +kernel
theorem d_Pk_isBelow_0 : decode b_Pk_isBelow 0 = .ok (.aload_n 0, 1) := by decide +kernel
theorem d_Pk_isBelow_1 : decode b_Pk_isBelow 1 = .ok (.getfield 24, 3) := by decide +kernel
theorem d_Pk_isBelow_4 : decode b_Pk_isBelow 4 = .ok (.iload_n 1, 1) := by decide +kernel
theorem d_Pk_isBelow_5 : decode b_Pk_isBelow 5 = .ok (.baload, 1) := by decide +kernel
theorem d_Pk_isBelow_6 : decode b_Pk_isBelow 6 = .ok (.aload_n 0, 1) := by decide +kernel
theorem d_Pk_isBelow_7 : decode b_Pk_isBelow 7 = .ok (.getfield 24, 3) := by decide +kernel
theorem d_Pk_isBelow_10 : decode b_Pk_isBelow 10 = .ok (.iload_n 2, 1) := by decide +kernel
theorem d_Pk_isBelow_11 : decode b_Pk_isBelow 11 = .ok (.baload, 1) := by decide +kernel
theorem d_Pk_isBelow_12 : decode b_Pk_isBelow 12 = .ok (.if_icmp .eq 10, 3) := by decide +kernel
theorem d_Pk_isBelow_15 : decode b_Pk_isBelow 15 = .ok (.aload_n 0, 1) := by decide +kernel
theorem d_Pk_isBelow_16 : decode b_Pk_isBelow 16 = .ok (.getfield 24, 3) := by decide +kernel
theorem d_Pk_isBelow_19 : decode b_Pk_isBelow 19 = .ok (.iload_n 2, 1) := by decide +kernel
theorem d_Pk_isBelow_20 : decode b_Pk_isBelow 20 = .ok (.baload, 1) := by decide +kernel
theorem d_Pk_isBelow_21 : decode b_Pk_isBelow 21 = .ok (.ireturn, 1) := by decide +kernel
theorem d_Pk_isBelow_22 : decode b_Pk_isBelow 22 = .ok (.aload_n 0, 1) := by decide +kernel
theorem d_Pk_isBelow_23 : decode b_Pk_isBelow 23 = .ok (.getfield 21, 3) := by decide +kernel
theorem d_Pk_isBelow_26 : decode b_Pk_isBelow 26 = .ok (.iload_n 1, 1) := by decide +kernel
theorem d_Pk_isBelow_27 : decode b_Pk_isBelow 27 = .ok (.iaload, 1) := by decide +kernel
theorem d_Pk_isBelow_28 : decode b_Pk_isBelow 28 = .ok (.aload_n 0, 1) := by decide +kernel
theorem d_Pk_isBelow_29 : decode b_Pk_isBelow 29 = .ok (.getfield 21, 3) := by decide +kernel
theorem d_Pk_isBelow_32 : decode b_Pk_isBelow 32 = .ok (.iload_n 2, 1) := by decide +kernel
theorem d_Pk_isBelow_33 : decode b_Pk_isBelow 33 = .ok (.iaload, 1) := by decide +kernel
theorem d_Pk_isBelow_34 : decode b_Pk_isBelow 34 = .ok (.if_icmp .eq 24, 3) := by decide +kernel
theorem d_Pk_isBelow_37 : decode b_Pk_isBelow 37 = .ok (.aload_n 0, 1) := by decide +kernel
theorem d_Pk_isBelow_38 : decode b_Pk_isBelow 38 = .ok (.getfield 21, 3) := by decide +kernel
theorem d_Pk_isBelow_41 : decode b_Pk_isBelow 41 = .ok (.iload_n 1, 1) := by decide +kernel
theorem d_Pk_isBelow_42 : decode b_Pk_isBelow 42 = .ok (.iaload, 1) := by decide +kernel
theorem d_Pk_isBelow_43 : decode b_Pk_isBelow 43 = .ok (.aload_n 0, 1) := by decide +kernel
theorem d_Pk_isBelow_44 : decode b_Pk_isBelow 44 = .ok (.getfield 21, 3) := by decide +kernel
theorem d_Pk_isBelow_47 : decode b_Pk_isBelow 47 = .ok (.iload_n 2, 1) := by decide +kernel
theorem d_Pk_isBelow_48 : decode b_Pk_isBelow 48 = .ok (.iaload, 1) := by decide +kernel
theorem d_Pk_isBelow_49 : decode b_Pk_isBelow 49 = .ok (.if_icmp .le 7, 3) := by decide +kernel
theorem d_Pk_isBelow_52 : decode b_Pk_isBelow 52 = .ok (.iconst 1, 1) := by decide +kernel
theorem d_Pk_isBelow_53 : decode b_Pk_isBelow 53 = .ok (.goto 4, 3) := by decide +kernel
theorem d_Pk_isBelow_56 : decode b_Pk_isBelow 56 = .ok (.iconst 0, 1) := by decide +kernel
theorem d_Pk_isBelow_57 : decode b_Pk_isBelow 57 = .ok (.ireturn, 1) := by decide +kernel
theorem d_Pk_isBelow_58 : decode b_Pk_isBelow 58 = .ok (.aload_n 0, 1) := by decide +kernel
theorem d_Pk_isBelow_59 : decode b_Pk_isBelow 59 = .ok (.getfield 18, 3) := by decide +kernel
theorem d_Pk_isBelow_62 : decode b_Pk_isBelow 62 = .ok (.iload_n 1, 1) := by decide +kernel
theorem d_Pk_isBelow_63 : decode b_Pk_isBelow 63 = .ok (.iaload, 1) := by decide +kernel
theorem d_Pk_isBelow_64 : decode b_Pk_isBelow 64 = .ok (.aload_n 0, 1) := by decide +kernel
theorem d_Pk_isBelow_65 : decode b_Pk_isBelow 65 = .ok (.getfield 18, 3) := by decide +kernel
theorem d_Pk_isBelow_68 : decode b_Pk_isBelow 68 = .ok (.iload_n 2, 1) := by decide +kernel
theorem d_Pk_isBelow_69 : decode b_Pk_isBelow 69 = .ok (.iaload, 1) := by decide +kernel
theorem d_Pk_isBelow_70 : decode b_Pk_isBelow 70 = .ok (.if_icmp .eq 24, 3) := by decide +kernel
theorem d_Pk_isBelow_73 : decode b_Pk_isBelow 73 = .ok (.aload_n 0, 1) := by decide +kernel
theorem d_Pk_isBelow_74 : decode b_Pk_isBelow 74 = .ok (.getfield 18, 3) := by decide +kernel
theorem d_Pk_isBelow_77 : decode b_Pk_isBelow 77 = .ok (.iload_n 1, 1) := by decide +kernel
theorem d_Pk_isBelow_78 : decode b_Pk_isBelow 78 = .ok (.iaload, 1) := by decide +kernel
theorem d_Pk_isBelow_79 : decode b_Pk_isBelow 79 = .ok (.aload_n 0, 1) := by decide +kernel
theorem d_Pk_isBelow_80 : decode b_Pk_isBelow 80 = .ok (.getfield 18, 3) := by decide +kernel
theorem d_Pk_isBelow_83 : decode b_Pk_isBelow 83 = .ok (.iload_n 2, 1) := by decide +kernel
theorem d_Pk_isBelow_84 : decode b_Pk_isBelow 84 = .ok (.iaload, 1) := by decide +kernel
theorem d_Pk_isBelow_85 : decode b_Pk_isBelow 85 = .ok (.if_icmp .le 7, 3) := by decide +kernel
theorem d_Pk_isBelow_88 : decode b_Pk_isBelow 88 = .ok (.iconst 1, 1) := by decide +kernel
theorem d_Pk_isBelow_89 : decode b_Pk_isBelow 89 = .ok (.goto 4, 3) := by decide +kernel
theorem d_Pk_isBelow_92 : decode b_Pk_isBelow 92 = .ok (.iconst 0, 1) := by decide +kernel
theorem d_Pk_isBelow_93 : decode b_Pk_isBelow 93 = .ok (.ireturn, 1) := by decide +kernel
theorem d_Pk_isBelow_94 : decode b_Pk_isBelow 94 = .ok (.iload_n 1, 1) := by decide +kernel
theorem d_Pk_isBelow_95 : decode b_Pk_isBelow 95 = .ok (.iload_n 2, 1) := by decide +kernel
theorem d_Pk_isBelow_96 : decode b_Pk_isBelow 96 = .ok (.if_icmp .ge 7, 3) := by decide +kernel
theorem d_Pk_isBelow_99 : decode b_Pk_isBelow 99 = .ok (.iconst 1, 1) := by decide +kernel
theorem d_Pk_isBelow_100 : decode b_Pk_isBelow 100 = .ok (.goto 4, 3) := by decide +kernel
theorem d_Pk_isBelow_103 : decode b_Pk_isBelow 103 = .ok (.iconst 0, 1) := by decide +kernel
theorem d_Pk_isBelow_104 : decode b_Pk_isBelow 104 = .ok (.ireturn, 1) := by decide +kernel
theorem d_Pt_init_0 : decode b_Pt_init 0 = .ok (.aload_n 0, 1) := by decide +kernel
theorem d_Pt_init_1 : decode b_Pt_init 1 = .ok (.invokespecial 3, 3) := by decide +kernel
theorem d_Pt_init_4 : decode b_Pt_init 4 = .ok (.aload_n 0, 1) := by decide +kernel
theorem d_Pt_init_5 : decode b_Pt_init 5 = .ok (.bipush 8, 2) := by decide +kernel
theorem d_Pt_init_7 : decode b_Pt_init 7 = .ok (.newarray .int, 2) := by decide +kernel
theorem d_Pt_init_9 : decode b_Pt_init 9 = .ok (.putfield 9, 3) := by decide +kernel
theorem d_Pt_init_12 : decode b_Pt_init 12 = .ok (.aload_n 0, 1) := by decide +kernel
theorem d_Pt_init_13 : decode b_Pt_init 13 = .ok (.bipush 8, 2) := by decide +kernel
theorem d_Pt_init_15 : decode b_Pt_init 15 = .ok (.newarray .int, 2) := by decide +kernel
theorem d_Pt_init_17 : decode b_Pt_init 17 = .ok (.putfield 15, 3) := by decide +kernel
theorem d_Pt_init_20 : decode b_Pt_init 20 = .ok (.aload_n 0, 1) := by decide +kernel
theorem d_Pt_init_21 : decode b_Pt_init 21 = .ok (.bipush 8, 2) := by decide +kernel
theorem d_Pt_init_23 : decode b_Pt_init 23 = .ok (.newarray .int, 2) := by decide +kernel
theorem d_Pt_init_25 : decode b_Pt_init 25 = .ok (.putfield 18, 3) := by decide +kernel
theorem d_Pt_init_28 : decode b_Pt_init 28 = .ok (.aload_n 0, 1) := by decide +kernel
theorem d_Pt_init_29 : decode b_Pt_init 29 = .ok (.bipush 8, 2) := by decide +kernel
theorem d_Pt_init_31 : decode b_Pt_init 31 = .ok (.newarray .int, 2) := by decide +kernel
theorem d_Pt_init_33 : decode b_Pt_init 33 = .ok (.putfield 21, 3) := by decide +kernel
theorem d_Pt_init_36 : decode b_Pt_init 36 = .ok (.aload_n 0, 1) := by decide +kernel
theorem d_Pt_init_37 : decode b_Pt_init 37 = .ok (.bipush 8, 2) := by decide +kernel
theorem d_Pt_init_39 : decode b_Pt_init 39 = .ok (.newarray .int, 2) := by decide +kernel
theorem d_Pt_init_41 : decode b_Pt_init 41 = .ok (.putfield 24, 3) := by decide +kernel
theorem d_Pt_init_44 : decode b_Pt_init 44 = .ok (.aload_n 0, 1) := by decide +kernel
theorem d_Pt_init_45 : decode b_Pt_init 45 = .ok (.bipush 8, 2) := by decide +kernel
theorem d_Pt_init_47 : decode b_Pt_init 47 = .ok (.newarray .boolean, 2) := by decide +kernel
theorem d_Pt_init_49 : decode b_Pt_init 49 = .ok (.putfield 27, 3) := by decide +kernel
theorem d_Pt_init_52 : decode b_Pt_init 52 = .ok (.aload_n 0, 1) := by decide +kernel
theorem d_Pt_init_53 : decode b_Pt_init 53 = .ok (.bipush 8, 2) := by decide +kernel
theorem d_Pt_init_55 : decode b_Pt_init 55 = .ok (.newarray .int, 2) := by decide +kernel
theorem d_Pt_init_57 : decode b_Pt_init 57 = .ok (.putfield 31, 3) := by decide +kernel
theorem d_Pt_init_60 : decode b_Pt_init 60 = .ok (.aload_n 0, 1) := by decide +kernel
theorem d_Pt_init_61 : decode b_Pt_init 61 = .ok (.bipush 8, 2) := by decide +kernel
theorem d_Pt_init_63 : decode b_Pt_init 63 = .ok (.newarray .int, 2) := by decide +kernel
theorem d_Pt_init_65 : decode b_Pt_init 65 = .ok (.putfield 34, 3) := by decide +kernel
theorem d_Pt_init_68 : decode b_Pt_init 68 = .ok (.return_, 1) := by decide +kernel
theorem d_Pt_add_0 : decode b_Pt_add 0 = .ok (.aload_n 0, 1) := by decide +kernel
theorem d_Pt_add_1 : decode b_Pt_add 1 = .ok (.getfield 37, 3) := by decide +kernel
theorem d_Pt_add_4 : decode b_Pt_add 4 = .ok (.istore 6, 2) := by decide +kernel
theorem d_Pt_add_6 : decode b_Pt_add 6 = .ok (.aload_n 0, 1) := by decide +kernel
theorem d_Pt_add_7 : decode b_Pt_add 7 = .ok (.getfield 9, 3) := by decide +kernel
theorem d_Pt_add_10 : decode b_Pt_add 10 = .ok (.iload 6, 2) := by decide +kernel
theorem d_Pt_add_12 : decode b_Pt_add 12 = .ok (.iload_n 1, 1) := by decide +kernel
theorem d_Pt_add_13 : decode b_Pt_add 13 = .ok (.iastore, 1) := by decide +kernel
theorem d_Pt_add_14 : decode b_Pt_add 14 = .ok (.aload_n 0, 1) := by decide +kernel
theorem d_Pt_add_15 : decode b_Pt_add 15 = .ok (.getfield 15, 3) := by decide +kernel
theorem d_Pt_add_18 : decode b_Pt_add 18 = .ok (.iload 6, 2) := by decide +kernel
theorem d_Pt_add_20 : decode b_Pt_add 20 = .ok (.iload_n 2, 1) := by decide +kernel
theorem d_Pt_add_21 : decode b_Pt_add 21 = .ok (.iastore, 1) := by decide +kernel
theorem d_Pt_add_22 : decode b_Pt_add 22 = .ok (.aload_n 0, 1) := by decide +kernel
theorem d_Pt_add_23 : decode b_Pt_add 23 = .ok (.getfield 18, 3) := by decide +kernel
theorem d_Pt_add_26 : decode b_Pt_add 26 = .ok (.iload 6, 2) := by decide +kernel
theorem d_Pt_add_28 : decode b_Pt_add 28 = .ok (.iload_n 3, 1) := by decide +kernel
theorem d_Pt_add_29 : decode b_Pt_add 29 = .ok (.iastore, 1) := by decide +kernel
theorem d_Pt_add_30 : decode b_Pt_add 30 = .ok (.aload_n 0, 1) := by decide +kernel
theorem d_Pt_add_31 : decode b_Pt_add 31 = .ok (.getfield 21, 3) := by decide +kernel
theorem d_Pt_add_34 : decode b_Pt_add 34 = .ok (.iload 6, 2) := by decide +kernel
theorem d_Pt_add_36 : decode b_Pt_add 36 = .ok (.iload 4, 2) := by decide +kernel
theorem d_Pt_add_38 : decode b_Pt_add 38 = .ok (.iastore, 1) := by decide +kernel
theorem d_Pt_add_39 : decode b_Pt_add 39 = .ok (.aload_n 0, 1) := by decide +kernel
theorem d_Pt_add_40 : decode b_Pt_add 40 = .ok (.getfield 24, 3) := by decide +kernel
theorem d_Pt_add_43 : decode b_Pt_add 43 = .ok (.iload 6, 2) := by decide +kernel
theorem d_Pt_add_45 : decode b_Pt_add 45 = .ok (.iload 5, 2) := by decide +kernel
theorem d_Pt_add_47 : decode b_Pt_add 47 = .ok (.iastore, 1) := by decide +kernel
theorem d_Pt_add_48 : decode b_Pt_add 48 = .ok (.aload_n 0, 1) := by decide +kernel
theorem d_Pt_add_49 : decode b_Pt_add 49 = .ok (.iload 6, 2) := by decide +kernel
theorem d_Pt_add_51 : decode b_Pt_add 51 = .ok (.invokevirtual 41, 3) := by decide +kernel
theorem d_Pt_add_54 : decode b_Pt_add 54 = .ok (.aload_n 0, 1) := by decide +kernel
theorem d_Pt_add_55 : decode b_Pt_add 55 = .ok (.iload 6, 2) := by decide +kernel
theorem d_Pt_add_57 : decode b_Pt_add 57 = .ok (.invokevirtual 45, 3) := by decide +kernel
theorem d_Pt_add_60 : decode b_Pt_add 60 = .ok (.aload_n 0, 1) := by decide +kernel
theorem d_Pt_add_61 : decode b_Pt_add 61 = .ok (.iload 6, 2) := by decide +kernel
theorem d_Pt_add_63 : decode b_Pt_add 63 = .ok (.iconst 1, 1) := by decide +kernel
theorem d_Pt_add_64 : decode b_Pt_add 64 = .ok (.iadd, 1) := by decide +kernel
theorem d_Pt_add_65 : decode b_Pt_add 65 = .ok (.putfield 37, 3) := by decide +kernel
theorem d_Pt_add_68 : decode b_Pt_add 68 = .ok (.iload 6, 2) := by decide +kernel
theorem d_Pt_add_70 : decode b_Pt_add 70 = .ok (.ireturn, 1) := by decide +kernel
theorem d_Pt_sortInByThickness_0 : decode b_Pt_sortInByThickness 0 = .ok (.iload_n 1, 1) := by decide +kernel
theorem d_Pt_sortInByThickness_1 : decode b_Pt_sortInByThickness 1 = .ok (.istore_n 2, 1) := by decide +kernel
theorem d_Pt_sortInByThickness_2 : decode b_Pt_sortInByThickness 2 = .ok (.iload_n 2, 1) := by decide +kernel
theorem d_Pt_sortInByThickness_3 : decode b_Pt_sortInByThickness 3 = .ok (.ifCond .le 45, 3) := by decide +kernel
theorem d_Pt_sortInByThickness_6 : decode b_Pt_sortInByThickness 6 = .ok (.aload_n 0, 1) := by decide +kernel
theorem d_Pt_sortInByThickness_7 : decode b_Pt_sortInByThickness 7 = .ok (.getfield 18, 3) := by decide +kernel
theorem d_Pt_sortInByThickness_10 : decode b_Pt_sortInByThickness 10 = .ok (.aload_n 0, 1) := by decide +kernel
theorem d_Pt_sortInByThickness_11 : decode b_Pt_sortInByThickness 11 = .ok (.getfield 31, 3) := by decide +kernel
theorem d_Pt_sortInByThickness_14 : decode b_Pt_sortInByThickness 14 = .ok (.iload_n 2, 1) := by decide +kernel
theorem d_Pt_sortInByThickness_15 : decode b_Pt_sortInByThickness 15 = .ok (.iconst 1, 1) := by decide +kernel
theorem d_Pt_sortInByThickness_16 : decode b_Pt_sortInByThickness 16 = .ok (.isub, 1) := by decide +kernel
theorem d_Pt_sortInByThickness_17 : decode b_Pt_sortInByThickness 17 = .ok (.iaload, 1) := by decide +kernel
theorem d_Pt_sortInByThickness_18 : decode b_Pt_sortInByThickness 18 = .ok (.iaload, 1) := by decide +kernel
theorem d_Pt_sortInByThickness_19 : decode b_Pt_sortInByThickness 19 = .ok (.aload_n 0, 1) := by decide +kernel
theorem d_Pt_sortInByThickness_20 : decode b_Pt_sortInByThickness 20 = .ok (.getfield 18, 3) := by decide +kernel
theorem d_Pt_sortInByThickness_23 : decode b_Pt_sortInByThickness 23 = .ok (.iload_n 1, 1) := by decide +kernel
theorem d_Pt_sortInByThickness_24 : decode b_Pt_sortInByThickness 24 = .ok (.iaload, 1) := by decide +kernel
theorem d_Pt_sortInByThickness_25 : decode b_Pt_sortInByThickness 25 = .ok (.if_icmp .ge 23, 3) := by decide +kernel
theorem d_Pt_sortInByThickness_28 : decode b_Pt_sortInByThickness 28 = .ok (.aload_n 0, 1) := by decide +kernel
theorem d_Pt_sortInByThickness_29 : decode b_Pt_sortInByThickness 29 = .ok (.getfield 31, 3) := by decide +kernel
theorem d_Pt_sortInByThickness_32 : decode b_Pt_sortInByThickness 32 = .ok (.iload_n 2, 1) := by decide +kernel
theorem d_Pt_sortInByThickness_33 : decode b_Pt_sortInByThickness 33 = .ok (.aload_n 0, 1) := by decide +kernel
theorem d_Pt_sortInByThickness_34 : decode b_Pt_sortInByThickness 34 = .ok (.getfield 31, 3) := by decide +kernel
theorem d_Pt_sortInByThickness_37 : decode b_Pt_sortInByThickness 37 = .ok (.iload_n 2, 1) := by decide +kernel
theorem d_Pt_sortInByThickness_38 : decode b_Pt_sortInByThickness 38 = .ok (.iconst 1, 1) := by decide +kernel
theorem d_Pt_sortInByThickness_39 : decode b_Pt_sortInByThickness 39 = .ok (.isub, 1) := by decide +kernel
theorem d_Pt_sortInByThickness_40 : decode b_Pt_sortInByThickness 40 = .ok (.iaload, 1) := by decide +kernel
theorem d_Pt_sortInByThickness_41 : decode b_Pt_sortInByThickness 41 = .ok (.iastore, 1) := by decide +kernel
theorem d_Pt_sortInByThickness_42 : decode b_Pt_sortInByThickness 42 = .ok (.iinc 2 (-1), 3) := by decide +kernel
theorem d_Pt_sortInByThickness_45 : decode b_Pt_sortInByThickness 45 = .ok (.goto (-43), 3) := by decide +kernel
theorem d_Pt_sortInByThickness_48 : decode b_Pt_sortInByThickness 48 = .ok (.aload_n 0, 1) := by decide +kernel
theorem d_Pt_sortInByThickness_49 : decode b_Pt_sortInByThickness 49 = .ok (.getfield 31, 3) := by decide +kernel
theorem d_Pt_sortInByThickness_52 : decode b_Pt_sortInByThickness 52 = .ok (.iload_n 2, 1) := by decide +kernel
theorem d_Pt_sortInByThickness_53 : decode b_Pt_sortInByThickness 53 = .ok (.iload_n 1, 1) := by decide +kernel
theorem d_Pt_sortInByThickness_54 : decode b_Pt_sortInByThickness 54 = .ok (.iastore, 1) := by decide +kernel
theorem d_Pt_sortInByThickness_55 : decode b_Pt_sortInByThickness 55 = .ok (.return_, 1) := by decide +kernel
theorem d_Pt_sortInByStep_0 : decode b_Pt_sortInByStep 0 = .ok (.iload_n 1, 1) := by decide +kernel
theorem d_Pt_sortInByStep_1 : decode b_Pt_sortInByStep 1 = .ok (.istore_n 2, 1) := by decide +kernel
theorem d_Pt_sortInByStep_2 : decode b_Pt_sortInByStep 2 = .ok (.iload_n 2, 1) := by decide +kernel
theorem d_Pt_sortInByStep_3 : decode b_Pt_sortInByStep 3 = .ok (.ifCond .le 45, 3) := by decide +kernel
theorem d_Pt_sortInByStep_6 : decode b_Pt_sortInByStep 6 = .ok (.aload_n 0, 1) := by decide +kernel
theorem d_Pt_sortInByStep_7 : decode b_Pt_sortInByStep 7 = .ok (.getfield 24, 3) := by decide +kernel
theorem d_Pt_sortInByStep_10 : decode b_Pt_sortInByStep 10 = .ok (.aload_n 0, 1) := by decide +kernel
theorem d_Pt_sortInByStep_11 : decode b_Pt_sortInByStep 11 = .ok (.getfield 34, 3) := by decide +kernel
theorem d_Pt_sortInByStep_14 : decode b_Pt_sortInByStep 14 = .ok (.iload_n 2, 1) := by decide +kernel
theorem d_Pt_sortInByStep_15 : decode b_Pt_sortInByStep 15 = .ok (.iconst 1, 1) := by decide +kernel
theorem d_Pt_sortInByStep_16 : decode b_Pt_sortInByStep 16 = .ok (.isub, 1) := by decide +kernel
theorem d_Pt_sortInByStep_17 : decode b_Pt_sortInByStep 17 = .ok (.iaload, 1) := by decide +kernel
theorem d_Pt_sortInByStep_18 : decode b_Pt_sortInByStep 18 = .ok (.iaload, 1) := by decide +kernel
theorem d_Pt_sortInByStep_19 : decode b_Pt_sortInByStep 19 = .ok (.aload_n 0, 1) := by decide +kernel
theorem d_Pt_sortInByStep_20 : decode b_Pt_sortInByStep 20 = .ok (.getfield 24, 3) := by decide +kernel
theorem d_Pt_sortInByStep_23 : decode b_Pt_sortInByStep 23 = .ok (.iload_n 1, 1) := by decide +kernel
theorem d_Pt_sortInByStep_24 : decode b_Pt_sortInByStep 24 = .ok (.iaload, 1) := by decide +kernel
theorem d_Pt_sortInByStep_25 : decode b_Pt_sortInByStep 25 = .ok (.if_icmp .le 23, 3) := by decide +kernel
theorem d_Pt_sortInByStep_28 : decode b_Pt_sortInByStep 28 = .ok (.aload_n 0, 1) := by decide +kernel
theorem d_Pt_sortInByStep_29 : decode b_Pt_sortInByStep 29 = .ok (.getfield 34, 3) := by decide +kernel
theorem d_Pt_sortInByStep_32 : decode b_Pt_sortInByStep 32 = .ok (.iload_n 2, 1) := by decide +kernel
theorem d_Pt_sortInByStep_33 : decode b_Pt_sortInByStep 33 = .ok (.aload_n 0, 1) := by decide +kernel
theorem d_Pt_sortInByStep_34 : decode b_Pt_sortInByStep 34 = .ok (.getfield 34, 3) := by decide +kernel
theorem d_Pt_sortInByStep_37 : decode b_Pt_sortInByStep 37 = .ok (.iload_n 2, 1) := by decide +kernel
theorem d_Pt_sortInByStep_38 : decode b_Pt_sortInByStep 38 = .ok (.iconst 1, 1) := by decide +kernel
theorem d_Pt_sortInByStep_39 : decode b_Pt_sortInByStep 39 = .ok (.isub, 1) := by decide +kernel
theorem d_Pt_sortInByStep_40 : decode b_Pt_sortInByStep 40 = .ok (.iaload, 1) := by decide +kernel
theorem d_Pt_sortInByStep_41 : decode b_Pt_sortInByStep 41 = .ok (.iastore, 1) := by decide +kernel
theorem d_Pt_sortInByStep_42 : decode b_Pt_sortInByStep 42 = .ok (.iinc 2 (-1), 3) := by decide +kernel
theorem d_Pt_sortInByStep_45 : decode b_Pt_sortInByStep 45 = .ok (.goto (-43), 3) := by decide +kernel
theorem d_Pt_sortInByStep_48 : decode b_Pt_sortInByStep 48 = .ok (.aload_n 0, 1) := by decide +kernel
theorem d_Pt_sortInByStep_49 : decode b_Pt_sortInByStep 49 = .ok (.getfield 34, 3) := by decide +kernel
theorem d_Pt_sortInByStep_52 : decode b_Pt_sortInByStep 52 = .ok (.iload_n 2, 1) := by decide +kernel
theorem d_Pt_sortInByStep_53 : decode b_Pt_sortInByStep 53 = .ok (.iload_n 1, 1) := by decide +kernel
theorem d_Pt_sortInByStep_54 : decode b_Pt_sortInByStep 54 = .ok (.iastore, 1) := by decide +kernel
theorem d_Pt_sortInByStep_55 : decode b_Pt_sortInByStep 55 = .ok (.return_, 1) := by decide +kernel
theorem d_Pt_everyPart_0 : decode b_Pt_everyPart 0 = .ok (.iconst 1, 1) := by decide +kernel
theorem d_Pt_everyPart_1 : decode b_Pt_everyPart 1 = .ok (.aload_n 0, 1) := by decide +kernel
theorem d_Pt_everyPart_2 : decode b_Pt_everyPart 2 = .ok (.getfield 37, 3) := by decide +kernel
theorem d_Pt_everyPart_5 : decode b_Pt_everyPart 5 = .ok (.ishl, 1) := by decide +kernel
theorem d_Pt_everyPart_6 : decode b_Pt_everyPart 6 = .ok (.iconst 1, 1) := by decide +kernel
theorem d_Pt_everyPart_7 : decode b_Pt_everyPart 7 = .ok (.isub, 1) := by decide +kernel
theorem d_Pt_everyPart_8 : decode b_Pt_everyPart 8 = .ok (.ireturn, 1) := by decide +kernel
theorem d_Pt_gramsOf_0 : decode b_Pt_gramsOf 0 = .ok (.iconst 0, 1) := by decide +kernel
theorem d_Pt_gramsOf_1 : decode b_Pt_gramsOf 1 = .ok (.istore_n 2, 1) := by decide +kernel
theorem d_Pt_gramsOf_2 : decode b_Pt_gramsOf 2 = .ok (.iconst 0, 1) := by decide +kernel
theorem d_Pt_gramsOf_3 : decode b_Pt_gramsOf 3 = .ok (.istore_n 3, 1) := by decide +kernel
theorem d_Pt_gramsOf_4 : decode b_Pt_gramsOf 4 = .ok (.iload_n 3, 1) := by decide +kernel
theorem d_Pt_gramsOf_5 : decode b_Pt_gramsOf 5 = .ok (.aload_n 0, 1) := by decide +kernel
theorem d_Pt_gramsOf_6 : decode b_Pt_gramsOf 6 = .ok (.getfield 37, 3) := by decide +kernel
theorem d_Pt_gramsOf_9 : decode b_Pt_gramsOf 9 = .ok (.if_icmp .ge 26, 3) := by decide +kernel
theorem d_Pt_gramsOf_12 : decode b_Pt_gramsOf 12 = .ok (.iload_n 1, 1) := by decide +kernel
theorem d_Pt_gramsOf_13 : decode b_Pt_gramsOf 13 = .ok (.iload_n 3, 1) := by decide +kernel
theorem d_Pt_gramsOf_14 : decode b_Pt_gramsOf 14 = .ok (.invokestatic 48, 3) := by decide +kernel
theorem d_Pt_gramsOf_17 : decode b_Pt_gramsOf 17 = .ok (.ifCond .eq 12, 3) := by decide +kernel
theorem d_Pt_gramsOf_20 : decode b_Pt_gramsOf 20 = .ok (.iload_n 2, 1) := by decide +kernel
theorem d_Pt_gramsOf_21 : decode b_Pt_gramsOf 21 = .ok (.aload_n 0, 1) := by decide +kernel
theorem d_Pt_gramsOf_22 : decode b_Pt_gramsOf 22 = .ok (.getfield 21, 3) := by decide +kernel
theorem d_Pt_gramsOf_25 : decode b_Pt_gramsOf 25 = .ok (.iload_n 3, 1) := by decide +kernel
theorem d_Pt_gramsOf_26 : decode b_Pt_gramsOf 26 = .ok (.iaload, 1) := by decide +kernel
theorem d_Pt_gramsOf_27 : decode b_Pt_gramsOf 27 = .ok (.iadd, 1) := by decide +kernel
theorem d_Pt_gramsOf_28 : decode b_Pt_gramsOf 28 = .ok (.istore_n 2, 1) := by decide +kernel
theorem d_Pt_gramsOf_29 : decode b_Pt_gramsOf 29 = .ok (.iinc 3 1, 3) := by decide +kernel
theorem d_Pt_gramsOf_32 : decode b_Pt_gramsOf 32 = .ok (.goto (-28), 3) := by decide +kernel
theorem d_Pt_gramsOf_35 : decode b_Pt_gramsOf 35 = .ok (.iload_n 2, 1) := by decide +kernel
theorem d_Pt_gramsOf_36 : decode b_Pt_gramsOf 36 = .ok (.ireturn, 1) := by decide +kernel
theorem d_Pt_areWithin_0 : decode b_Pt_areWithin 0 = .ok (.iconst 0, 1) := by decide +kernel
theorem d_Pt_areWithin_1 : decode b_Pt_areWithin 1 = .ok (.istore 4, 2) := by decide +kernel
theorem d_Pt_areWithin_3 : decode b_Pt_areWithin 3 = .ok (.iload 4, 2) := by decide +kernel
theorem d_Pt_areWithin_5 : decode b_Pt_areWithin 5 = .ok (.aload_n 0, 1) := by decide +kernel
theorem d_Pt_areWithin_6 : decode b_Pt_areWithin 6 = .ok (.getfield 37, 3) := by decide +kernel
theorem d_Pt_areWithin_9 : decode b_Pt_areWithin 9 = .ok (.if_icmp .ge 42, 3) := by decide +kernel
theorem d_Pt_areWithin_12 : decode b_Pt_areWithin 12 = .ok (.iload_n 1, 1) := by decide +kernel
theorem d_Pt_areWithin_13 : decode b_Pt_areWithin 13 = .ok (.iload 4, 2) := by decide +kernel
theorem d_Pt_areWithin_15 : decode b_Pt_areWithin 15 = .ok (.invokestatic 48, 3) := by decide +kernel
theorem d_Pt_areWithin_18 : decode b_Pt_areWithin 18 = .ok (.ifCond .eq 27, 3) := by decide +kernel
theorem d_Pt_areWithin_21 : decode b_Pt_areWithin 21 = .ok (.aload_n 0, 1) := by decide +kernel
theorem d_Pt_areWithin_22 : decode b_Pt_areWithin 22 = .ok (.getfield 9, 3) := by decide +kernel
theorem d_Pt_areWithin_25 : decode b_Pt_areWithin 25 = .ok (.iload 4, 2) := by decide +kernel
theorem d_Pt_areWithin_27 : decode b_Pt_areWithin 27 = .ok (.iaload, 1) := by decide +kernel
theorem d_Pt_areWithin_28 : decode b_Pt_areWithin 28 = .ok (.iload_n 2, 1) := by decide +kernel
theorem d_Pt_areWithin_29 : decode b_Pt_areWithin 29 = .ok (.if_icmp .gt 14, 3) := by decide +kernel
theorem d_Pt_areWithin_32 : decode b_Pt_areWithin 32 = .ok (.aload_n 0, 1) := by decide +kernel
theorem d_Pt_areWithin_33 : decode b_Pt_areWithin 33 = .ok (.getfield 15, 3) := by decide +kernel
theorem d_Pt_areWithin_36 : decode b_Pt_areWithin 36 = .ok (.iload 4, 2) := by decide +kernel
theorem d_Pt_areWithin_38 : decode b_Pt_areWithin 38 = .ok (.iaload, 1) := by decide +kernel
theorem d_Pt_areWithin_39 : decode b_Pt_areWithin 39 = .ok (.iload_n 3, 1) := by decide +kernel
theorem d_Pt_areWithin_40 : decode b_Pt_areWithin 40 = .ok (.if_icmp .le 5, 3) := by decide +kernel
theorem d_Pt_areWithin_43 : decode b_Pt_areWithin 43 = .ok (.iconst 0, 1) := by decide +kernel
theorem d_Pt_areWithin_44 : decode b_Pt_areWithin 44 = .ok (.ireturn, 1) := by decide +kernel
theorem d_Pt_areWithin_45 : decode b_Pt_areWithin 45 = .ok (.iinc 4 1, 3) := by decide +kernel
theorem d_Pt_areWithin_48 : decode b_Pt_areWithin 48 = .ok (.goto (-45), 3) := by decide +kernel
theorem d_Pt_areWithin_51 : decode b_Pt_areWithin 51 = .ok (.iconst 1, 1) := by decide +kernel
theorem d_Pt_areWithin_52 : decode b_Pt_areWithin 52 = .ok (.ireturn, 1) := by decide +kernel
theorem d_Sr_init_0 : decode b_Sr_init 0 = .ok (.aload_n 0, 1) := by decide +kernel
theorem d_Sr_init_1 : decode b_Sr_init 1 = .ok (.invokespecial 3, 3) := by decide +kernel
theorem d_Sr_init_4 : decode b_Sr_init 4 = .ok (.aload_n 0, 1) := by decide +kernel
theorem d_Sr_init_5 : decode b_Sr_init 5 = .ok (.sipush 256, 3) := by decide +kernel
theorem d_Sr_init_8 : decode b_Sr_init 8 = .ok (.newarray .int, 2) := by decide +kernel
theorem d_Sr_init_10 : decode b_Sr_init 10 = .ok (.putfield 9, 3) := by decide +kernel
theorem d_Sr_init_13 : decode b_Sr_init 13 = .ok (.aload_n 0, 1) := by decide +kernel
theorem d_Sr_init_14 : decode b_Sr_init 14 = .ok (.sipush 256, 3) := by decide +kernel
theorem d_Sr_init_17 : decode b_Sr_init 17 = .ok (.newarray .int, 2) := by decide +kernel
theorem d_Sr_init_19 : decode b_Sr_init 19 = .ok (.putfield 15, 3) := by decide +kernel
theorem d_Sr_init_22 : decode b_Sr_init 22 = .ok (.aload_n 0, 1) := by decide +kernel
theorem d_Sr_init_23 : decode b_Sr_init 23 = .ok (.bipush 8, 2) := by decide +kernel
theorem d_Sr_init_25 : decode b_Sr_init 25 = .ok (.newarray .int, 2) := by decide +kernel
theorem d_Sr_init_27 : decode b_Sr_init 27 = .ok (.putfield 18, 3) := by decide +kernel
theorem d_Sr_init_30 : decode b_Sr_init 30 = .ok (.aload_n 0, 1) := by decide +kernel
theorem d_Sr_init_31 : decode b_Sr_init 31 = .ok (.bipush 8, 2) := by decide +kernel
theorem d_Sr_init_33 : decode b_Sr_init 33 = .ok (.newarray .int, 2) := by decide +kernel
theorem d_Sr_init_35 : decode b_Sr_init 35 = .ok (.putfield 21, 3) := by decide +kernel
theorem d_Sr_init_38 : decode b_Sr_init 38 = .ok (.return_, 1) := by decide +kernel
theorem d_Sr_find_0 : decode b_Sr_find 0 = .ok (.aload_n 0, 1) := by decide +kernel
theorem d_Sr_find_1 : decode b_Sr_find 1 = .ok (.aload_n 2, 1) := by decide +kernel
theorem d_Sr_find_2 : decode b_Sr_find 2 = .ok (.getfield 24, 3) := by decide +kernel
theorem d_Sr_find_5 : decode b_Sr_find 5 = .ok (.putfield 30, 3) := by decide +kernel
theorem d_Sr_find_8 : decode b_Sr_find 8 = .ok (.aload_n 0, 1) := by decide +kernel
theorem d_Sr_find_9 : decode b_Sr_find 9 = .ok (.ldc 33, 2) := by decide +kernel
theorem d_Sr_find_11 : decode b_Sr_find 11 = .ok (.putfield 34, 3) := by decide +kernel
theorem d_Sr_find_14 : decode b_Sr_find 14 = .ok (.iconst 1, 1) := by decide +kernel
theorem d_Sr_find_15 : decode b_Sr_find 15 = .ok (.istore 4, 2) := by decide +kernel
theorem d_Sr_find_17 : decode b_Sr_find 17 = .ok (.iload 4, 2) := by decide +kernel
theorem d_Sr_find_19 : decode b_Sr_find 19 = .ok (.aload_n 2, 1) := by decide +kernel
theorem d_Sr_find_20 : decode b_Sr_find 20 = .ok (.invokevirtual 37, 3) := by decide +kernel
theorem d_Sr_find_23 : decode b_Sr_find 23 = .ok (.if_icmp .gt 36, 3) := by decide +kernel
theorem d_Sr_find_26 : decode b_Sr_find 26 = .ok (.aload_n 0, 1) := by decide +kernel
theorem d_Sr_find_27 : decode b_Sr_find 27 = .ok (.aload_n 1, 1) := by decide +kernel
theorem d_Sr_find_28 : decode b_Sr_find 28 = .ok (.aload_n 2, 1) := by decide +kernel
theorem d_Sr_find_29 : decode b_Sr_find 29 = .ok (.aload_n 3, 1) := by decide +kernel
theorem d_Sr_find_30 : decode b_Sr_find 30 = .ok (.iload 4, 2) := by decide +kernel
theorem d_Sr_find_32 : decode b_Sr_find 32 = .ok (.invokevirtual 41, 3) := by decide +kernel
theorem d_Sr_find_35 : decode b_Sr_find 35 = .ok (.aload_n 0, 1) := by decide +kernel
theorem d_Sr_find_36 : decode b_Sr_find 36 = .ok (.aload_n 0, 1) := by decide +kernel
theorem d_Sr_find_37 : decode b_Sr_find 37 = .ok (.getfield 34, 3) := by decide +kernel
theorem d_Sr_find_40 : decode b_Sr_find 40 = .ok (.aload_n 0, 1) := by decide +kernel
theorem d_Sr_find_41 : decode b_Sr_find 41 = .ok (.getfield 15, 3) := by decide +kernel
theorem d_Sr_find_44 : decode b_Sr_find 44 = .ok (.iload 4, 2) := by decide +kernel
theorem d_Sr_find_46 : decode b_Sr_find 46 = .ok (.iaload, 1) := by decide +kernel
theorem d_Sr_find_47 : decode b_Sr_find 47 = .ok (.invokestatic 45, 3) := by decide +kernel
theorem d_Sr_find_50 : decode b_Sr_find 50 = .ok (.putfield 34, 3) := by decide +kernel
theorem d_Sr_find_53 : decode b_Sr_find 53 = .ok (.iinc 4 1, 3) := by decide +kernel
theorem d_Sr_find_56 : decode b_Sr_find 56 = .ok (.goto (-39), 3) := by decide +kernel
theorem d_Sr_find_59 : decode b_Sr_find 59 = .ok (.aload_n 0, 1) := by decide +kernel
theorem d_Sr_find_60 : decode b_Sr_find 60 = .ok (.ldc 33, 2) := by decide +kernel
theorem d_Sr_find_62 : decode b_Sr_find 62 = .ok (.putfield 51, 3) := by decide +kernel
theorem d_Sr_find_65 : decode b_Sr_find 65 = .ok (.aload_n 0, 1) := by decide +kernel
theorem d_Sr_find_66 : decode b_Sr_find 66 = .ok (.iconst (-1), 1) := by decide +kernel
theorem d_Sr_find_67 : decode b_Sr_find 67 = .ok (.putfield 54, 3) := by decide +kernel
theorem d_Sr_find_70 : decode b_Sr_find 70 = .ok (.aload_n 0, 1) := by decide +kernel
theorem d_Sr_find_71 : decode b_Sr_find 71 = .ok (.iconst 0, 1) := by decide +kernel
theorem d_Sr_find_72 : decode b_Sr_find 72 = .ok (.iconst 0, 1) := by decide +kernel
theorem d_Sr_find_73 : decode b_Sr_find 73 = .ok (.invokevirtual 57, 3) := by decide +kernel
theorem d_Sr_find_76 : decode b_Sr_find 76 = .ok (.return_, 1) := by decide +kernel
theorem d_Sr_chooseCarton_0 : decode b_Sr_chooseCarton 0 = .ok (.aload_n 0, 1) := by decide +kernel
theorem d_Sr_chooseCarton_1 : decode b_Sr_chooseCarton 1 = .ok (.getfield 9, 3) := by decide +kernel
theorem d_Sr_chooseCarton_4 : decode b_Sr_chooseCarton 4 = .ok (.iload 4, 2) := by decide +kernel
theorem d_Sr_chooseCarton_6 : decode b_Sr_chooseCarton 6 = .ok (.iconst (-1), 1) := by decide +kernel
theorem d_Sr_chooseCarton_7 : decode b_Sr_chooseCarton 7 = .ok (.iastore, 1) := by decide +kernel
theorem d_Sr_chooseCarton_8 : decode b_Sr_chooseCarton 8 = .ok (.aload_n 0, 1) := by decide +kernel
theorem d_Sr_chooseCarton_9 : decode b_Sr_chooseCarton 9 = .ok (.getfield 15, 3) := by decide +kernel
theorem d_Sr_chooseCarton_12 : decode b_Sr_chooseCarton 12 = .ok (.iload 4, 2) := by decide +kernel
theorem d_Sr_chooseCarton_14 : decode b_Sr_chooseCarton 14 = .ok (.ldc 33, 2) := by decide +kernel
theorem d_Sr_chooseCarton_16 : decode b_Sr_chooseCarton 16 = .ok (.iastore, 1) := by decide +kernel
theorem d_Sr_chooseCarton_17 : decode b_Sr_chooseCarton 17 = .ok (.iconst 0, 1) := by decide +kernel
theorem d_Sr_chooseCarton_18 : decode b_Sr_chooseCarton 18 = .ok (.istore 5, 2) := by decide +kernel
theorem d_Sr_chooseCarton_20 : decode b_Sr_chooseCarton 20 = .ok (.iload 5, 2) := by decide +kernel
theorem d_Sr_chooseCarton_22 : decode b_Sr_chooseCarton 22 = .ok (.aload_n 1, 1) := by decide +kernel
theorem d_Sr_chooseCarton_23 : decode b_Sr_chooseCarton 23 = .ok (.getfield 61, 3) := by decide +kernel
theorem d_Sr_chooseCarton_26 : decode b_Sr_chooseCarton 26 = .ok (.if_icmp .ge 66, 3) := by decide +kernel
theorem d_Sr_chooseCarton_29 : decode b_Sr_chooseCarton 29 = .ok (.aload_n 1, 1) := by decide +kernel
theorem d_Sr_chooseCarton_30 : decode b_Sr_chooseCarton 30 = .ok (.getfield 64, 3) := by decide +kernel
theorem d_Sr_chooseCarton_33 : decode b_Sr_chooseCarton 33 = .ok (.iload 5, 2) := by decide +kernel
theorem d_Sr_chooseCarton_35 : decode b_Sr_chooseCarton 35 = .ok (.iaload, 1) := by decide +kernel
theorem d_Sr_chooseCarton_36 : decode b_Sr_chooseCarton 36 = .ok (.bipush 9, 2) := by decide +kernel
theorem d_Sr_chooseCarton_38 : decode b_Sr_chooseCarton 38 = .ok (.imul, 1) := by decide +kernel
theorem d_Sr_chooseCarton_39 : decode b_Sr_chooseCarton 39 = .ok (.iconst 1, 1) := by decide +kernel
theorem d_Sr_chooseCarton_40 : decode b_Sr_chooseCarton 40 = .ok (.iadd, 1) := by decide +kernel
theorem d_Sr_chooseCarton_41 : decode b_Sr_chooseCarton 41 = .ok (.istore 6, 2) := by decide +kernel
theorem d_Sr_chooseCarton_43 : decode b_Sr_chooseCarton 43 = .ok (.iload 6, 2) := by decide +kernel
theorem d_Sr_chooseCarton_45 : decode b_Sr_chooseCarton 45 = .ok (.aload_n 0, 1) := by decide +kernel
theorem d_Sr_chooseCarton_46 : decode b_Sr_chooseCarton 46 = .ok (.getfield 15, 3) := by decide +kernel
theorem d_Sr_chooseCarton_49 : decode b_Sr_chooseCarton 49 = .ok (.iload 4, 2) := by decide +kernel
theorem d_Sr_chooseCarton_51 : decode b_Sr_chooseCarton 51 = .ok (.iaload, 1) := by decide +kernel
theorem d_Sr_chooseCarton_52 : decode b_Sr_chooseCarton 52 = .ok (.if_icmp .ge 34, 3) := by decide +kernel
theorem d_Sr_chooseCarton_55 : decode b_Sr_chooseCarton 55 = .ok (.aload_n 3, 1) := by decide +kernel
theorem d_Sr_chooseCarton_56 : decode b_Sr_chooseCarton 56 = .ok (.aload_n 1, 1) := by decide +kernel
theorem d_Sr_chooseCarton_57 : decode b_Sr_chooseCarton 57 = .ok (.iload 5, 2) := by decide +kernel
theorem d_Sr_chooseCarton_59 : decode b_Sr_chooseCarton 59 = .ok (.aload_n 2, 1) := by decide +kernel
theorem d_Sr_chooseCarton_60 : decode b_Sr_chooseCarton 60 = .ok (.iload 4, 2) := by decide +kernel
theorem d_Sr_chooseCarton_62 : decode b_Sr_chooseCarton 62 = .ok (.invokevirtual 67, 3) := by decide +kernel
theorem d_Sr_chooseCarton_65 : decode b_Sr_chooseCarton 65 = .ok (.ifCond .eq 21, 3) := by decide +kernel
theorem d_Sr_chooseCarton_68 : decode b_Sr_chooseCarton 68 = .ok (.aload_n 0, 1) := by decide +kernel
theorem d_Sr_chooseCarton_69 : decode b_Sr_chooseCarton 69 = .ok (.getfield 9, 3) := by decide +kernel
theorem d_Sr_chooseCarton_72 : decode b_Sr_chooseCarton 72 = .ok (.iload 4, 2) := by decide +kernel
theorem d_Sr_chooseCarton_74 : decode b_Sr_chooseCarton 74 = .ok (.iload 5, 2) := by decide +kernel
theorem d_Sr_chooseCarton_76 : decode b_Sr_chooseCarton 76 = .ok (.iastore, 1) := by decide +kernel
theorem d_Sr_chooseCarton_77 : decode b_Sr_chooseCarton 77 = .ok (.aload_n 0, 1) := by decide +kernel
theorem d_Sr_chooseCarton_78 : decode b_Sr_chooseCarton 78 = .ok (.getfield 15, 3) := by decide +kernel
theorem d_Sr_chooseCarton_81 : decode b_Sr_chooseCarton 81 = .ok (.iload 4, 2) := by decide +kernel
theorem d_Sr_chooseCarton_83 : decode b_Sr_chooseCarton 83 = .ok (.iload 6, 2) := by decide +kernel
theorem d_Sr_chooseCarton_85 : decode b_Sr_chooseCarton 85 = .ok (.iastore, 1) := by decide +kernel
theorem d_Sr_chooseCarton_86 : decode b_Sr_chooseCarton 86 = .ok (.iinc 5 1, 3) := by decide +kernel
theorem d_Sr_chooseCarton_89 : decode b_Sr_chooseCarton 89 = .ok (.goto (-69), 3) := by decide +kernel
theorem d_Sr_chooseCarton_92 : decode b_Sr_chooseCarton 92 = .ok (.return_, 1) := by decide +kernel
theorem d_Sr_share_0 : decode b_Sr_share 0 = .ok (.iload_n 2, 1) := by decide +kernel
theorem d_Sr_share_1 : decode b_Sr_share 1 = .ok (.aload_n 0, 1) := by decide +kernel
theorem d_Sr_share_2 : decode b_Sr_share 2 = .ok (.getfield 34, 3) := by decide +kernel
theorem d_Sr_share_5 : decode b_Sr_share 5 = .ok (.imul, 1) := by decide +kernel
theorem d_Sr_share_6 : decode b_Sr_share 6 = .ok (.aload_n 0, 1) := by decide +kernel
theorem d_Sr_share_7 : decode b_Sr_share 7 = .ok (.getfield 51, 3) := by decide +kernel
theorem d_Sr_share_10 : decode b_Sr_share 10 = .ok (.if_icmp .lt 4, 3) := by decide +kernel
theorem d_Sr_share_13 : decode b_Sr_share 13 = .ok (.return_, 1) := by decide +kernel
theorem d_Sr_share_14 : decode b_Sr_share 14 = .ok (.iload_n 1, 1) := by decide +kernel
theorem d_Sr_share_15 : decode b_Sr_share 15 = .ok (.aload_n 0, 1) := by decide +kernel
theorem d_Sr_share_16 : decode b_Sr_share 16 = .ok (.getfield 30, 3) := by decide +kernel
theorem d_Sr_share_19 : decode b_Sr_share 19 = .ok (.if_icmp .lt 9, 3) := by decide +kernel
theorem d_Sr_share_22 : decode b_Sr_share 22 = .ok (.aload_n 0, 1) := by decide +kernel
theorem d_Sr_share_23 : decode b_Sr_share 23 = .ok (.iload_n 2, 1) := by decide +kernel
theorem d_Sr_share_24 : decode b_Sr_share 24 = .ok (.invokevirtual 73, 3) := by decide +kernel
theorem d_Sr_share_27 : decode b_Sr_share 27 = .ok (.return_, 1) := by decide +kernel
theorem d_Sr_share_28 : decode b_Sr_share 28 = .ok (.iconst 0, 1) := by decide +kernel
theorem d_Sr_share_29 : decode b_Sr_share 29 = .ok (.istore_n 3, 1) := by decide +kernel
theorem d_Sr_share_30 : decode b_Sr_share 30 = .ok (.iload_n 3, 1) := by decide +kernel
theorem d_Sr_share_31 : decode b_Sr_share 31 = .ok (.iload_n 2, 1) := by decide +kernel
theorem d_Sr_share_32 : decode b_Sr_share 32 = .ok (.if_icmp .gt 47, 3) := by decide +kernel
theorem d_Sr_share_35 : decode b_Sr_share 35 = .ok (.aload_n 0, 1) := by decide +kernel
theorem d_Sr_share_36 : decode b_Sr_share 36 = .ok (.getfield 18, 3) := by decide +kernel
theorem d_Sr_share_39 : decode b_Sr_share 39 = .ok (.iload_n 3, 1) := by decide +kernel
theorem d_Sr_share_40 : decode b_Sr_share 40 = .ok (.dup2, 1) := by decide +kernel
theorem d_Sr_share_41 : decode b_Sr_share 41 = .ok (.iaload, 1) := by decide +kernel
theorem d_Sr_share_42 : decode b_Sr_share 42 = .ok (.iconst 1, 1) := by decide +kernel
theorem d_Sr_share_43 : decode b_Sr_share 43 = .ok (.iload_n 1, 1) := by decide +kernel
theorem d_Sr_share_44 : decode b_Sr_share 44 = .ok (.ishl, 1) := by decide +kernel
theorem d_Sr_share_45 : decode b_Sr_share 45 = .ok (.ior, 1) := by decide +kernel
theorem d_Sr_share_46 : decode b_Sr_share 46 = .ok (.iastore, 1) := by decide +kernel
theorem d_Sr_share_47 : decode b_Sr_share 47 = .ok (.aload_n 0, 1) := by decide +kernel
theorem d_Sr_share_48 : decode b_Sr_share 48 = .ok (.iload_n 1, 1) := by decide +kernel
theorem d_Sr_share_49 : decode b_Sr_share 49 = .ok (.iconst 1, 1) := by decide +kernel
theorem d_Sr_share_50 : decode b_Sr_share 50 = .ok (.iadd, 1) := by decide +kernel
theorem d_Sr_share_51 : decode b_Sr_share 51 = .ok (.iload_n 2, 1) := by decide +kernel
theorem d_Sr_share_52 : decode b_Sr_share 52 = .ok (.iload_n 3, 1) := by decide +kernel
theorem d_Sr_share_53 : decode b_Sr_share 53 = .ok (.iconst 1, 1) := by decide +kernel
theorem d_Sr_share_54 : decode b_Sr_share 54 = .ok (.iadd, 1) := by decide +kernel
theorem d_Sr_share_55 : decode b_Sr_share 55 = .ok (.invokestatic 77, 3) := by decide +kernel
theorem d_Sr_share_58 : decode b_Sr_share 58 = .ok (.invokevirtual 57, 3) := by decide +kernel
theorem d_Sr_share_61 : decode b_Sr_share 61 = .ok (.aload_n 0, 1) := by decide +kernel
theorem d_Sr_share_62 : decode b_Sr_share 62 = .ok (.getfield 18, 3) := by decide +kernel
theorem d_Sr_share_65 : decode b_Sr_share 65 = .ok (.iload_n 3, 1) := by decide +kernel
theorem d_Sr_share_66 : decode b_Sr_share 66 = .ok (.dup2, 1) := by decide +kernel
theorem d_Sr_share_67 : decode b_Sr_share 67 = .ok (.iaload, 1) := by decide +kernel
theorem d_Sr_share_68 : decode b_Sr_share 68 = .ok (.iconst 1, 1) := by decide +kernel
theorem d_Sr_share_69 : decode b_Sr_share 69 = .ok (.iload_n 1, 1) := by decide +kernel
theorem d_Sr_share_70 : decode b_Sr_share 70 = .ok (.ishl, 1) := by decide +kernel
theorem d_Sr_share_71 : decode b_Sr_share 71 = .ok (.ixor, 1) := by decide +kernel
theorem d_Sr_share_72 : decode b_Sr_share 72 = .ok (.iastore, 1) := by decide +kernel
theorem d_Sr_share_73 : decode b_Sr_share 73 = .ok (.iinc 3 1, 3) := by decide +kernel
theorem d_Sr_share_76 : decode b_Sr_share 76 = .ok (.goto (-46), 3) := by decide +kernel
theorem d_Sr_share_79 : decode b_Sr_share 79 = .ok (.return_, 1) := by decide +kernel
theorem d_Sr_compareWithBest_0 : decode b_Sr_compareWithBest 0 = .ok (.iconst 0, 1) := by decide +kernel
theorem d_Sr_compareWithBest_1 : decode b_Sr_compareWithBest 1 = .ok (.istore_n 2, 1) := by decide +kernel
theorem d_Sr_compareWithBest_2 : decode b_Sr_compareWithBest 2 = .ok (.iconst 0, 1) := by decide +kernel
theorem d_Sr_compareWithBest_3 : decode b_Sr_compareWithBest 3 = .ok (.istore_n 3, 1) := by decide +kernel
theorem d_Sr_compareWithBest_4 : decode b_Sr_compareWithBest 4 = .ok (.iload_n 3, 1) := by decide +kernel
theorem d_Sr_compareWithBest_5 : decode b_Sr_compareWithBest 5 = .ok (.iload_n 1, 1) := by decide +kernel
theorem d_Sr_compareWithBest_6 : decode b_Sr_compareWithBest 6 = .ok (.if_icmp .ge 23, 3) := by decide +kernel
theorem d_Sr_compareWithBest_9 : decode b_Sr_compareWithBest 9 = .ok (.iload_n 2, 1) := by decide +kernel
theorem d_Sr_compareWithBest_10 : decode b_Sr_compareWithBest 10 = .ok (.aload_n 0, 1) := by decide +kernel
theorem d_Sr_compareWithBest_11 : decode b_Sr_compareWithBest 11 = .ok (.getfield 15, 3) := by decide +kernel
theorem d_Sr_compareWithBest_14 : decode b_Sr_compareWithBest 14 = .ok (.aload_n 0, 1) := by decide +kernel
theorem d_Sr_compareWithBest_15 : decode b_Sr_compareWithBest 15 = .ok (.getfield 18, 3) := by decide +kernel
theorem d_Sr_compareWithBest_18 : decode b_Sr_compareWithBest 18 = .ok (.iload_n 3, 1) := by decide +kernel
theorem d_Sr_compareWithBest_19 : decode b_Sr_compareWithBest 19 = .ok (.iaload, 1) := by decide +kernel
theorem d_Sr_compareWithBest_20 : decode b_Sr_compareWithBest 20 = .ok (.iaload, 1) := by decide +kernel
theorem d_Sr_compareWithBest_21 : decode b_Sr_compareWithBest 21 = .ok (.iadd, 1) := by decide +kernel
theorem d_Sr_compareWithBest_22 : decode b_Sr_compareWithBest 22 = .ok (.istore_n 2, 1) := by decide +kernel
theorem d_Sr_compareWithBest_23 : decode b_Sr_compareWithBest 23 = .ok (.iinc 3 1, 3) := by decide +kernel
theorem d_Sr_compareWithBest_26 : decode b_Sr_compareWithBest 26 = .ok (.goto (-22), 3) := by decide +kernel
theorem d_Sr_compareWithBest_29 : decode b_Sr_compareWithBest 29 = .ok (.iload_n 2, 1) := by decide +kernel
theorem d_Sr_compareWithBest_30 : decode b_Sr_compareWithBest 30 = .ok (.aload_n 0, 1) := by decide +kernel
theorem d_Sr_compareWithBest_31 : decode b_Sr_compareWithBest 31 = .ok (.getfield 51, 3) := by decide +kernel
theorem d_Sr_compareWithBest_34 : decode b_Sr_compareWithBest 34 = .ok (.if_icmp .ge 27, 3) := by decide +kernel
theorem d_Sr_compareWithBest_37 : decode b_Sr_compareWithBest 37 = .ok (.aload_n 0, 1) := by decide +kernel
theorem d_Sr_compareWithBest_38 : decode b_Sr_compareWithBest 38 = .ok (.iload_n 2, 1) := by decide +kernel
theorem d_Sr_compareWithBest_39 : decode b_Sr_compareWithBest 39 = .ok (.putfield 51, 3) := by decide +kernel
theorem d_Sr_compareWithBest_42 : decode b_Sr_compareWithBest 42 = .ok (.aload_n 0, 1) := by decide +kernel
theorem d_Sr_compareWithBest_43 : decode b_Sr_compareWithBest 43 = .ok (.iload_n 1, 1) := by decide +kernel
theorem d_Sr_compareWithBest_44 : decode b_Sr_compareWithBest 44 = .ok (.putfield 54, 3) := by decide +kernel
theorem d_Sr_compareWithBest_47 : decode b_Sr_compareWithBest 47 = .ok (.aload_n 0, 1) := by decide +kernel
theorem d_Sr_compareWithBest_48 : decode b_Sr_compareWithBest 48 = .ok (.getfield 18, 3) := by decide +kernel
theorem d_Sr_compareWithBest_51 : decode b_Sr_compareWithBest 51 = .ok (.iconst 0, 1) := by decide +kernel
theorem d_Sr_compareWithBest_52 : decode b_Sr_compareWithBest 52 = .ok (.aload_n 0, 1) := by decide +kernel
theorem d_Sr_compareWithBest_53 : decode b_Sr_compareWithBest 53 = .ok (.getfield 21, 3) := by decide +kernel
theorem d_Sr_compareWithBest_56 : decode b_Sr_compareWithBest 56 = .ok (.iconst 0, 1) := by decide +kernel
theorem d_Sr_compareWithBest_57 : decode b_Sr_compareWithBest 57 = .ok (.iload_n 1, 1) := by decide +kernel
theorem d_Sr_compareWithBest_58 : decode b_Sr_compareWithBest 58 = .ok (.invokestatic 80, 3) := by decide +kernel
theorem d_Sr_compareWithBest_61 : decode b_Sr_compareWithBest 61 = .ok (.return_, 1) := by decide +kernel
theorem d_Sr_boxes_0 : decode b_Sr_boxes 0 = .ok (.aload_n 0, 1) := by decide +kernel
theorem d_Sr_boxes_1 : decode b_Sr_boxes 1 = .ok (.getfield 54, 3) := by decide +kernel
theorem d_Sr_boxes_4 : decode b_Sr_boxes 4 = .ok (.ireturn, 1) := by decide +kernel
theorem d_Sr_setOf_0 : decode b_Sr_setOf 0 = .ok (.aload_n 0, 1) := by decide +kernel
theorem d_Sr_setOf_1 : decode b_Sr_setOf 1 = .ok (.getfield 21, 3) := by decide +kernel
theorem d_Sr_setOf_4 : decode b_Sr_setOf 4 = .ok (.iload_n 1, 1) := by decide +kernel
theorem d_Sr_setOf_5 : decode b_Sr_setOf 5 = .ok (.iaload, 1) := by decide +kernel
theorem d_Sr_setOf_6 : decode b_Sr_setOf 6 = .ok (.ireturn, 1) := by decide +kernel
theorem d_Sr_cartonFor_0 : decode b_Sr_cartonFor 0 = .ok (.aload_n 0, 1) := by decide +kernel
theorem d_Sr_cartonFor_1 : decode b_Sr_cartonFor 1 = .ok (.getfield 9, 3) := by decide +kernel
theorem d_Sr_cartonFor_4 : decode b_Sr_cartonFor 4 = .ok (.aload_n 0, 1) := by decide +kernel
theorem d_Sr_cartonFor_5 : decode b_Sr_cartonFor 5 = .ok (.getfield 21, 3) := by decide +kernel
theorem d_Sr_cartonFor_8 : decode b_Sr_cartonFor 8 = .ok (.iload_n 1, 1) := by decide +kernel
theorem d_Sr_cartonFor_9 : decode b_Sr_cartonFor 9 = .ok (.iaload, 1) := by decide +kernel
theorem d_Sr_cartonFor_10 : decode b_Sr_cartonFor 10 = .ok (.iaload, 1) := by decide +kernel
theorem d_Sr_cartonFor_11 : decode b_Sr_cartonFor 11 = .ok (.ireturn, 1) := by decide +kernel
theorem d_Sh_init_0 : decode b_Sh_init 0 = .ok (.aload_n 0, 1) := by decide +kernel
theorem d_Sh_init_1 : decode b_Sh_init 1 = .ok (.invokespecial 3, 3) := by decide +kernel
theorem d_Sh_init_4 : decode b_Sh_init 4 = .ok (.aload_n 0, 1) := by decide +kernel
theorem d_Sh_init_5 : decode b_Sh_init 5 = .ok (.bipush 8, 2) := by decide +kernel
theorem d_Sh_init_7 : decode b_Sh_init 7 = .ok (.iconst 4, 1) := by decide +kernel
theorem d_Sh_init_8 : decode b_Sh_init 8 = .ok (.multianewarray 9 2, 4) := by decide +kernel
theorem d_Sh_init_12 : decode b_Sh_init 12 = .ok (.putfield 11, 3) := by decide +kernel
theorem d_Sh_init_15 : decode b_Sh_init 15 = .ok (.aload_n 0, 1) := by decide +kernel
theorem d_Sh_init_16 : decode b_Sh_init 16 = .ok (.bipush 8, 2) := by decide +kernel
theorem d_Sh_init_18 : decode b_Sh_init 18 = .ok (.iconst 5, 1) := by decide +kernel
theorem d_Sh_init_19 : decode b_Sh_init 19 = .ok (.multianewarray 9 2, 4) := by decide +kernel
theorem d_Sh_init_23 : decode b_Sh_init 23 = .ok (.putfield 16, 3) := by decide +kernel
theorem d_Sh_init_26 : decode b_Sh_init 26 = .ok (.aload_n 0, 1) := by decide +kernel
theorem d_Sh_init_27 : decode b_Sh_init 27 = .ok (.iconst (-1), 1) := by decide +kernel
theorem d_Sh_init_28 : decode b_Sh_init 28 = .ok (.putfield 19, 3) := by decide +kernel
theorem d_Sh_init_31 : decode b_Sh_init 31 = .ok (.return_, 1) := by decide +kernel
theorem d_Sh_forget_0 : decode b_Sh_forget 0 = .ok (.aload_n 0, 1) := by decide +kernel
theorem d_Sh_forget_1 : decode b_Sh_forget 1 = .ok (.iconst 0, 1) := by decide +kernel
theorem d_Sh_forget_2 : decode b_Sh_forget 2 = .ok (.putfield 23, 3) := by decide +kernel
theorem d_Sh_forget_5 : decode b_Sh_forget 5 = .ok (.aload_n 0, 1) := by decide +kernel
theorem d_Sh_forget_6 : decode b_Sh_forget 6 = .ok (.iconst (-1), 1) := by decide +kernel
theorem d_Sh_forget_7 : decode b_Sh_forget 7 = .ok (.putfield 19, 3) := by decide +kernel
theorem d_Sh_forget_10 : decode b_Sh_forget 10 = .ok (.return_, 1) := by decide +kernel
theorem d_Sh_take_0 : decode b_Sh_take 0 = .ok (.aload_n 0, 1) := by decide +kernel
theorem d_Sh_take_1 : decode b_Sh_take 1 = .ok (.iconst 1, 1) := by decide +kernel
theorem d_Sh_take_2 : decode b_Sh_take 2 = .ok (.putfield 23, 3) := by decide +kernel
theorem d_Sh_take_5 : decode b_Sh_take 5 = .ok (.aload_n 0, 1) := by decide +kernel
theorem d_Sh_take_6 : decode b_Sh_take 6 = .ok (.aload_n 1, 1) := by decide +kernel
theorem d_Sh_take_7 : decode b_Sh_take 7 = .ok (.invokevirtual 27, 3) := by decide +kernel
theorem d_Sh_take_10 : decode b_Sh_take 10 = .ok (.putfield 19, 3) := by decide +kernel
theorem d_Sh_take_13 : decode b_Sh_take 13 = .ok (.aload_n 0, 1) := by decide +kernel
theorem d_Sh_take_14 : decode b_Sh_take 14 = .ok (.iconst 0, 1) := by decide +kernel
theorem d_Sh_take_15 : decode b_Sh_take 15 = .ok (.putfield 32, 3) := by decide +kernel
theorem d_Sh_take_18 : decode b_Sh_take 18 = .ok (.iconst 0, 1) := by decide +kernel
theorem d_Sh_take_19 : decode b_Sh_take 19 = .ok (.istore 5, 2) := by decide +kernel
theorem d_Sh_take_21 : decode b_Sh_take 21 = .ok (.iload 5, 2) := by decide +kernel
theorem d_Sh_take_23 : decode b_Sh_take 23 = .ok (.aload_n 0, 1) := by decide +kernel
theorem d_Sh_take_24 : decode b_Sh_take 24 = .ok (.getfield 19, 3) := by decide +kernel
theorem d_Sh_take_27 : decode b_Sh_take 27 = .ok (.if_icmp .ge 89, 3) := by decide +kernel
theorem d_Sh_take_30 : decode b_Sh_take 30 = .ok (.aload_n 1, 1) := by decide +kernel
theorem d_Sh_take_31 : decode b_Sh_take 31 = .ok (.iload 5, 2) := by decide +kernel
theorem d_Sh_take_33 : decode b_Sh_take 33 = .ok (.invokevirtual 35, 3) := by decide +kernel
theorem d_Sh_take_36 : decode b_Sh_take 36 = .ok (.istore 6, 2) := by decide +kernel
theorem d_Sh_take_38 : decode b_Sh_take 38 = .ok (.aload_n 1, 1) := by decide +kernel
theorem d_Sh_take_39 : decode b_Sh_take 39 = .ok (.iload 5, 2) := by decide +kernel
theorem d_Sh_take_41 : decode b_Sh_take 41 = .ok (.invokevirtual 39, 3) := by decide +kernel
theorem d_Sh_take_44 : decode b_Sh_take 44 = .ok (.istore 7, 2) := by decide +kernel
theorem d_Sh_take_46 : decode b_Sh_take 46 = .ok (.aload 4, 2) := by decide +kernel
theorem d_Sh_take_48 : decode b_Sh_take 48 = .ok (.aload_n 3, 1) := by decide +kernel
theorem d_Sh_take_49 : decode b_Sh_take 49 = .ok (.iload 6, 2) := by decide +kernel
theorem d_Sh_take_51 : decode b_Sh_take 51 = .ok (.aload_n 2, 1) := by decide +kernel
theorem d_Sh_take_52 : decode b_Sh_take 52 = .ok (.getfield 42, 3) := by decide +kernel
theorem d_Sh_take_55 : decode b_Sh_take 55 = .ok (.iload 7, 2) := by decide +kernel
theorem d_Sh_take_57 : decode b_Sh_take 57 = .ok (.iaload, 1) := by decide +kernel
theorem d_Sh_take_58 : decode b_Sh_take 58 = .ok (.invokevirtual 48, 3) := by decide +kernel
theorem d_Sh_take_61 : decode b_Sh_take 61 = .ok (.aload_n 0, 1) := by decide +kernel
theorem d_Sh_take_62 : decode b_Sh_take 62 = .ok (.dup, 1) := by decide +kernel
theorem d_Sh_take_63 : decode b_Sh_take 63 = .ok (.getfield 32, 3) := by decide +kernel
theorem d_Sh_take_66 : decode b_Sh_take 66 = .ok (.aload_n 2, 1) := by decide +kernel
theorem d_Sh_take_67 : decode b_Sh_take 67 = .ok (.getfield 54, 3) := by decide +kernel
theorem d_Sh_take_70 : decode b_Sh_take 70 = .ok (.iload 7, 2) := by decide +kernel
theorem d_Sh_take_72 : decode b_Sh_take 72 = .ok (.iaload, 1) := by decide +kernel
theorem d_Sh_take_73 : decode b_Sh_take 73 = .ok (.iadd, 1) := by decide +kernel
theorem d_Sh_take_74 : decode b_Sh_take 74 = .ok (.putfield 32, 3) := by decide +kernel
theorem d_Sh_take_77 : decode b_Sh_take 77 = .ok (.aload_n 0, 1) := by decide +kernel
theorem d_Sh_take_78 : decode b_Sh_take 78 = .ok (.getfield 16, 3) := by decide +kernel
theorem d_Sh_take_81 : decode b_Sh_take 81 = .ok (.iload 5, 2) := by decide +kernel
theorem d_Sh_take_83 : decode b_Sh_take 83 = .ok (.aaload, 1) := by decide +kernel
theorem d_Sh_take_84 : decode b_Sh_take 84 = .ok (.iconst 0, 1) := by decide +kernel
theorem d_Sh_take_85 : decode b_Sh_take 85 = .ok (.iload 7, 2) := by decide +kernel
theorem d_Sh_take_87 : decode b_Sh_take 87 = .ok (.iastore, 1) := by decide +kernel
theorem d_Sh_take_88 : decode b_Sh_take 88 = .ok (.aload_n 0, 1) := by decide +kernel
theorem d_Sh_take_89 : decode b_Sh_take 89 = .ok (.iload 5, 2) := by decide +kernel
theorem d_Sh_take_91 : decode b_Sh_take 91 = .ok (.iload 6, 2) := by decide +kernel
theorem d_Sh_take_93 : decode b_Sh_take 93 = .ok (.aload_n 3, 1) := by decide +kernel
theorem d_Sh_take_94 : decode b_Sh_take 94 = .ok (.aload 4, 2) := by decide +kernel
theorem d_Sh_take_96 : decode b_Sh_take 96 = .ok (.invokevirtual 56, 3) := by decide +kernel
theorem d_Sh_take_99 : decode b_Sh_take 99 = .ok (.aload_n 0, 1) := by decide +kernel
theorem d_Sh_take_100 : decode b_Sh_take 100 = .ok (.iload 5, 2) := by decide +kernel
theorem d_Sh_take_102 : decode b_Sh_take 102 = .ok (.iload 6, 2) := by decide +kernel
theorem d_Sh_take_104 : decode b_Sh_take 104 = .ok (.aload_n 3, 1) := by decide +kernel
theorem d_Sh_take_105 : decode b_Sh_take 105 = .ok (.aload 4, 2) := by decide +kernel
theorem d_Sh_take_107 : decode b_Sh_take 107 = .ok (.invokevirtual 60, 3) := by decide +kernel
theorem d_Sh_take_110 : decode b_Sh_take 110 = .ok (.iinc 5 1, 3) := by decide +kernel
theorem d_Sh_take_113 : decode b_Sh_take 113 = .ok (.goto (-92), 3) := by decide +kernel
theorem d_Sh_take_116 : decode b_Sh_take 116 = .ok (.return_, 1) := by decide +kernel
theorem d_Sh_tellBox_0 : decode b_Sh_tellBox 0 = .ok (.aload_n 0, 1) := by decide +kernel
theorem d_Sh_tellBox_1 : decode b_Sh_tellBox 1 = .ok (.getfield 16, 3) := by decide +kernel
theorem d_Sh_tellBox_4 : decode b_Sh_tellBox 4 = .ok (.iload_n 1, 1) := by decide +kernel
theorem d_Sh_tellBox_5 : decode b_Sh_tellBox 5 = .ok (.aaload, 1) := by decide +kernel
theorem d_Sh_tellBox_6 : decode b_Sh_tellBox 6 = .ok (.iconst 1, 1) := by decide +kernel
theorem d_Sh_tellBox_7 : decode b_Sh_tellBox 7 = .ok (.iload_n 2, 1) := by decide +kernel
theorem d_Sh_tellBox_8 : decode b_Sh_tellBox 8 = .ok (.invokestatic 63, 3) := by decide +kernel
theorem d_Sh_tellBox_11 : decode b_Sh_tellBox 11 = .ok (.iastore, 1) := by decide +kernel
theorem d_Sh_tellBox_12 : decode b_Sh_tellBox 12 = .ok (.aload_n 0, 1) := by decide +kernel
theorem d_Sh_tellBox_13 : decode b_Sh_tellBox 13 = .ok (.getfield 16, 3) := by decide +kernel
theorem d_Sh_tellBox_16 : decode b_Sh_tellBox 16 = .ok (.iload_n 1, 1) := by decide +kernel
theorem d_Sh_tellBox_17 : decode b_Sh_tellBox 17 = .ok (.aaload, 1) := by decide +kernel
theorem d_Sh_tellBox_18 : decode b_Sh_tellBox 18 = .ok (.iconst 2, 1) := by decide +kernel
theorem d_Sh_tellBox_19 : decode b_Sh_tellBox 19 = .ok (.aload_n 3, 1) := by decide +kernel
theorem d_Sh_tellBox_20 : decode b_Sh_tellBox 20 = .ok (.iload_n 2, 1) := by decide +kernel
theorem d_Sh_tellBox_21 : decode b_Sh_tellBox 21 = .ok (.invokevirtual 68, 3) := by decide +kernel
theorem d_Sh_tellBox_24 : decode b_Sh_tellBox 24 = .ok (.iastore, 1) := by decide +kernel
theorem d_Sh_tellBox_25 : decode b_Sh_tellBox 25 = .ok (.aload_n 0, 1) := by decide +kernel
theorem d_Sh_tellBox_26 : decode b_Sh_tellBox 26 = .ok (.getfield 16, 3) := by decide +kernel
theorem d_Sh_tellBox_29 : decode b_Sh_tellBox 29 = .ok (.iload_n 1, 1) := by decide +kernel
theorem d_Sh_tellBox_30 : decode b_Sh_tellBox 30 = .ok (.aaload, 1) := by decide +kernel
theorem d_Sh_tellBox_31 : decode b_Sh_tellBox 31 = .ok (.iconst 3, 1) := by decide +kernel
theorem d_Sh_tellBox_32 : decode b_Sh_tellBox 32 = .ok (.aload 4, 2) := by decide +kernel
theorem d_Sh_tellBox_34 : decode b_Sh_tellBox 34 = .ok (.getfield 73, 3) := by decide +kernel
theorem d_Sh_tellBox_37 : decode b_Sh_tellBox 37 = .ok (.iastore, 1) := by decide +kernel
theorem d_Sh_tellBox_38 : decode b_Sh_tellBox 38 = .ok (.aload_n 0, 1) := by decide +kernel
theorem d_Sh_tellBox_39 : decode b_Sh_tellBox 39 = .ok (.getfield 16, 3) := by decide +kernel
theorem d_Sh_tellBox_42 : decode b_Sh_tellBox 42 = .ok (.iload_n 1, 1) := by decide +kernel
theorem d_Sh_tellBox_43 : decode b_Sh_tellBox 43 = .ok (.aaload, 1) := by decide +kernel
theorem d_Sh_tellBox_44 : decode b_Sh_tellBox 44 = .ok (.iconst 4, 1) := by decide +kernel
theorem d_Sh_tellBox_45 : decode b_Sh_tellBox 45 = .ok (.aload 4, 2) := by decide +kernel
theorem d_Sh_tellBox_47 : decode b_Sh_tellBox 47 = .ok (.invokevirtual 76, 3) := by decide +kernel
theorem d_Sh_tellBox_50 : decode b_Sh_tellBox 50 = .ok (.iastore, 1) := by decide +kernel
theorem d_Sh_tellBox_51 : decode b_Sh_tellBox 51 = .ok (.return_, 1) := by decide +kernel
theorem d_Sh_tellParts_0 : decode b_Sh_tellParts 0 = .ok (.iconst 0, 1) := by decide +kernel
theorem d_Sh_tellParts_1 : decode b_Sh_tellParts 1 = .ok (.istore 5, 2) := by decide +kernel
theorem d_Sh_tellParts_3 : decode b_Sh_tellParts 3 = .ok (.iload 5, 2) := by decide +kernel
theorem d_Sh_tellParts_5 : decode b_Sh_tellParts 5 = .ok (.aload_n 3, 1) := by decide +kernel
theorem d_Sh_tellParts_6 : decode b_Sh_tellParts 6 = .ok (.getfield 79, 3) := by decide +kernel
theorem d_Sh_tellParts_9 : decode b_Sh_tellParts 9 = .ok (.if_icmp .ge 87, 3) := by decide +kernel
theorem d_Sh_tellParts_12 : decode b_Sh_tellParts 12 = .ok (.iload_n 2, 1) := by decide +kernel
theorem d_Sh_tellParts_13 : decode b_Sh_tellParts 13 = .ok (.iload 5, 2) := by decide +kernel
theorem d_Sh_tellParts_15 : decode b_Sh_tellParts 15 = .ok (.invokestatic 82, 3) := by decide +kernel
theorem d_Sh_tellParts_18 : decode b_Sh_tellParts 18 = .ok (.ifCond .eq 72, 3) := by decide +kernel
theorem d_Sh_tellParts_21 : decode b_Sh_tellParts 21 = .ok (.aload 4, 2) := by decide +kernel
theorem d_Sh_tellParts_23 : decode b_Sh_tellParts 23 = .ok (.getfield 86, 3) := by decide +kernel
theorem d_Sh_tellParts_26 : decode b_Sh_tellParts 26 = .ok (.iload 5, 2) := by decide +kernel
theorem d_Sh_tellParts_28 : decode b_Sh_tellParts 28 = .ok (.iaload, 1) := by decide +kernel
theorem d_Sh_tellParts_29 : decode b_Sh_tellParts 29 = .ok (.istore 6, 2) := by decide +kernel
theorem d_Sh_tellParts_31 : decode b_Sh_tellParts 31 = .ok (.aload_n 0, 1) := by decide +kernel
theorem d_Sh_tellParts_32 : decode b_Sh_tellParts 32 = .ok (.getfield 11, 3) := by decide +kernel
theorem d_Sh_tellParts_35 : decode b_Sh_tellParts 35 = .ok (.iload 5, 2) := by decide +kernel
theorem d_Sh_tellParts_37 : decode b_Sh_tellParts 37 = .ok (.aaload, 1) := by decide +kernel
theorem d_Sh_tellParts_38 : decode b_Sh_tellParts 38 = .ok (.iconst 0, 1) := by decide +kernel
theorem d_Sh_tellParts_39 : decode b_Sh_tellParts 39 = .ok (.iload_n 1, 1) := by decide +kernel
theorem d_Sh_tellParts_40 : decode b_Sh_tellParts 40 = .ok (.iastore, 1) := by decide +kernel
theorem d_Sh_tellParts_41 : decode b_Sh_tellParts 41 = .ok (.aload_n 0, 1) := by decide +kernel
theorem d_Sh_tellParts_42 : decode b_Sh_tellParts 42 = .ok (.getfield 11, 3) := by decide +kernel
theorem d_Sh_tellParts_45 : decode b_Sh_tellParts 45 = .ok (.iload 5, 2) := by decide +kernel
theorem d_Sh_tellParts_47 : decode b_Sh_tellParts 47 = .ok (.aaload, 1) := by decide +kernel
theorem d_Sh_tellParts_48 : decode b_Sh_tellParts 48 = .ok (.iconst 1, 1) := by decide +kernel
theorem d_Sh_tellParts_49 : decode b_Sh_tellParts 49 = .ok (.aload 4, 2) := by decide +kernel
theorem d_Sh_tellParts_51 : decode b_Sh_tellParts 51 = .ok (.iload 6, 2) := by decide +kernel
theorem d_Sh_tellParts_53 : decode b_Sh_tellParts 53 = .ok (.invokevirtual 89, 3) := by decide +kernel
theorem d_Sh_tellParts_56 : decode b_Sh_tellParts 56 = .ok (.iastore, 1) := by decide +kernel
theorem d_Sh_tellParts_57 : decode b_Sh_tellParts 57 = .ok (.aload_n 0, 1) := by decide +kernel
theorem d_Sh_tellParts_58 : decode b_Sh_tellParts 58 = .ok (.getfield 11, 3) := by decide +kernel
theorem d_Sh_tellParts_61 : decode b_Sh_tellParts 61 = .ok (.iload 5, 2) := by decide +kernel
theorem d_Sh_tellParts_63 : decode b_Sh_tellParts 63 = .ok (.aaload, 1) := by decide +kernel
theorem d_Sh_tellParts_64 : decode b_Sh_tellParts 64 = .ok (.iconst 2, 1) := by decide +kernel
theorem d_Sh_tellParts_65 : decode b_Sh_tellParts 65 = .ok (.aload 4, 2) := by decide +kernel
theorem d_Sh_tellParts_67 : decode b_Sh_tellParts 67 = .ok (.getfield 92, 3) := by decide +kernel
theorem d_Sh_tellParts_70 : decode b_Sh_tellParts 70 = .ok (.iload 5, 2) := by decide +kernel
theorem d_Sh_tellParts_72 : decode b_Sh_tellParts 72 = .ok (.iaload, 1) := by decide +kernel
theorem d_Sh_tellParts_73 : decode b_Sh_tellParts 73 = .ok (.iastore, 1) := by decide +kernel
theorem d_Sh_tellParts_74 : decode b_Sh_tellParts 74 = .ok (.aload_n 0, 1) := by decide +kernel
theorem d_Sh_tellParts_75 : decode b_Sh_tellParts 75 = .ok (.getfield 11, 3) := by decide +kernel
theorem d_Sh_tellParts_78 : decode b_Sh_tellParts 78 = .ok (.iload 5, 2) := by decide +kernel
theorem d_Sh_tellParts_80 : decode b_Sh_tellParts 80 = .ok (.aaload, 1) := by decide +kernel
theorem d_Sh_tellParts_81 : decode b_Sh_tellParts 81 = .ok (.iconst 3, 1) := by decide +kernel
theorem d_Sh_tellParts_82 : decode b_Sh_tellParts 82 = .ok (.aload 4, 2) := by decide +kernel
theorem d_Sh_tellParts_84 : decode b_Sh_tellParts 84 = .ok (.iload 6, 2) := by decide +kernel
theorem d_Sh_tellParts_86 : decode b_Sh_tellParts 86 = .ok (.invokevirtual 95, 3) := by decide +kernel
theorem d_Sh_tellParts_89 : decode b_Sh_tellParts 89 = .ok (.iastore, 1) := by decide +kernel
theorem d_Sh_tellParts_90 : decode b_Sh_tellParts 90 = .ok (.iinc 5 1, 3) := by decide +kernel
theorem d_Sh_tellParts_93 : decode b_Sh_tellParts 93 = .ok (.goto (-90), 3) := by decide +kernel
theorem d_Sh_tellParts_96 : decode b_Sh_tellParts 96 = .ok (.return_, 1) := by decide +kernel
theorem d_Sh_stackOnPallets_0 : decode b_Sh_stackOnPallets 0 = .ok (.iconst 0, 1) := by decide +kernel
theorem d_Sh_stackOnPallets_1 : decode b_Sh_stackOnPallets 1 = .ok (.istore_n 2, 1) := by decide +kernel
theorem d_Sh_stackOnPallets_2 : decode b_Sh_stackOnPallets 2 = .ok (.iconst 0, 1) := by decide +kernel
theorem d_Sh_stackOnPallets_3 : decode b_Sh_stackOnPallets 3 = .ok (.istore_n 3, 1) := by decide +kernel
theorem d_Sh_stackOnPallets_4 : decode b_Sh_stackOnPallets 4 = .ok (.iconst 0, 1) := by decide +kernel
theorem d_Sh_stackOnPallets_5 : decode b_Sh_stackOnPallets 5 = .ok (.istore 4, 2) := by decide +kernel
theorem d_Sh_stackOnPallets_7 : decode b_Sh_stackOnPallets 7 = .ok (.iload 4, 2) := by decide +kernel
theorem d_Sh_stackOnPallets_9 : decode b_Sh_stackOnPallets 9 = .ok (.aload_n 0, 1) := by decide +kernel
theorem d_Sh_stackOnPallets_10 : decode b_Sh_stackOnPallets 10 = .ok (.getfield 19, 3) := by decide +kernel
theorem d_Sh_stackOnPallets_13 : decode b_Sh_stackOnPallets 13 = .ok (.if_icmp .ge 42, 3) := by decide +kernel
theorem d_Sh_stackOnPallets_16 : decode b_Sh_stackOnPallets 16 = .ok (.aload_n 0, 1) := by decide +kernel
theorem d_Sh_stackOnPallets_17 : decode b_Sh_stackOnPallets 17 = .ok (.getfield 16, 3) := by decide +kernel
theorem d_Sh_stackOnPallets_20 : decode b_Sh_stackOnPallets 20 = .ok (.iload 4, 2) := by decide +kernel
theorem d_Sh_stackOnPallets_22 : decode b_Sh_stackOnPallets 22 = .ok (.aaload, 1) := by decide +kernel
theorem d_Sh_stackOnPallets_23 : decode b_Sh_stackOnPallets 23 = .ok (.iconst 2, 1) := by decide +kernel
theorem d_Sh_stackOnPallets_24 : decode b_Sh_stackOnPallets 24 = .ok (.iaload, 1) := by decide +kernel
theorem d_Sh_stackOnPallets_25 : decode b_Sh_stackOnPallets 25 = .ok (.istore 5, 2) := by decide +kernel
theorem d_Sh_stackOnPallets_27 : decode b_Sh_stackOnPallets 27 = .ok (.iload_n 2, 1) := by decide +kernel
theorem d_Sh_stackOnPallets_28 : decode b_Sh_stackOnPallets 28 = .ok (.ifCond .eq 11, 3) := by decide +kernel
theorem d_Sh_stackOnPallets_31 : decode b_Sh_stackOnPallets 31 = .ok (.iload_n 3, 1) := by decide +kernel
theorem d_Sh_stackOnPallets_32 : decode b_Sh_stackOnPallets 32 = .ok (.iload 5, 2) := by decide +kernel
theorem d_Sh_stackOnPallets_34 : decode b_Sh_stackOnPallets 34 = .ok (.iadd, 1) := by decide +kernel
theorem d_Sh_stackOnPallets_35 : decode b_Sh_stackOnPallets 35 = .ok (.iload_n 1, 1) := by decide +kernel
theorem d_Sh_stackOnPallets_36 : decode b_Sh_stackOnPallets 36 = .ok (.if_icmp .le 8, 3) := by decide +kernel
theorem d_Sh_stackOnPallets_39 : decode b_Sh_stackOnPallets 39 = .ok (.iinc 2 1, 3) := by decide +kernel
theorem d_Sh_stackOnPallets_42 : decode b_Sh_stackOnPallets 42 = .ok (.iconst 0, 1) := by decide +kernel
theorem d_Sh_stackOnPallets_43 : decode b_Sh_stackOnPallets 43 = .ok (.istore_n 3, 1) := by decide +kernel
theorem d_Sh_stackOnPallets_44 : decode b_Sh_stackOnPallets 44 = .ok (.iload_n 3, 1) := by decide +kernel
theorem d_Sh_stackOnPallets_45 : decode b_Sh_stackOnPallets 45 = .ok (.iload 5, 2) := by decide +kernel
theorem d_Sh_stackOnPallets_47 : decode b_Sh_stackOnPallets 47 = .ok (.iadd, 1) := by decide +kernel
theorem d_Sh_stackOnPallets_48 : decode b_Sh_stackOnPallets 48 = .ok (.istore_n 3, 1) := by decide +kernel
theorem d_Sh_stackOnPallets_49 : decode b_Sh_stackOnPallets 49 = .ok (.iinc 4 1, 3) := by decide +kernel
theorem d_Sh_stackOnPallets_52 : decode b_Sh_stackOnPallets 52 = .ok (.goto (-45), 3) := by decide +kernel
theorem d_Sh_stackOnPallets_55 : decode b_Sh_stackOnPallets 55 = .ok (.iload_n 2, 1) := by decide +kernel
theorem d_Sh_stackOnPallets_56 : decode b_Sh_stackOnPallets 56 = .ok (.ireturn, 1) := by decide +kernel
