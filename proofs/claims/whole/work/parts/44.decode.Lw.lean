/-! decode rows: written by wip/gen/names.py -/
theorem d_Lw_cell_0 : decode b_Lw_cell 0 = .ok (.iload_n 1, 1) := by decide +kernel
theorem d_Lw_cell_1 : decode b_Lw_cell 1 = .ok (.aload_n 0, 1) := by decide +kernel
theorem d_Lw_cell_2 : decode b_Lw_cell 2 = .ok (.arraylength, 1) := by decide +kernel
theorem d_Lw_cell_3 : decode b_Lw_cell 3 = .ok (.if_icmp .ge 9, 3) := by decide +kernel
theorem d_Lw_cell_6 : decode b_Lw_cell 6 = .ok (.aload_n 0, 1) := by decide +kernel
theorem d_Lw_cell_7 : decode b_Lw_cell 7 = .ok (.iload_n 1, 1) := by decide +kernel
theorem d_Lw_cell_8 : decode b_Lw_cell 8 = .ok (.iaload, 1) := by decide +kernel
theorem d_Lw_cell_9 : decode b_Lw_cell 9 = .ok (.goto 4, 3) := by decide +kernel
theorem d_Lw_cell_12 : decode b_Lw_cell 12 = .ok (.iconst 0, 1) := by decide +kernel
theorem d_Lw_cell_13 : decode b_Lw_cell 13 = .ok (.ireturn, 1) := by decide +kernel
theorem d_Lw_carton_0 : decode b_Lw_carton 0 = .ok (.aload 6, 2) := by decide +kernel
theorem d_Lw_carton_2 : decode b_Lw_carton 2 = .ok (.iconst 0, 1) := by decide +kernel
theorem d_Lw_carton_3 : decode b_Lw_carton 3 = .ok (.aload_n 0, 1) := by decide +kernel
theorem d_Lw_carton_4 : decode b_Lw_carton 4 = .ok (.iload_n 1, 1) := by decide +kernel
theorem d_Lw_carton_5 : decode b_Lw_carton 5 = .ok (.iload_n 2, 1) := by decide +kernel
theorem d_Lw_carton_6 : decode b_Lw_carton 6 = .ok (.iload_n 3, 1) := by decide +kernel
theorem d_Lw_carton_7 : decode b_Lw_carton 7 = .ok (.iload 4, 2) := by decide +kernel
theorem d_Lw_carton_9 : decode b_Lw_carton 9 = .ok (.iload 5, 2) := by decide +kernel
theorem d_Lw_carton_11 : decode b_Lw_carton 11 = .ok (.invokevirtual 7, 3) := by decide +kernel
theorem d_Lw_carton_14 : decode b_Lw_carton 14 = .ok (.i2l, 1) := by decide +kernel
theorem d_Lw_carton_15 : decode b_Lw_carton 15 = .ok (.lastore, 1) := by decide +kernel
theorem d_Lw_carton_16 : decode b_Lw_carton 16 = .ok (.goto 11, 3) := by decide +kernel
theorem d_Lw_carton_19 : decode b_Lw_carton 19 = .ok (.astore 7, 2) := by decide +kernel
theorem d_Lw_carton_21 : decode b_Lw_carton 21 = .ok (.iconst 1, 1) := by decide +kernel
theorem d_Lw_carton_22 : decode b_Lw_carton 22 = .ok (.ireturn, 1) := by decide +kernel
theorem d_Lw_carton_23 : decode b_Lw_carton 23 = .ok (.astore 7, 2) := by decide +kernel
theorem d_Lw_carton_25 : decode b_Lw_carton 25 = .ok (.iconst 2, 1) := by decide +kernel
theorem d_Lw_carton_26 : decode b_Lw_carton 26 = .ok (.ireturn, 1) := by decide +kernel
theorem d_Lw_carton_27 : decode b_Lw_carton 27 = .ok (.iconst 0, 1) := by decide +kernel
theorem d_Lw_carton_28 : decode b_Lw_carton 28 = .ok (.ireturn, 1) := by decide +kernel
theorem d_Lw_part_0 : decode b_Lw_part 0 = .ok (.aload 6, 2) := by decide +kernel
theorem d_Lw_part_2 : decode b_Lw_part 2 = .ok (.iconst 0, 1) := by decide +kernel
theorem d_Lw_part_3 : decode b_Lw_part 3 = .ok (.aload_n 0, 1) := by decide +kernel
theorem d_Lw_part_4 : decode b_Lw_part 4 = .ok (.iload_n 1, 1) := by decide +kernel
theorem d_Lw_part_5 : decode b_Lw_part 5 = .ok (.iload_n 2, 1) := by decide +kernel
theorem d_Lw_part_6 : decode b_Lw_part 6 = .ok (.iload_n 3, 1) := by decide +kernel
theorem d_Lw_part_7 : decode b_Lw_part 7 = .ok (.iload 4, 2) := by decide +kernel
theorem d_Lw_part_9 : decode b_Lw_part 9 = .ok (.iload 5, 2) := by decide +kernel
theorem d_Lw_part_11 : decode b_Lw_part 11 = .ok (.invokevirtual 17, 3) := by decide +kernel
theorem d_Lw_part_14 : decode b_Lw_part 14 = .ok (.i2l, 1) := by decide +kernel
theorem d_Lw_part_15 : decode b_Lw_part 15 = .ok (.lastore, 1) := by decide +kernel
theorem d_Lw_part_16 : decode b_Lw_part 16 = .ok (.goto 11, 3) := by decide +kernel
theorem d_Lw_part_19 : decode b_Lw_part 19 = .ok (.astore 7, 2) := by decide +kernel
theorem d_Lw_part_21 : decode b_Lw_part 21 = .ok (.iconst 1, 1) := by decide +kernel
theorem d_Lw_part_22 : decode b_Lw_part 22 = .ok (.ireturn, 1) := by decide +kernel
theorem d_Lw_part_23 : decode b_Lw_part 23 = .ok (.astore 7, 2) := by decide +kernel
theorem d_Lw_part_25 : decode b_Lw_part 25 = .ok (.iconst 2, 1) := by decide +kernel
theorem d_Lw_part_26 : decode b_Lw_part 26 = .ok (.ireturn, 1) := by decide +kernel
theorem d_Lw_part_27 : decode b_Lw_part 27 = .ok (.iconst 0, 1) := by decide +kernel
theorem d_Lw_part_28 : decode b_Lw_part 28 = .ok (.ireturn, 1) := by decide +kernel
theorem d_Lw_fragile_0 : decode b_Lw_fragile 0 = .ok (.aload_n 3, 1) := by decide +kernel
theorem d_Lw_fragile_1 : decode b_Lw_fragile 1 = .ok (.iconst 0, 1) := by decide +kernel
theorem d_Lw_fragile_2 : decode b_Lw_fragile 2 = .ok (.aload_n 0, 1) := by decide +kernel
theorem d_Lw_fragile_3 : decode b_Lw_fragile 3 = .ok (.iload_n 1, 1) := by decide +kernel
theorem d_Lw_fragile_4 : decode b_Lw_fragile 4 = .ok (.iload_n 2, 1) := by decide +kernel
theorem d_Lw_fragile_5 : decode b_Lw_fragile 5 = .ok (.invokevirtual 20, 3) := by decide +kernel
theorem d_Lw_fragile_8 : decode b_Lw_fragile 8 = .ok (.ifCond .eq 7, 3) := by decide +kernel
theorem d_Lw_fragile_11 : decode b_Lw_fragile 11 = .ok (.lconst 1, 1) := by decide +kernel
theorem d_Lw_fragile_12 : decode b_Lw_fragile 12 = .ok (.goto 4, 3) := by decide +kernel
theorem d_Lw_fragile_15 : decode b_Lw_fragile 15 = .ok (.lconst 0, 1) := by decide +kernel
theorem d_Lw_fragile_16 : decode b_Lw_fragile 16 = .ok (.lastore, 1) := by decide +kernel
theorem d_Lw_fragile_17 : decode b_Lw_fragile 17 = .ok (.goto 7, 3) := by decide +kernel
theorem d_Lw_fragile_20 : decode b_Lw_fragile 20 = .ok (.astore 4, 2) := by decide +kernel
theorem d_Lw_fragile_22 : decode b_Lw_fragile 22 = .ok (.iconst 1, 1) := by decide +kernel
theorem d_Lw_fragile_23 : decode b_Lw_fragile 23 = .ok (.ireturn, 1) := by decide +kernel
theorem d_Lw_fragile_24 : decode b_Lw_fragile 24 = .ok (.iconst 0, 1) := by decide +kernel
theorem d_Lw_fragile_25 : decode b_Lw_fragile 25 = .ok (.ireturn, 1) := by decide +kernel
theorem d_Lw_fits_0 : decode b_Lw_fits 0 = .ok (.aload_n 3, 1) := by decide +kernel
theorem d_Lw_fits_1 : decode b_Lw_fits 1 = .ok (.iconst 0, 1) := by decide +kernel
theorem d_Lw_fits_2 : decode b_Lw_fits 2 = .ok (.aload_n 0, 1) := by decide +kernel
theorem d_Lw_fits_3 : decode b_Lw_fits 3 = .ok (.iload_n 1, 1) := by decide +kernel
theorem d_Lw_fits_4 : decode b_Lw_fits 4 = .ok (.iload_n 2, 1) := by decide +kernel
theorem d_Lw_fits_5 : decode b_Lw_fits 5 = .ok (.invokevirtual 26, 3) := by decide +kernel
theorem d_Lw_fits_8 : decode b_Lw_fits 8 = .ok (.ifCond .eq 7, 3) := by decide +kernel
theorem d_Lw_fits_11 : decode b_Lw_fits 11 = .ok (.lconst 1, 1) := by decide +kernel
theorem d_Lw_fits_12 : decode b_Lw_fits 12 = .ok (.goto 4, 3) := by decide +kernel
theorem d_Lw_fits_15 : decode b_Lw_fits 15 = .ok (.lconst 0, 1) := by decide +kernel
theorem d_Lw_fits_16 : decode b_Lw_fits 16 = .ok (.lastore, 1) := by decide +kernel
theorem d_Lw_fits_17 : decode b_Lw_fits 17 = .ok (.goto 11, 3) := by decide +kernel
theorem d_Lw_fits_20 : decode b_Lw_fits 20 = .ok (.astore 4, 2) := by decide +kernel
theorem d_Lw_fits_22 : decode b_Lw_fits 22 = .ok (.iconst 1, 1) := by decide +kernel
theorem d_Lw_fits_23 : decode b_Lw_fits 23 = .ok (.ireturn, 1) := by decide +kernel
theorem d_Lw_fits_24 : decode b_Lw_fits 24 = .ok (.astore 4, 2) := by decide +kernel
theorem d_Lw_fits_26 : decode b_Lw_fits 26 = .ok (.iconst 2, 1) := by decide +kernel
theorem d_Lw_fits_27 : decode b_Lw_fits 27 = .ok (.ireturn, 1) := by decide +kernel
theorem d_Lw_fits_28 : decode b_Lw_fits 28 = .ok (.iconst 0, 1) := by decide +kernel
theorem d_Lw_fits_29 : decode b_Lw_fits 29 = .ok (.ireturn, 1) := by decide +kernel
theorem d_Lw_at_0 : decode b_Lw_at 0 = .ok (.aload_n 3, 1) := by decide +kernel
theorem d_Lw_at_1 : decode b_Lw_at 1 = .ok (.iconst 0, 1) := by decide +kernel
theorem d_Lw_at_2 : decode b_Lw_at 2 = .ok (.aload_n 0, 1) := by decide +kernel
theorem d_Lw_at_3 : decode b_Lw_at 3 = .ok (.iload_n 1, 1) := by decide +kernel
theorem d_Lw_at_4 : decode b_Lw_at 4 = .ok (.iload_n 2, 1) := by decide +kernel
theorem d_Lw_at_5 : decode b_Lw_at 5 = .ok (.invokevirtual 30, 3) := by decide +kernel
theorem d_Lw_at_8 : decode b_Lw_at 8 = .ok (.i2l, 1) := by decide +kernel
theorem d_Lw_at_9 : decode b_Lw_at 9 = .ok (.lastore, 1) := by decide +kernel
theorem d_Lw_at_10 : decode b_Lw_at 10 = .ok (.goto 11, 3) := by decide +kernel
theorem d_Lw_at_13 : decode b_Lw_at 13 = .ok (.astore 4, 2) := by decide +kernel
theorem d_Lw_at_15 : decode b_Lw_at 15 = .ok (.iconst 1, 1) := by decide +kernel
theorem d_Lw_at_16 : decode b_Lw_at 16 = .ok (.ireturn, 1) := by decide +kernel
theorem d_Lw_at_17 : decode b_Lw_at 17 = .ok (.astore 4, 2) := by decide +kernel
theorem d_Lw_at_19 : decode b_Lw_at 19 = .ok (.iconst 2, 1) := by decide +kernel
theorem d_Lw_at_20 : decode b_Lw_at 20 = .ok (.ireturn, 1) := by decide +kernel
theorem d_Lw_at_21 : decode b_Lw_at 21 = .ok (.iconst 0, 1) := by decide +kernel
theorem d_Lw_at_22 : decode b_Lw_at 22 = .ok (.ireturn, 1) := by decide +kernel
theorem d_Lw_box_0 : decode b_Lw_box 0 = .ok (.aload_n 3, 1) := by decide +kernel
theorem d_Lw_box_1 : decode b_Lw_box 1 = .ok (.iconst 0, 1) := by decide +kernel
theorem d_Lw_box_2 : decode b_Lw_box 2 = .ok (.aload_n 0, 1) := by decide +kernel
theorem d_Lw_box_3 : decode b_Lw_box 3 = .ok (.iload_n 1, 1) := by decide +kernel
theorem d_Lw_box_4 : decode b_Lw_box 4 = .ok (.iload_n 2, 1) := by decide +kernel
theorem d_Lw_box_5 : decode b_Lw_box 5 = .ok (.invokevirtual 34, 3) := by decide +kernel
theorem d_Lw_box_8 : decode b_Lw_box 8 = .ok (.i2l, 1) := by decide +kernel
theorem d_Lw_box_9 : decode b_Lw_box 9 = .ok (.lastore, 1) := by decide +kernel
theorem d_Lw_box_10 : decode b_Lw_box 10 = .ok (.goto 11, 3) := by decide +kernel
theorem d_Lw_box_13 : decode b_Lw_box 13 = .ok (.astore 4, 2) := by decide +kernel
theorem d_Lw_box_15 : decode b_Lw_box 15 = .ok (.iconst 1, 1) := by decide +kernel
theorem d_Lw_box_16 : decode b_Lw_box 16 = .ok (.ireturn, 1) := by decide +kernel
theorem d_Lw_box_17 : decode b_Lw_box 17 = .ok (.astore 4, 2) := by decide +kernel
theorem d_Lw_box_19 : decode b_Lw_box 19 = .ok (.iconst 2, 1) := by decide +kernel
theorem d_Lw_box_20 : decode b_Lw_box 20 = .ok (.ireturn, 1) := by decide +kernel
theorem d_Lw_box_21 : decode b_Lw_box 21 = .ok (.iconst 0, 1) := by decide +kernel
theorem d_Lw_box_22 : decode b_Lw_box 22 = .ok (.ireturn, 1) := by decide +kernel
theorem d_Lw_cost_0 : decode b_Lw_cost 0 = .ok (.aload_n 1, 1) := by decide +kernel
theorem d_Lw_cost_1 : decode b_Lw_cost 1 = .ok (.iconst 0, 1) := by decide +kernel
theorem d_Lw_cost_2 : decode b_Lw_cost 2 = .ok (.aload_n 0, 1) := by decide +kernel
theorem d_Lw_cost_3 : decode b_Lw_cost 3 = .ok (.invokevirtual 37, 3) := by decide +kernel
theorem d_Lw_cost_6 : decode b_Lw_cost 6 = .ok (.i2l, 1) := by decide +kernel
theorem d_Lw_cost_7 : decode b_Lw_cost 7 = .ok (.lastore, 1) := by decide +kernel
theorem d_Lw_cost_8 : decode b_Lw_cost 8 = .ok (.goto 6, 3) := by decide +kernel
theorem d_Lw_cost_11 : decode b_Lw_cost 11 = .ok (.astore_n 2, 1) := by decide +kernel
theorem d_Lw_cost_12 : decode b_Lw_cost 12 = .ok (.iconst 1, 1) := by decide +kernel
theorem d_Lw_cost_13 : decode b_Lw_cost 13 = .ok (.ireturn, 1) := by decide +kernel
theorem d_Lw_cost_14 : decode b_Lw_cost 14 = .ok (.iconst 0, 1) := by decide +kernel
theorem d_Lw_cost_15 : decode b_Lw_cost 15 = .ok (.ireturn, 1) := by decide +kernel
theorem d_Lw_manual_0 : decode b_Lw_manual 0 = .ok (.aload_n 2, 1) := by decide +kernel
theorem d_Lw_manual_1 : decode b_Lw_manual 1 = .ok (.iconst 0, 1) := by decide +kernel
theorem d_Lw_manual_2 : decode b_Lw_manual 2 = .ok (.aload_n 0, 1) := by decide +kernel
theorem d_Lw_manual_3 : decode b_Lw_manual 3 = .ok (.iload_n 1, 1) := by decide +kernel
theorem d_Lw_manual_4 : decode b_Lw_manual 4 = .ok (.invokevirtual 41, 3) := by decide +kernel
theorem d_Lw_manual_7 : decode b_Lw_manual 7 = .ok (.i2l, 1) := by decide +kernel
theorem d_Lw_manual_8 : decode b_Lw_manual 8 = .ok (.lastore, 1) := by decide +kernel
theorem d_Lw_manual_9 : decode b_Lw_manual 9 = .ok (.goto 6, 3) := by decide +kernel
theorem d_Lw_manual_12 : decode b_Lw_manual 12 = .ok (.astore_n 3, 1) := by decide +kernel
theorem d_Lw_manual_13 : decode b_Lw_manual 13 = .ok (.iconst 1, 1) := by decide +kernel
theorem d_Lw_manual_14 : decode b_Lw_manual 14 = .ok (.ireturn, 1) := by decide +kernel
theorem d_Lw_manual_15 : decode b_Lw_manual 15 = .ok (.iconst 0, 1) := by decide +kernel
theorem d_Lw_manual_16 : decode b_Lw_manual 16 = .ok (.ireturn, 1) := by decide +kernel
theorem d_Lw_bag_0 : decode b_Lw_bag 0 = .ok (.aload_n 1, 1) := by decide +kernel
theorem d_Lw_bag_1 : decode b_Lw_bag 1 = .ok (.iconst 0, 1) := by decide +kernel
theorem d_Lw_bag_2 : decode b_Lw_bag 2 = .ok (.aload_n 0, 1) := by decide +kernel
theorem d_Lw_bag_3 : decode b_Lw_bag 3 = .ok (.invokevirtual 45, 3) := by decide +kernel
theorem d_Lw_bag_6 : decode b_Lw_bag 6 = .ok (.i2l, 1) := by decide +kernel
theorem d_Lw_bag_7 : decode b_Lw_bag 7 = .ok (.lastore, 1) := by decide +kernel
theorem d_Lw_bag_8 : decode b_Lw_bag 8 = .ok (.goto 6, 3) := by decide +kernel
theorem d_Lw_bag_11 : decode b_Lw_bag 11 = .ok (.astore_n 2, 1) := by decide +kernel
theorem d_Lw_bag_12 : decode b_Lw_bag 12 = .ok (.iconst 1, 1) := by decide +kernel
theorem d_Lw_bag_13 : decode b_Lw_bag 13 = .ok (.ireturn, 1) := by decide +kernel
theorem d_Lw_bag_14 : decode b_Lw_bag 14 = .ok (.iconst 0, 1) := by decide +kernel
theorem d_Lw_bag_15 : decode b_Lw_bag 15 = .ok (.ireturn, 1) := by decide +kernel
theorem d_Lw_into_0 : decode b_Lw_into 0 = .ok (.aload 5, 2) := by decide +kernel
theorem d_Lw_into_2 : decode b_Lw_into 2 = .ok (.iconst 0, 1) := by decide +kernel
theorem d_Lw_into_3 : decode b_Lw_into 3 = .ok (.aload_n 0, 1) := by decide +kernel
theorem d_Lw_into_4 : decode b_Lw_into 4 = .ok (.iload_n 1, 1) := by decide +kernel
theorem d_Lw_into_5 : decode b_Lw_into 5 = .ok (.iload_n 2, 1) := by decide +kernel
theorem d_Lw_into_6 : decode b_Lw_into 6 = .ok (.iload_n 3, 1) := by decide +kernel
theorem d_Lw_into_7 : decode b_Lw_into 7 = .ok (.iload 4, 2) := by decide +kernel
theorem d_Lw_into_9 : decode b_Lw_into 9 = .ok (.invokevirtual 48, 3) := by decide +kernel
theorem d_Lw_into_12 : decode b_Lw_into 12 = .ok (.i2l, 1) := by decide +kernel
theorem d_Lw_into_13 : decode b_Lw_into 13 = .ok (.lastore, 1) := by decide +kernel
theorem d_Lw_into_14 : decode b_Lw_into 14 = .ok (.goto 15, 3) := by decide +kernel
theorem d_Lw_into_17 : decode b_Lw_into 17 = .ok (.astore 6, 2) := by decide +kernel
theorem d_Lw_into_19 : decode b_Lw_into 19 = .ok (.iconst 1, 1) := by decide +kernel
theorem d_Lw_into_20 : decode b_Lw_into 20 = .ok (.ireturn, 1) := by decide +kernel
theorem d_Lw_into_21 : decode b_Lw_into 21 = .ok (.astore 6, 2) := by decide +kernel
theorem d_Lw_into_23 : decode b_Lw_into 23 = .ok (.iconst 2, 1) := by decide +kernel
theorem d_Lw_into_24 : decode b_Lw_into 24 = .ok (.ireturn, 1) := by decide +kernel
theorem d_Lw_into_25 : decode b_Lw_into 25 = .ok (.astore 6, 2) := by decide +kernel
theorem d_Lw_into_27 : decode b_Lw_into 27 = .ok (.iconst 3, 1) := by decide +kernel
theorem d_Lw_into_28 : decode b_Lw_into 28 = .ok (.ireturn, 1) := by decide +kernel
theorem d_Lw_into_29 : decode b_Lw_into 29 = .ok (.iconst 0, 1) := by decide +kernel
theorem d_Lw_into_30 : decode b_Lw_into 30 = .ok (.ireturn, 1) := by decide +kernel
theorem d_Lw_counted_0 : decode b_Lw_counted 0 = .ok (.aload_n 3, 1) := by decide +kernel
theorem d_Lw_counted_1 : decode b_Lw_counted 1 = .ok (.iconst 0, 1) := by decide +kernel
theorem d_Lw_counted_2 : decode b_Lw_counted 2 = .ok (.aload_n 0, 1) := by decide +kernel
theorem d_Lw_counted_3 : decode b_Lw_counted 3 = .ok (.iload_n 1, 1) := by decide +kernel
theorem d_Lw_counted_4 : decode b_Lw_counted 4 = .ok (.iload_n 2, 1) := by decide +kernel
theorem d_Lw_counted_5 : decode b_Lw_counted 5 = .ok (.invokevirtual 52, 3) := by decide +kernel
theorem d_Lw_counted_8 : decode b_Lw_counted 8 = .ok (.i2l, 1) := by decide +kernel
theorem d_Lw_counted_9 : decode b_Lw_counted 9 = .ok (.lastore, 1) := by decide +kernel
theorem d_Lw_counted_10 : decode b_Lw_counted 10 = .ok (.goto 11, 3) := by decide +kernel
theorem d_Lw_counted_13 : decode b_Lw_counted 13 = .ok (.astore 4, 2) := by decide +kernel
theorem d_Lw_counted_15 : decode b_Lw_counted 15 = .ok (.iconst 1, 1) := by decide +kernel
theorem d_Lw_counted_16 : decode b_Lw_counted 16 = .ok (.ireturn, 1) := by decide +kernel
theorem d_Lw_counted_17 : decode b_Lw_counted 17 = .ok (.astore 4, 2) := by decide +kernel
theorem d_Lw_counted_19 : decode b_Lw_counted 19 = .ok (.iconst 2, 1) := by decide +kernel
theorem d_Lw_counted_20 : decode b_Lw_counted 20 = .ok (.ireturn, 1) := by decide +kernel
theorem d_Lw_counted_21 : decode b_Lw_counted 21 = .ok (.iconst 0, 1) := by decide +kernel
theorem d_Lw_counted_22 : decode b_Lw_counted 22 = .ok (.ireturn, 1) := by decide +kernel
theorem d_Lw_raised_0 : decode b_Lw_raised 0 = .ok (.aload_n 3, 1) := by decide +kernel
theorem d_Lw_raised_1 : decode b_Lw_raised 1 = .ok (.iconst 0, 1) := by decide +kernel
theorem d_Lw_raised_2 : decode b_Lw_raised 2 = .ok (.aload_n 0, 1) := by decide +kernel
theorem d_Lw_raised_3 : decode b_Lw_raised 3 = .ok (.iload_n 1, 1) := by decide +kernel
theorem d_Lw_raised_4 : decode b_Lw_raised 4 = .ok (.iload_n 2, 1) := by decide +kernel
theorem d_Lw_raised_5 : decode b_Lw_raised 5 = .ok (.invokevirtual 55, 3) := by decide +kernel
theorem d_Lw_raised_8 : decode b_Lw_raised 8 = .ok (.ifCond .eq 7, 3) := by decide +kernel
theorem d_Lw_raised_11 : decode b_Lw_raised 11 = .ok (.lconst 1, 1) := by decide +kernel
theorem d_Lw_raised_12 : decode b_Lw_raised 12 = .ok (.goto 4, 3) := by decide +kernel
theorem d_Lw_raised_15 : decode b_Lw_raised 15 = .ok (.lconst 0, 1) := by decide +kernel
theorem d_Lw_raised_16 : decode b_Lw_raised 16 = .ok (.lastore, 1) := by decide +kernel
theorem d_Lw_raised_17 : decode b_Lw_raised 17 = .ok (.goto 15, 3) := by decide +kernel
theorem d_Lw_raised_20 : decode b_Lw_raised 20 = .ok (.astore 4, 2) := by decide +kernel
theorem d_Lw_raised_22 : decode b_Lw_raised 22 = .ok (.iconst 1, 1) := by decide +kernel
theorem d_Lw_raised_23 : decode b_Lw_raised 23 = .ok (.ireturn, 1) := by decide +kernel
theorem d_Lw_raised_24 : decode b_Lw_raised 24 = .ok (.astore 4, 2) := by decide +kernel
theorem d_Lw_raised_26 : decode b_Lw_raised 26 = .ok (.iconst 2, 1) := by decide +kernel
theorem d_Lw_raised_27 : decode b_Lw_raised 27 = .ok (.ireturn, 1) := by decide +kernel
theorem d_Lw_raised_28 : decode b_Lw_raised 28 = .ok (.astore 4, 2) := by decide +kernel
theorem d_Lw_raised_30 : decode b_Lw_raised 30 = .ok (.iconst 3, 1) := by decide +kernel
theorem d_Lw_raised_31 : decode b_Lw_raised 31 = .ok (.ireturn, 1) := by decide +kernel
theorem d_Lw_raised_32 : decode b_Lw_raised 32 = .ok (.iconst 0, 1) := by decide +kernel
theorem d_Lw_raised_33 : decode b_Lw_raised 33 = .ok (.ireturn, 1) := by decide +kernel
theorem d_Lw_pallets_0 : decode b_Lw_pallets 0 = .ok (.aload_n 2, 1) := by decide +kernel
theorem d_Lw_pallets_1 : decode b_Lw_pallets 1 = .ok (.iconst 0, 1) := by decide +kernel
theorem d_Lw_pallets_2 : decode b_Lw_pallets 2 = .ok (.aload_n 0, 1) := by decide +kernel
theorem d_Lw_pallets_3 : decode b_Lw_pallets 3 = .ok (.iload_n 1, 1) := by decide +kernel
theorem d_Lw_pallets_4 : decode b_Lw_pallets 4 = .ok (.invokevirtual 58, 3) := by decide +kernel
theorem d_Lw_pallets_7 : decode b_Lw_pallets 7 = .ok (.i2l, 1) := by decide +kernel
theorem d_Lw_pallets_8 : decode b_Lw_pallets 8 = .ok (.lastore, 1) := by decide +kernel
theorem d_Lw_pallets_9 : decode b_Lw_pallets 9 = .ok (.goto 9, 3) := by decide +kernel
theorem d_Lw_pallets_12 : decode b_Lw_pallets 12 = .ok (.astore_n 3, 1) := by decide +kernel
theorem d_Lw_pallets_13 : decode b_Lw_pallets 13 = .ok (.iconst 1, 1) := by decide +kernel
theorem d_Lw_pallets_14 : decode b_Lw_pallets 14 = .ok (.ireturn, 1) := by decide +kernel
theorem d_Lw_pallets_15 : decode b_Lw_pallets 15 = .ok (.astore_n 3, 1) := by decide +kernel
theorem d_Lw_pallets_16 : decode b_Lw_pallets 16 = .ok (.iconst 2, 1) := by decide +kernel
theorem d_Lw_pallets_17 : decode b_Lw_pallets 17 = .ok (.ireturn, 1) := by decide +kernel
theorem d_Lw_pallets_18 : decode b_Lw_pallets 18 = .ok (.iconst 0, 1) := by decide +kernel
theorem d_Lw_pallets_19 : decode b_Lw_pallets 19 = .ok (.ireturn, 1) := by decide +kernel
