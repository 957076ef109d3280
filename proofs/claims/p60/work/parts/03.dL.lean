theorem dL_cell_0 : decode cL_cell 0 = .ok (.iload_n 1, 1) := by decide +kernel
theorem dL_cell_1 : decode cL_cell 1 = .ok (.aload_n 0, 1) := by decide +kernel
theorem dL_cell_2 : decode cL_cell 2 = .ok (.arraylength, 1) := by decide +kernel
theorem dL_cell_3 : decode cL_cell 3 = .ok (.if_icmp .ge 9, 3) := by decide +kernel
theorem dL_cell_6 : decode cL_cell 6 = .ok (.aload_n 0, 1) := by decide +kernel
theorem dL_cell_7 : decode cL_cell 7 = .ok (.iload_n 1, 1) := by decide +kernel
theorem dL_cell_8 : decode cL_cell 8 = .ok (.iaload, 1) := by decide +kernel
theorem dL_cell_9 : decode cL_cell 9 = .ok (.goto 11, 3) := by decide +kernel
theorem dL_cell_12 : decode cL_cell 12 = .ok (.sipush 7919, 3) := by decide +kernel
theorem dL_cell_15 : decode cL_cell 15 = .ok (.iload_n 1, 1) := by decide +kernel
theorem dL_cell_16 : decode cL_cell 16 = .ok (.imul, 1) := by decide +kernel
theorem dL_cell_17 : decode cL_cell 17 = .ok (.bipush 12, 2) := by decide +kernel
theorem dL_cell_19 : decode cL_cell 19 = .ok (.iadd, 1) := by decide +kernel
theorem dL_cell_20 : decode cL_cell 20 = .ok (.ireturn, 1) := by decide +kernel
theorem dL_chosen_0 : decode cL_chosen 0 = .ok (.iload_n 0, 1) := by decide +kernel
theorem dL_chosen_1 : decode cL_chosen 1 = .ok (.ldc 7, 2) := by decide +kernel
theorem dL_chosen_3 : decode cL_chosen 3 = .ok (.iand, 1) := by decide +kernel
theorem dL_chosen_4 : decode cL_chosen 4 = .ok (.iload_n 1, 1) := by decide +kernel
theorem dL_chosen_5 : decode cL_chosen 5 = .ok (.irem, 1) := by decide +kernel
theorem dL_chosen_6 : decode cL_chosen 6 = .ok (.ireturn, 1) := by decide +kernel
theorem dL_open_0 : decode cL_open 0 = .ok (.aload_n 0, 1) := by decide +kernel
theorem dL_open_1 : decode cL_open 1 = .ok (.iload_n 1, 1) := by decide +kernel
theorem dL_open_2 : decode cL_open 2 = .ok (.iload_n 2, 1) := by decide +kernel
theorem dL_open_3 : decode cL_open 3 = .ok (.iload_n 3, 1) := by decide +kernel
theorem dL_open_4 : decode cL_open 4 = .ok (.invokevirtual 8, 3) := by decide +kernel
theorem dL_open_7 : decode cL_open 7 = .ok (.i2l, 1) := by decide +kernel
theorem dL_open_8 : decode cL_open 8 = .ok (.lreturn, 1) := by decide +kernel
theorem dL_open_9 : decode cL_open 9 = .ok (.astore 4, 2) := by decide +kernel
theorem dL_open_11 : decode cL_open 11 = .ok (.ldc2_w 18, 3) := by decide +kernel
theorem dL_open_14 : decode cL_open 14 = .ok (.lreturn, 1) := by decide +kernel
theorem dL_open_15 : decode cL_open 15 = .ok (.astore 4, 2) := by decide +kernel
theorem dL_open_17 : decode cL_open 17 = .ok (.ldc2_w 22, 3) := by decide +kernel
theorem dL_open_20 : decode cL_open 20 = .ok (.lreturn, 1) := by decide +kernel
theorem dL_put_0 : decode cL_put 0 = .ok (.aload_n 0, 1) := by decide +kernel
theorem dL_put_1 : decode cL_put 1 = .ok (.iload_n 1, 1) := by decide +kernel
theorem dL_put_2 : decode cL_put 2 = .ok (.iload_n 2, 1) := by decide +kernel
theorem dL_put_3 : decode cL_put 3 = .ok (.iload_n 3, 1) := by decide +kernel
theorem dL_put_4 : decode cL_put 4 = .ok (.iload 4, 2) := by decide +kernel
theorem dL_put_6 : decode cL_put 6 = .ok (.iload 5, 2) := by decide +kernel
theorem dL_put_8 : decode cL_put 8 = .ok (.iload 6, 2) := by decide +kernel
theorem dL_put_10 : decode cL_put 10 = .ok (.invokevirtual 24, 3) := by decide +kernel
theorem dL_put_13 : decode cL_put 13 = .ok (.i2l, 1) := by decide +kernel
theorem dL_put_14 : decode cL_put 14 = .ok (.lreturn, 1) := by decide +kernel
theorem dL_put_15 : decode cL_put 15 = .ok (.astore 7, 2) := by decide +kernel
theorem dL_put_17 : decode cL_put 17 = .ok (.ldc2_w 18, 3) := by decide +kernel
theorem dL_put_20 : decode cL_put 20 = .ok (.lreturn, 1) := by decide +kernel
theorem dL_put_21 : decode cL_put 21 = .ok (.astore 7, 2) := by decide +kernel
theorem dL_put_23 : decode cL_put 23 = .ok (.ldc2_w 22, 3) := by decide +kernel
theorem dL_put_26 : decode cL_put 26 = .ok (.lreturn, 1) := by decide +kernel
theorem dL_put_27 : decode cL_put 27 = .ok (.astore 7, 2) := by decide +kernel
theorem dL_put_29 : decode cL_put 29 = .ok (.ldc2_w 32, 3) := by decide +kernel
theorem dL_put_32 : decode cL_put 32 = .ok (.lreturn, 1) := by decide +kernel
theorem dL_put_33 : decode cL_put 33 = .ok (.astore 7, 2) := by decide +kernel
theorem dL_put_35 : decode cL_put 35 = .ok (.ldc2_w 34, 3) := by decide +kernel
theorem dL_put_38 : decode cL_put 38 = .ok (.lreturn, 1) := by decide +kernel
theorem dL_change_0 : decode cL_change 0 = .ok (.aload_n 0, 1) := by decide +kernel
theorem dL_change_1 : decode cL_change 1 = .ok (.iload_n 1, 1) := by decide +kernel
theorem dL_change_2 : decode cL_change 2 = .ok (.iload_n 2, 1) := by decide +kernel
theorem dL_change_3 : decode cL_change 3 = .ok (.iload_n 3, 1) := by decide +kernel
theorem dL_change_4 : decode cL_change 4 = .ok (.iload 4, 2) := by decide +kernel
theorem dL_change_6 : decode cL_change 6 = .ok (.iload 5, 2) := by decide +kernel
theorem dL_change_8 : decode cL_change 8 = .ok (.iload 6, 2) := by decide +kernel
theorem dL_change_10 : decode cL_change 10 = .ok (.iload 7, 2) := by decide +kernel
theorem dL_change_12 : decode cL_change 12 = .ok (.invokevirtual 36, 3) := by decide +kernel
theorem dL_change_15 : decode cL_change 15 = .ok (.i2l, 1) := by decide +kernel
theorem dL_change_16 : decode cL_change 16 = .ok (.lreturn, 1) := by decide +kernel
theorem dL_change_17 : decode cL_change 17 = .ok (.astore 8, 2) := by decide +kernel
theorem dL_change_19 : decode cL_change 19 = .ok (.ldc2_w 18, 3) := by decide +kernel
theorem dL_change_22 : decode cL_change 22 = .ok (.lreturn, 1) := by decide +kernel
theorem dL_change_23 : decode cL_change 23 = .ok (.astore 8, 2) := by decide +kernel
theorem dL_change_25 : decode cL_change 25 = .ok (.ldc2_w 22, 3) := by decide +kernel
theorem dL_change_28 : decode cL_change 28 = .ok (.lreturn, 1) := by decide +kernel
theorem dL_change_29 : decode cL_change 29 = .ok (.astore 8, 2) := by decide +kernel
theorem dL_change_31 : decode cL_change 31 = .ok (.ldc2_w 32, 3) := by decide +kernel
theorem dL_change_34 : decode cL_change 34 = .ok (.lreturn, 1) := by decide +kernel
theorem dL_change_35 : decode cL_change 35 = .ok (.astore 8, 2) := by decide +kernel
theorem dL_change_37 : decode cL_change 37 = .ok (.ldc2_w 34, 3) := by decide +kernel
theorem dL_change_40 : decode cL_change 40 = .ok (.lreturn, 1) := by decide +kernel
theorem dL_drop_0 : decode cL_drop 0 = .ok (.aload_n 0, 1) := by decide +kernel
theorem dL_drop_1 : decode cL_drop 1 = .ok (.iload_n 1, 1) := by decide +kernel
theorem dL_drop_2 : decode cL_drop 2 = .ok (.iload_n 2, 1) := by decide +kernel
theorem dL_drop_3 : decode cL_drop 3 = .ok (.invokevirtual 42, 3) := by decide +kernel
theorem dL_drop_6 : decode cL_drop 6 = .ok (.i2l, 1) := by decide +kernel
theorem dL_drop_7 : decode cL_drop 7 = .ok (.lreturn, 1) := by decide +kernel
theorem dL_drop_8 : decode cL_drop 8 = .ok (.astore_n 3, 1) := by decide +kernel
theorem dL_drop_9 : decode cL_drop 9 = .ok (.ldc2_w 18, 3) := by decide +kernel
theorem dL_drop_12 : decode cL_drop 12 = .ok (.lreturn, 1) := by decide +kernel
theorem dL_drop_13 : decode cL_drop 13 = .ok (.astore_n 3, 1) := by decide +kernel
theorem dL_drop_14 : decode cL_drop 14 = .ok (.ldc2_w 22, 3) := by decide +kernel
theorem dL_drop_17 : decode cL_drop 17 = .ok (.lreturn, 1) := by decide +kernel
theorem dL_setBound_0 : decode cL_setBound 0 = .ok (.aload_n 0, 1) := by decide +kernel
theorem dL_setBound_1 : decode cL_setBound 1 = .ok (.iload_n 1, 1) := by decide +kernel
theorem dL_setBound_2 : decode cL_setBound 2 = .ok (.iload_n 2, 1) := by decide +kernel
theorem dL_setBound_3 : decode cL_setBound 3 = .ok (.invokevirtual 46, 3) := by decide +kernel
theorem dL_setBound_6 : decode cL_setBound 6 = .ok (.i2l, 1) := by decide +kernel
theorem dL_setBound_7 : decode cL_setBound 7 = .ok (.lreturn, 1) := by decide +kernel
theorem dL_setBound_8 : decode cL_setBound 8 = .ok (.astore_n 3, 1) := by decide +kernel
theorem dL_setBound_9 : decode cL_setBound 9 = .ok (.ldc2_w 18, 3) := by decide +kernel
theorem dL_setBound_12 : decode cL_setBound 12 = .ok (.lreturn, 1) := by decide +kernel
theorem dL_setBound_13 : decode cL_setBound 13 = .ok (.astore_n 3, 1) := by decide +kernel
theorem dL_setBound_14 : decode cL_setBound 14 = .ok (.ldc2_w 22, 3) := by decide +kernel
theorem dL_setBound_17 : decode cL_setBound 17 = .ok (.lreturn, 1) := by decide +kernel
theorem dL_lean_0 : decode cL_lean 0 = .ok (.aload_n 0, 1) := by decide +kernel
theorem dL_lean_1 : decode cL_lean 1 = .ok (.iload_n 1, 1) := by decide +kernel
theorem dL_lean_2 : decode cL_lean 2 = .ok (.iload_n 2, 1) := by decide +kernel
theorem dL_lean_3 : decode cL_lean 3 = .ok (.iload_n 3, 1) := by decide +kernel
theorem dL_lean_4 : decode cL_lean 4 = .ok (.invokevirtual 49, 3) := by decide +kernel
theorem dL_lean_7 : decode cL_lean 7 = .ok (.i2l, 1) := by decide +kernel
theorem dL_lean_8 : decode cL_lean 8 = .ok (.lreturn, 1) := by decide +kernel
theorem dL_lean_9 : decode cL_lean 9 = .ok (.astore 4, 2) := by decide +kernel
theorem dL_lean_11 : decode cL_lean 11 = .ok (.ldc2_w 18, 3) := by decide +kernel
theorem dL_lean_14 : decode cL_lean 14 = .ok (.lreturn, 1) := by decide +kernel
theorem dL_lean_15 : decode cL_lean 15 = .ok (.astore 4, 2) := by decide +kernel
theorem dL_lean_17 : decode cL_lean 17 = .ok (.ldc2_w 22, 3) := by decide +kernel
theorem dL_lean_20 : decode cL_lean 20 = .ok (.lreturn, 1) := by decide +kernel
theorem dL_lean_21 : decode cL_lean 21 = .ok (.astore 4, 2) := by decide +kernel
theorem dL_lean_23 : decode cL_lean 23 = .ok (.ldc2_w 32, 3) := by decide +kernel
theorem dL_lean_26 : decode cL_lean 26 = .ok (.lreturn, 1) := by decide +kernel
theorem dL_stand_0 : decode cL_stand 0 = .ok (.aload_n 0, 1) := by decide +kernel
theorem dL_stand_1 : decode cL_stand 1 = .ok (.iload_n 1, 1) := by decide +kernel
theorem dL_stand_2 : decode cL_stand 2 = .ok (.invokevirtual 53, 3) := by decide +kernel
theorem dL_stand_5 : decode cL_stand 5 = .ok (.i2l, 1) := by decide +kernel
theorem dL_stand_6 : decode cL_stand 6 = .ok (.lreturn, 1) := by decide +kernel
theorem dL_stand_7 : decode cL_stand 7 = .ok (.astore_n 2, 1) := by decide +kernel
theorem dL_stand_8 : decode cL_stand 8 = .ok (.ldc2_w 18, 3) := by decide +kernel
theorem dL_stand_11 : decode cL_stand 11 = .ok (.lreturn, 1) := by decide +kernel
theorem dL_stand_12 : decode cL_stand 12 = .ok (.astore_n 2, 1) := by decide +kernel
theorem dL_stand_13 : decode cL_stand 13 = .ok (.ldc2_w 22, 3) := by decide +kernel
theorem dL_stand_16 : decode cL_stand 16 = .ok (.lreturn, 1) := by decide +kernel
theorem dL_carry_0 : decode cL_carry 0 = .ok (.aload_n 0, 1) := by decide +kernel
theorem dL_carry_1 : decode cL_carry 1 = .ok (.iload_n 1, 1) := by decide +kernel
theorem dL_carry_2 : decode cL_carry 2 = .ok (.iload_n 2, 1) := by decide +kernel
theorem dL_carry_3 : decode cL_carry 3 = .ok (.invokevirtual 57, 3) := by decide +kernel
theorem dL_carry_6 : decode cL_carry 6 = .ok (.i2l, 1) := by decide +kernel
theorem dL_carry_7 : decode cL_carry 7 = .ok (.lreturn, 1) := by decide +kernel
theorem dL_carry_8 : decode cL_carry 8 = .ok (.astore_n 3, 1) := by decide +kernel
theorem dL_carry_9 : decode cL_carry 9 = .ok (.ldc2_w 18, 3) := by decide +kernel
theorem dL_carry_12 : decode cL_carry 12 = .ok (.lreturn, 1) := by decide +kernel
theorem dL_carry_13 : decode cL_carry 13 = .ok (.astore_n 3, 1) := by decide +kernel
theorem dL_carry_14 : decode cL_carry 14 = .ok (.ldc2_w 22, 3) := by decide +kernel
theorem dL_carry_17 : decode cL_carry 17 = .ok (.lreturn, 1) := by decide +kernel
theorem dL_carry_18 : decode cL_carry 18 = .ok (.astore_n 3, 1) := by decide +kernel
theorem dL_carry_19 : decode cL_carry 19 = .ok (.ldc2_w 32, 3) := by decide +kernel
theorem dL_carry_22 : decode cL_carry 22 = .ok (.lreturn, 1) := by decide +kernel
theorem dL_carry_23 : decode cL_carry 23 = .ok (.astore_n 3, 1) := by decide +kernel
theorem dL_carry_24 : decode cL_carry 24 = .ok (.ldc2_w 34, 3) := by decide +kernel
theorem dL_carry_27 : decode cL_carry 27 = .ok (.lreturn, 1) := by decide +kernel
theorem dL_undo_0 : decode cL_undo 0 = .ok (.aload_n 0, 1) := by decide +kernel
theorem dL_undo_1 : decode cL_undo 1 = .ok (.invokevirtual 61, 3) := by decide +kernel
theorem dL_undo_4 : decode cL_undo 4 = .ok (.i2l, 1) := by decide +kernel
theorem dL_undo_5 : decode cL_undo 5 = .ok (.lreturn, 1) := by decide +kernel
theorem dL_undo_6 : decode cL_undo 6 = .ok (.astore_n 1, 1) := by decide +kernel
theorem dL_undo_7 : decode cL_undo 7 = .ok (.ldc2_w 18, 3) := by decide +kernel
theorem dL_undo_10 : decode cL_undo 10 = .ok (.lreturn, 1) := by decide +kernel
theorem dL_entries_0 : decode cL_entries 0 = .ok (.aload_n 0, 1) := by decide +kernel
theorem dL_entries_1 : decode cL_entries 1 = .ok (.invokevirtual 65, 3) := by decide +kernel
theorem dL_entries_4 : decode cL_entries 4 = .ok (.i2l, 1) := by decide +kernel
theorem dL_entries_5 : decode cL_entries 5 = .ok (.lreturn, 1) := by decide +kernel
theorem dL_kindOf_0 : decode cL_kindOf 0 = .ok (.aload_n 0, 1) := by decide +kernel
theorem dL_kindOf_1 : decode cL_kindOf 1 = .ok (.iload_n 1, 1) := by decide +kernel
theorem dL_kindOf_2 : decode cL_kindOf 2 = .ok (.invokevirtual 69, 3) := by decide +kernel
theorem dL_kindOf_5 : decode cL_kindOf 5 = .ok (.i2l, 1) := by decide +kernel
theorem dL_kindOf_6 : decode cL_kindOf 6 = .ok (.lreturn, 1) := by decide +kernel
theorem dL_kindOf_7 : decode cL_kindOf 7 = .ok (.astore_n 2, 1) := by decide +kernel
theorem dL_kindOf_8 : decode cL_kindOf 8 = .ok (.ldc2_w 18, 3) := by decide +kernel
theorem dL_kindOf_11 : decode cL_kindOf 11 = .ok (.lreturn, 1) := by decide +kernel
theorem dL_sizeOf_0 : decode cL_sizeOf 0 = .ok (.aload_n 0, 1) := by decide +kernel
theorem dL_sizeOf_1 : decode cL_sizeOf 1 = .ok (.iload_n 1, 1) := by decide +kernel
theorem dL_sizeOf_2 : decode cL_sizeOf 2 = .ok (.invokevirtual 73, 3) := by decide +kernel
theorem dL_sizeOf_5 : decode cL_sizeOf 5 = .ok (.i2l, 1) := by decide +kernel
theorem dL_sizeOf_6 : decode cL_sizeOf 6 = .ok (.lreturn, 1) := by decide +kernel
theorem dL_sizeOf_7 : decode cL_sizeOf 7 = .ok (.astore_n 2, 1) := by decide +kernel
theorem dL_sizeOf_8 : decode cL_sizeOf 8 = .ok (.ldc2_w 18, 3) := by decide +kernel
theorem dL_sizeOf_11 : decode cL_sizeOf 11 = .ok (.lreturn, 1) := by decide +kernel
theorem dL_boundOf_0 : decode cL_boundOf 0 = .ok (.aload_n 0, 1) := by decide +kernel
theorem dL_boundOf_1 : decode cL_boundOf 1 = .ok (.iload_n 1, 1) := by decide +kernel
theorem dL_boundOf_2 : decode cL_boundOf 2 = .ok (.invokevirtual 76, 3) := by decide +kernel
theorem dL_boundOf_5 : decode cL_boundOf 5 = .ok (.i2l, 1) := by decide +kernel
theorem dL_boundOf_6 : decode cL_boundOf 6 = .ok (.lreturn, 1) := by decide +kernel
theorem dL_boundOf_7 : decode cL_boundOf 7 = .ok (.astore_n 2, 1) := by decide +kernel
theorem dL_boundOf_8 : decode cL_boundOf 8 = .ok (.ldc2_w 18, 3) := by decide +kernel
theorem dL_boundOf_11 : decode cL_boundOf 11 = .ok (.lreturn, 1) := by decide +kernel
theorem dL_items_0 : decode cL_items 0 = .ok (.aload_n 0, 1) := by decide +kernel
theorem dL_items_1 : decode cL_items 1 = .ok (.iload_n 1, 1) := by decide +kernel
theorem dL_items_2 : decode cL_items 2 = .ok (.invokevirtual 79, 3) := by decide +kernel
theorem dL_items_5 : decode cL_items 5 = .ok (.i2l, 1) := by decide +kernel
theorem dL_items_6 : decode cL_items 6 = .ok (.lreturn, 1) := by decide +kernel
theorem dL_items_7 : decode cL_items 7 = .ok (.astore_n 2, 1) := by decide +kernel
theorem dL_items_8 : decode cL_items 8 = .ok (.ldc2_w 18, 3) := by decide +kernel
theorem dL_items_11 : decode cL_items 11 = .ok (.lreturn, 1) := by decide +kernel
theorem dL_item_0 : decode cL_item 0 = .ok (.aload_n 0, 1) := by decide +kernel
theorem dL_item_1 : decode cL_item 1 = .ok (.iload_n 1, 1) := by decide +kernel
theorem dL_item_2 : decode cL_item 2 = .ok (.iload_n 2, 1) := by decide +kernel
theorem dL_item_3 : decode cL_item 3 = .ok (.iload_n 3, 1) := by decide +kernel
theorem dL_item_4 : decode cL_item 4 = .ok (.invokevirtual 82, 3) := by decide +kernel
theorem dL_item_7 : decode cL_item 7 = .ok (.i2l, 1) := by decide +kernel
theorem dL_item_8 : decode cL_item 8 = .ok (.lreturn, 1) := by decide +kernel
theorem dL_item_9 : decode cL_item 9 = .ok (.astore 4, 2) := by decide +kernel
theorem dL_item_11 : decode cL_item 11 = .ok (.ldc2_w 18, 3) := by decide +kernel
theorem dL_item_14 : decode cL_item 14 = .ok (.lreturn, 1) := by decide +kernel
theorem dL_item_15 : decode cL_item 15 = .ok (.astore 4, 2) := by decide +kernel
theorem dL_item_17 : decode cL_item 17 = .ok (.ldc2_w 22, 3) := by decide +kernel
theorem dL_item_20 : decode cL_item 20 = .ok (.lreturn, 1) := by decide +kernel
theorem dL_item_21 : decode cL_item 21 = .ok (.astore 4, 2) := by decide +kernel
theorem dL_item_23 : decode cL_item 23 = .ok (.ldc2_w 32, 3) := by decide +kernel
theorem dL_item_26 : decode cL_item 26 = .ok (.lreturn, 1) := by decide +kernel
theorem dL_cameFrom_0 : decode cL_cameFrom 0 = .ok (.aload_n 0, 1) := by decide +kernel
theorem dL_cameFrom_1 : decode cL_cameFrom 1 = .ok (.iload_n 1, 1) := by decide +kernel
theorem dL_cameFrom_2 : decode cL_cameFrom 2 = .ok (.invokevirtual 85, 3) := by decide +kernel
theorem dL_cameFrom_5 : decode cL_cameFrom 5 = .ok (.i2l, 1) := by decide +kernel
theorem dL_cameFrom_6 : decode cL_cameFrom 6 = .ok (.lreturn, 1) := by decide +kernel
theorem dL_cameFrom_7 : decode cL_cameFrom 7 = .ok (.astore_n 2, 1) := by decide +kernel
theorem dL_cameFrom_8 : decode cL_cameFrom 8 = .ok (.ldc2_w 18, 3) := by decide +kernel
theorem dL_cameFrom_11 : decode cL_cameFrom 11 = .ok (.lreturn, 1) := by decide +kernel
theorem dL_cameFrom_12 : decode cL_cameFrom 12 = .ok (.astore_n 2, 1) := by decide +kernel
theorem dL_cameFrom_13 : decode cL_cameFrom 13 = .ok (.ldc2_w 22, 3) := by decide +kernel
theorem dL_cameFrom_16 : decode cL_cameFrom 16 = .ok (.lreturn, 1) := by decide +kernel
theorem dL_answer_0 : decode cL_answer 0 = .ok (.aload_n 0, 1) := by decide +kernel
theorem dL_answer_1 : decode cL_answer 1 = .ok (.iload_n 1, 1) := by decide +kernel
theorem dL_answer_2 : decode cL_answer 2 = .ok (.invokevirtual 88, 3) := by decide +kernel
theorem dL_answer_5 : decode cL_answer 5 = .ok (.i2l, 1) := by decide +kernel
theorem dL_answer_6 : decode cL_answer 6 = .ok (.lreturn, 1) := by decide +kernel
theorem dL_answer_7 : decode cL_answer 7 = .ok (.astore_n 2, 1) := by decide +kernel
theorem dL_answer_8 : decode cL_answer 8 = .ok (.ldc2_w 18, 3) := by decide +kernel
theorem dL_answer_11 : decode cL_answer 11 = .ok (.lreturn, 1) := by decide +kernel
theorem dL_number_0 : decode cL_number 0 = .ok (.aload_n 0, 1) := by decide +kernel
theorem dL_number_1 : decode cL_number 1 = .ok (.iload_n 1, 1) := by decide +kernel
theorem dL_number_2 : decode cL_number 2 = .ok (.invokevirtual 91, 3) := by decide +kernel
theorem dL_number_5 : decode cL_number 5 = .ok (.i2l, 1) := by decide +kernel
theorem dL_number_6 : decode cL_number 6 = .ok (.lreturn, 1) := by decide +kernel
theorem dL_number_7 : decode cL_number 7 = .ok (.astore_n 2, 1) := by decide +kernel
theorem dL_number_8 : decode cL_number 8 = .ok (.ldc2_w 18, 3) := by decide +kernel
theorem dL_number_11 : decode cL_number 11 = .ok (.lreturn, 1) := by decide +kernel
theorem dL_length_0 : decode cL_length 0 = .ok (.aload_n 0, 1) := by decide +kernel
theorem dL_length_1 : decode cL_length 1 = .ok (.iload_n 1, 1) := by decide +kernel
theorem dL_length_2 : decode cL_length 2 = .ok (.invokevirtual 94, 3) := by decide +kernel
theorem dL_length_5 : decode cL_length 5 = .ok (.i2l, 1) := by decide +kernel
theorem dL_length_6 : decode cL_length 6 = .ok (.lreturn, 1) := by decide +kernel
theorem dL_length_7 : decode cL_length 7 = .ok (.astore_n 2, 1) := by decide +kernel
theorem dL_length_8 : decode cL_length 8 = .ok (.ldc2_w 18, 3) := by decide +kernel
theorem dL_length_11 : decode cL_length 11 = .ok (.lreturn, 1) := by decide +kernel
theorem dL_rowSum_0 : decode cL_rowSum 0 = .ok (.aload_n 0, 1) := by decide +kernel
theorem dL_rowSum_1 : decode cL_rowSum 1 = .ok (.iload_n 1, 1) := by decide +kernel
theorem dL_rowSum_2 : decode cL_rowSum 2 = .ok (.invokevirtual 97, 3) := by decide +kernel
theorem dL_rowSum_5 : decode cL_rowSum 5 = .ok (.lreturn, 1) := by decide +kernel
theorem dL_rowSum_6 : decode cL_rowSum 6 = .ok (.astore_n 2, 1) := by decide +kernel
theorem dL_rowSum_7 : decode cL_rowSum 7 = .ok (.ldc2_w 18, 3) := by decide +kernel
theorem dL_rowSum_10 : decode cL_rowSum 10 = .ok (.lreturn, 1) := by decide +kernel
theorem dL_person_0 : decode cL_person 0 = .ok (.aload_n 0, 1) := by decide +kernel
theorem dL_person_1 : decode cL_person 1 = .ok (.invokevirtual 108, 3) := by decide +kernel
theorem dL_person_4 : decode cL_person 4 = .ok (.i2l, 1) := by decide +kernel
theorem dL_person_5 : decode cL_person 5 = .ok (.lreturn, 1) := by decide +kernel
theorem dL_person_6 : decode cL_person 6 = .ok (.astore_n 1, 1) := by decide +kernel
theorem dL_person_7 : decode cL_person 7 = .ok (.ldc2_w 18, 3) := by decide +kernel
theorem dL_person_10 : decode cL_person 10 = .ok (.lreturn, 1) := by decide +kernel
theorem dL_type_0 : decode cL_type 0 = .ok (.aload_n 0, 1) := by decide +kernel
theorem dL_type_1 : decode cL_type 1 = .ok (.iload_n 1, 1) := by decide +kernel
theorem dL_type_2 : decode cL_type 2 = .ok (.invokevirtual 111, 3) := by decide +kernel
theorem dL_type_5 : decode cL_type 5 = .ok (.i2l, 1) := by decide +kernel
theorem dL_type_6 : decode cL_type 6 = .ok (.lreturn, 1) := by decide +kernel
theorem dL_type_7 : decode cL_type 7 = .ok (.astore_n 2, 1) := by decide +kernel
theorem dL_type_8 : decode cL_type 8 = .ok (.ldc2_w 18, 3) := by decide +kernel
theorem dL_type_11 : decode cL_type 11 = .ok (.lreturn, 1) := by decide +kernel
theorem dL_alter_0 : decode cL_alter 0 = .ok (.aload_n 0, 1) := by decide +kernel
theorem dL_alter_1 : decode cL_alter 1 = .ok (.iload_n 1, 1) := by decide +kernel
theorem dL_alter_2 : decode cL_alter 2 = .ok (.iload_n 2, 1) := by decide +kernel
theorem dL_alter_3 : decode cL_alter 3 = .ok (.invokevirtual 114, 3) := by decide +kernel
theorem dL_alter_6 : decode cL_alter 6 = .ok (.i2l, 1) := by decide +kernel
theorem dL_alter_7 : decode cL_alter 7 = .ok (.lreturn, 1) := by decide +kernel
theorem dL_alter_8 : decode cL_alter 8 = .ok (.astore_n 3, 1) := by decide +kernel
theorem dL_alter_9 : decode cL_alter 9 = .ok (.ldc2_w 18, 3) := by decide +kernel
theorem dL_alter_12 : decode cL_alter 12 = .ok (.lreturn, 1) := by decide +kernel
theorem dL_wipe_0 : decode cL_wipe 0 = .ok (.aload_n 0, 1) := by decide +kernel
theorem dL_wipe_1 : decode cL_wipe 1 = .ok (.invokevirtual 117, 3) := by decide +kernel
theorem dL_wipe_4 : decode cL_wipe 4 = .ok (.i2l, 1) := by decide +kernel
theorem dL_wipe_5 : decode cL_wipe 5 = .ok (.lreturn, 1) := by decide +kernel
theorem dL_borrow_0 : decode cL_borrow 0 = .ok (.aload_n 0, 1) := by decide +kernel
theorem dL_borrow_1 : decode cL_borrow 1 = .ok (.iload_n 1, 1) := by decide +kernel
theorem dL_borrow_2 : decode cL_borrow 2 = .ok (.invokevirtual 120, 3) := by decide +kernel
theorem dL_borrow_5 : decode cL_borrow 5 = .ok (.i2l, 1) := by decide +kernel
theorem dL_borrow_6 : decode cL_borrow 6 = .ok (.lreturn, 1) := by decide +kernel
theorem dL_borrow_7 : decode cL_borrow 7 = .ok (.astore_n 2, 1) := by decide +kernel
theorem dL_borrow_8 : decode cL_borrow 8 = .ok (.ldc2_w 18, 3) := by decide +kernel
theorem dL_borrow_11 : decode cL_borrow 11 = .ok (.lreturn, 1) := by decide +kernel
theorem dL_borrow_12 : decode cL_borrow 12 = .ok (.astore_n 2, 1) := by decide +kernel
theorem dL_borrow_13 : decode cL_borrow 13 = .ok (.ldc2_w 22, 3) := by decide +kernel
theorem dL_borrow_16 : decode cL_borrow 16 = .ok (.lreturn, 1) := by decide +kernel
theorem dL_bring_0 : decode cL_bring 0 = .ok (.aload_n 0, 1) := by decide +kernel
theorem dL_bring_1 : decode cL_bring 1 = .ok (.iload_n 1, 1) := by decide +kernel
theorem dL_bring_2 : decode cL_bring 2 = .ok (.invokevirtual 123, 3) := by decide +kernel
theorem dL_bring_5 : decode cL_bring 5 = .ok (.i2l, 1) := by decide +kernel
theorem dL_bring_6 : decode cL_bring 6 = .ok (.lreturn, 1) := by decide +kernel
theorem dL_bring_7 : decode cL_bring 7 = .ok (.astore_n 2, 1) := by decide +kernel
theorem dL_bring_8 : decode cL_bring 8 = .ok (.ldc2_w 18, 3) := by decide +kernel
theorem dL_bring_11 : decode cL_bring 11 = .ok (.lreturn, 1) := by decide +kernel
theorem dL_bring_12 : decode cL_bring 12 = .ok (.astore_n 2, 1) := by decide +kernel
theorem dL_bring_13 : decode cL_bring 13 = .ok (.ldc2_w 22, 3) := by decide +kernel
theorem dL_bring_16 : decode cL_bring 16 = .ok (.lreturn, 1) := by decide +kernel
theorem dL_check_0 : decode cL_check 0 = .ok (.aload_n 0, 1) := by decide +kernel
theorem dL_check_1 : decode cL_check 1 = .ok (.iload_n 1, 1) := by decide +kernel
theorem dL_check_2 : decode cL_check 2 = .ok (.iload_n 2, 1) := by decide +kernel
theorem dL_check_3 : decode cL_check 3 = .ok (.invokevirtual 126, 3) := by decide +kernel
theorem dL_check_6 : decode cL_check 6 = .ok (.i2l, 1) := by decide +kernel
theorem dL_check_7 : decode cL_check 7 = .ok (.lreturn, 1) := by decide +kernel
theorem dL_check_8 : decode cL_check 8 = .ok (.astore_n 3, 1) := by decide +kernel
theorem dL_check_9 : decode cL_check 9 = .ok (.ldc2_w 18, 3) := by decide +kernel
theorem dL_check_12 : decode cL_check 12 = .ok (.lreturn, 1) := by decide +kernel
theorem dL_claim_0 : decode cL_claim 0 = .ok (.aload_n 0, 1) := by decide +kernel
theorem dL_claim_1 : decode cL_claim 1 = .ok (.iload_n 1, 1) := by decide +kernel
theorem dL_claim_2 : decode cL_claim 2 = .ok (.iload_n 2, 1) := by decide +kernel
theorem dL_claim_3 : decode cL_claim 3 = .ok (.iload_n 3, 1) := by decide +kernel
theorem dL_claim_4 : decode cL_claim 4 = .ok (.invokevirtual 130, 3) := by decide +kernel
theorem dL_claim_7 : decode cL_claim 7 = .ok (.i2l, 1) := by decide +kernel
theorem dL_claim_8 : decode cL_claim 8 = .ok (.lreturn, 1) := by decide +kernel
theorem dL_claim_9 : decode cL_claim 9 = .ok (.astore 4, 2) := by decide +kernel
theorem dL_claim_11 : decode cL_claim 11 = .ok (.ldc2_w 18, 3) := by decide +kernel
theorem dL_claim_14 : decode cL_claim 14 = .ok (.lreturn, 1) := by decide +kernel
theorem dL_claim_15 : decode cL_claim 15 = .ok (.astore 4, 2) := by decide +kernel
theorem dL_claim_17 : decode cL_claim 17 = .ok (.ldc2_w 22, 3) := by decide +kernel
theorem dL_claim_20 : decode cL_claim 20 = .ok (.lreturn, 1) := by decide +kernel
theorem dL_settle_0 : decode cL_settle 0 = .ok (.aload_n 0, 1) := by decide +kernel
theorem dL_settle_1 : decode cL_settle 1 = .ok (.invokevirtual 134, 3) := by decide +kernel
theorem dL_settle_4 : decode cL_settle 4 = .ok (.i2l, 1) := by decide +kernel
theorem dL_settle_5 : decode cL_settle 5 = .ok (.lreturn, 1) := by decide +kernel
theorem dL_checksum_0 : decode cL_checksum 0 = .ok (.aload_n 0, 1) := by decide +kernel
theorem dL_checksum_1 : decode cL_checksum 1 = .ok (.invokevirtual 137, 3) := by decide +kernel
theorem dL_checksum_4 : decode cL_checksum 4 = .ok (.lreturn, 1) := by decide +kernel
theorem dL_isSound_0 : decode cL_isSound 0 = .ok (.aload_n 0, 1) := by decide +kernel
theorem dL_isSound_1 : decode cL_isSound 1 = .ok (.invokevirtual 141, 3) := by decide +kernel
theorem dL_isSound_4 : decode cL_isSound 4 = .ok (.ifCond .eq 7, 3) := by decide +kernel
theorem dL_isSound_7 : decode cL_isSound 7 = .ok (.lconst 1, 1) := by decide +kernel
theorem dL_isSound_8 : decode cL_isSound 8 = .ok (.goto 4, 3) := by decide +kernel
theorem dL_isSound_11 : decode cL_isSound 11 = .ok (.lconst 0, 1) := by decide +kernel
theorem dL_isSound_12 : decode cL_isSound 12 = .ok (.lreturn, 1) := by decide +kernel
theorem dL_drawn_0 : decode cL_drawn 0 = .ok (.aload_n 0, 1) := by decide +kernel
theorem dL_drawn_1 : decode cL_drawn 1 = .ok (.iload_n 1, 1) := by decide +kernel
theorem dL_drawn_2 : decode cL_drawn 2 = .ok (.sipush 150, 3) := by decide +kernel
theorem dL_drawn_5 : decode cL_drawn 5 = .ok (.irem, 1) := by decide +kernel
theorem dL_drawn_6 : decode cL_drawn 6 = .ok (.invokestatic 145, 3) := by decide +kernel
theorem dL_drawn_9 : decode cL_drawn 9 = .ok (.ldc 149, 2) := by decide +kernel
theorem dL_drawn_11 : decode cL_drawn 11 = .ok (.iload_n 1, 1) := by decide +kernel
theorem dL_drawn_12 : decode cL_drawn 12 = .ok (.imul, 1) := by decide +kernel
theorem dL_drawn_13 : decode cL_drawn 13 = .ok (.iadd, 1) := by decide +kernel
theorem dL_drawn_14 : decode cL_drawn 14 = .ok (.iload_n 2, 1) := by decide +kernel
theorem dL_drawn_15 : decode cL_drawn 15 = .ok (.invokestatic 150, 3) := by decide +kernel
theorem dL_drawn_18 : decode cL_drawn 18 = .ok (.ireturn, 1) := by decide +kernel
theorem dL_pick_0 : decode cL_pick 0 = .ok (.aload_n 1, 1) := by decide +kernel
theorem dL_pick_1 : decode cL_pick 1 = .ok (.iload_n 0, 1) := by decide +kernel
theorem dL_pick_2 : decode cL_pick 2 = .ok (.iaload, 1) := by decide +kernel
theorem dL_pick_3 : decode cL_pick 3 = .ok (.ireturn, 1) := by decide +kernel
theorem dL_limit_0 : decode cL_limit 0 = .ok (.iload_n 0, 1) := by decide +kernel
theorem dL_limit_1 : decode cL_limit 1 = .ok (.tableswitch 387 97 119 #[361, 387, 387, 236, 387, 133, 312, 387, 387, 387, 387, 185, 107, 262, 387, 159, 387, 288, 210, 387, 387, 387, 336], 107) := by decide +kernel
theorem dL_limit_108 : decode cL_limit 108 = .ok (.iload_n 1, 1) := by decide +kernel
theorem dL_limit_109 : decode cL_limit 109 = .ok (.iconst 4, 1) := by decide +kernel
theorem dL_limit_110 : decode cL_limit 110 = .ok (.newarray .int, 2) := by decide +kernel
theorem dL_limit_112 : decode cL_limit 112 = .ok (.dup, 1) := by decide +kernel
theorem dL_limit_113 : decode cL_limit 113 = .ok (.iconst 0, 1) := by decide +kernel
theorem dL_limit_114 : decode cL_limit 114 = .ok (.iconst 1, 1) := by decide +kernel
theorem dL_limit_115 : decode cL_limit 115 = .ok (.iastore, 1) := by decide +kernel
theorem dL_limit_116 : decode cL_limit 116 = .ok (.dup, 1) := by decide +kernel
theorem dL_limit_117 : decode cL_limit 117 = .ok (.iconst 1, 1) := by decide +kernel
theorem dL_limit_118 : decode cL_limit 118 = .ok (.bipush 9, 2) := by decide +kernel
theorem dL_limit_120 : decode cL_limit 120 = .ok (.iastore, 1) := by decide +kernel
theorem dL_limit_121 : decode cL_limit 121 = .ok (.dup, 1) := by decide +kernel
theorem dL_limit_122 : decode cL_limit 122 = .ok (.iconst 2, 1) := by decide +kernel
theorem dL_limit_123 : decode cL_limit 123 = .ok (.iconst 0, 1) := by decide +kernel
theorem dL_limit_124 : decode cL_limit 124 = .ok (.iastore, 1) := by decide +kernel
theorem dL_limit_125 : decode cL_limit 125 = .ok (.dup, 1) := by decide +kernel
theorem dL_limit_126 : decode cL_limit 126 = .ok (.iconst 3, 1) := by decide +kernel
theorem dL_limit_127 : decode cL_limit 127 = .ok (.bipush 10, 2) := by decide +kernel
theorem dL_limit_129 : decode cL_limit 129 = .ok (.iastore, 1) := by decide +kernel
theorem dL_limit_130 : decode cL_limit 130 = .ok (.invokestatic 153, 3) := by decide +kernel
theorem dL_limit_133 : decode cL_limit 133 = .ok (.ireturn, 1) := by decide +kernel
theorem dL_limit_134 : decode cL_limit 134 = .ok (.iload_n 1, 1) := by decide +kernel
theorem dL_limit_135 : decode cL_limit 135 = .ok (.iconst 4, 1) := by decide +kernel
theorem dL_limit_136 : decode cL_limit 136 = .ok (.newarray .int, 2) := by decide +kernel
theorem dL_limit_138 : decode cL_limit 138 = .ok (.dup, 1) := by decide +kernel
theorem dL_limit_139 : decode cL_limit 139 = .ok (.iconst 0, 1) := by decide +kernel
theorem dL_limit_140 : decode cL_limit 140 = .ok (.iconst 2, 1) := by decide +kernel
theorem dL_limit_141 : decode cL_limit 141 = .ok (.iastore, 1) := by decide +kernel
theorem dL_limit_142 : decode cL_limit 142 = .ok (.dup, 1) := by decide +kernel
theorem dL_limit_143 : decode cL_limit 143 = .ok (.iconst 1, 1) := by decide +kernel
theorem dL_limit_144 : decode cL_limit 144 = .ok (.bipush 6, 2) := by decide +kernel
theorem dL_limit_146 : decode cL_limit 146 = .ok (.iastore, 1) := by decide +kernel
theorem dL_limit_147 : decode cL_limit 147 = .ok (.dup, 1) := by decide +kernel
theorem dL_limit_148 : decode cL_limit 148 = .ok (.iconst 2, 1) := by decide +kernel
theorem dL_limit_149 : decode cL_limit 149 = .ok (.iconst 0, 1) := by decide +kernel
theorem dL_limit_150 : decode cL_limit 150 = .ok (.iastore, 1) := by decide +kernel
theorem dL_limit_151 : decode cL_limit 151 = .ok (.dup, 1) := by decide +kernel
theorem dL_limit_152 : decode cL_limit 152 = .ok (.iconst 3, 1) := by decide +kernel
theorem dL_limit_153 : decode cL_limit 153 = .ok (.bipush 14, 2) := by decide +kernel
theorem dL_limit_155 : decode cL_limit 155 = .ok (.iastore, 1) := by decide +kernel
theorem dL_limit_156 : decode cL_limit 156 = .ok (.invokestatic 153, 3) := by decide +kernel
theorem dL_limit_159 : decode cL_limit 159 = .ok (.ireturn, 1) := by decide +kernel
theorem dL_limit_160 : decode cL_limit 160 = .ok (.iload_n 1, 1) := by decide +kernel
theorem dL_limit_161 : decode cL_limit 161 = .ok (.iconst 4, 1) := by decide +kernel
theorem dL_limit_162 : decode cL_limit 162 = .ok (.newarray .int, 2) := by decide +kernel
theorem dL_limit_164 : decode cL_limit 164 = .ok (.dup, 1) := by decide +kernel
theorem dL_limit_165 : decode cL_limit 165 = .ok (.iconst 0, 1) := by decide +kernel
theorem dL_limit_166 : decode cL_limit 166 = .ok (.iconst 1, 1) := by decide +kernel
theorem dL_limit_167 : decode cL_limit 167 = .ok (.iastore, 1) := by decide +kernel
theorem dL_limit_168 : decode cL_limit 168 = .ok (.dup, 1) := by decide +kernel
theorem dL_limit_169 : decode cL_limit 169 = .ok (.iconst 1, 1) := by decide +kernel
theorem dL_limit_170 : decode cL_limit 170 = .ok (.bipush 7, 2) := by decide +kernel
theorem dL_limit_172 : decode cL_limit 172 = .ok (.iastore, 1) := by decide +kernel
theorem dL_limit_173 : decode cL_limit 173 = .ok (.dup, 1) := by decide +kernel
theorem dL_limit_174 : decode cL_limit 174 = .ok (.iconst 2, 1) := by decide +kernel
theorem dL_limit_175 : decode cL_limit 175 = .ok (.iconst 0, 1) := by decide +kernel
theorem dL_limit_176 : decode cL_limit 176 = .ok (.iastore, 1) := by decide +kernel
theorem dL_limit_177 : decode cL_limit 177 = .ok (.dup, 1) := by decide +kernel
theorem dL_limit_178 : decode cL_limit 178 = .ok (.iconst 3, 1) := by decide +kernel
theorem dL_limit_179 : decode cL_limit 179 = .ok (.bipush 12, 2) := by decide +kernel
theorem dL_limit_181 : decode cL_limit 181 = .ok (.iastore, 1) := by decide +kernel
theorem dL_limit_182 : decode cL_limit 182 = .ok (.invokestatic 153, 3) := by decide +kernel
theorem dL_limit_185 : decode cL_limit 185 = .ok (.ireturn, 1) := by decide +kernel
theorem dL_limit_186 : decode cL_limit 186 = .ok (.iload_n 1, 1) := by decide +kernel
theorem dL_limit_187 : decode cL_limit 187 = .ok (.iconst 4, 1) := by decide +kernel
theorem dL_limit_188 : decode cL_limit 188 = .ok (.newarray .int, 2) := by decide +kernel
theorem dL_limit_190 : decode cL_limit 190 = .ok (.dup, 1) := by decide +kernel
theorem dL_limit_191 : decode cL_limit 191 = .ok (.iconst 0, 1) := by decide +kernel
theorem dL_limit_192 : decode cL_limit 192 = .ok (.iconst 1, 1) := by decide +kernel
theorem dL_limit_193 : decode cL_limit 193 = .ok (.iastore, 1) := by decide +kernel
theorem dL_limit_194 : decode cL_limit 194 = .ok (.dup, 1) := by decide +kernel
theorem dL_limit_195 : decode cL_limit 195 = .ok (.iconst 1, 1) := by decide +kernel
theorem dL_limit_196 : decode cL_limit 196 = .ok (.iconst 4, 1) := by decide +kernel
theorem dL_limit_197 : decode cL_limit 197 = .ok (.iastore, 1) := by decide +kernel
theorem dL_limit_198 : decode cL_limit 198 = .ok (.dup, 1) := by decide +kernel
theorem dL_limit_199 : decode cL_limit 199 = .ok (.iconst 2, 1) := by decide +kernel
theorem dL_limit_200 : decode cL_limit 200 = .ok (.iconst 0, 1) := by decide +kernel
theorem dL_limit_201 : decode cL_limit 201 = .ok (.iastore, 1) := by decide +kernel
theorem dL_limit_202 : decode cL_limit 202 = .ok (.dup, 1) := by decide +kernel
theorem dL_limit_203 : decode cL_limit 203 = .ok (.iconst 3, 1) := by decide +kernel
theorem dL_limit_204 : decode cL_limit 204 = .ok (.bipush 41, 2) := by decide +kernel
theorem dL_limit_206 : decode cL_limit 206 = .ok (.iastore, 1) := by decide +kernel
theorem dL_limit_207 : decode cL_limit 207 = .ok (.invokestatic 153, 3) := by decide +kernel
theorem dL_limit_210 : decode cL_limit 210 = .ok (.ireturn, 1) := by decide +kernel
theorem dL_limit_211 : decode cL_limit 211 = .ok (.iload_n 1, 1) := by decide +kernel
theorem dL_limit_212 : decode cL_limit 212 = .ok (.iconst 4, 1) := by decide +kernel
theorem dL_limit_213 : decode cL_limit 213 = .ok (.newarray .int, 2) := by decide +kernel
theorem dL_limit_215 : decode cL_limit 215 = .ok (.dup, 1) := by decide +kernel
theorem dL_limit_216 : decode cL_limit 216 = .ok (.iconst 0, 1) := by decide +kernel
theorem dL_limit_217 : decode cL_limit 217 = .ok (.iconst 1, 1) := by decide +kernel
theorem dL_limit_218 : decode cL_limit 218 = .ok (.iastore, 1) := by decide +kernel
theorem dL_limit_219 : decode cL_limit 219 = .ok (.dup, 1) := by decide +kernel
theorem dL_limit_220 : decode cL_limit 220 = .ok (.iconst 1, 1) := by decide +kernel
theorem dL_limit_221 : decode cL_limit 221 = .ok (.bipush 6, 2) := by decide +kernel
theorem dL_limit_223 : decode cL_limit 223 = .ok (.iastore, 1) := by decide +kernel
theorem dL_limit_224 : decode cL_limit 224 = .ok (.dup, 1) := by decide +kernel
theorem dL_limit_225 : decode cL_limit 225 = .ok (.iconst 2, 1) := by decide +kernel
theorem dL_limit_226 : decode cL_limit 226 = .ok (.iconst 0, 1) := by decide +kernel
theorem dL_limit_227 : decode cL_limit 227 = .ok (.iastore, 1) := by decide +kernel
theorem dL_limit_228 : decode cL_limit 228 = .ok (.dup, 1) := by decide +kernel
theorem dL_limit_229 : decode cL_limit 229 = .ok (.iconst 3, 1) := by decide +kernel
theorem dL_limit_230 : decode cL_limit 230 = .ok (.bipush 7, 2) := by decide +kernel
theorem dL_limit_232 : decode cL_limit 232 = .ok (.iastore, 1) := by decide +kernel
theorem dL_limit_233 : decode cL_limit 233 = .ok (.invokestatic 153, 3) := by decide +kernel
theorem dL_limit_236 : decode cL_limit 236 = .ok (.ireturn, 1) := by decide +kernel
theorem dL_limit_237 : decode cL_limit 237 = .ok (.iload_n 1, 1) := by decide +kernel
theorem dL_limit_238 : decode cL_limit 238 = .ok (.iconst 4, 1) := by decide +kernel
theorem dL_limit_239 : decode cL_limit 239 = .ok (.newarray .int, 2) := by decide +kernel
theorem dL_limit_241 : decode cL_limit 241 = .ok (.dup, 1) := by decide +kernel
theorem dL_limit_242 : decode cL_limit 242 = .ok (.iconst 0, 1) := by decide +kernel
theorem dL_limit_243 : decode cL_limit 243 = .ok (.iconst 1, 1) := by decide +kernel
theorem dL_limit_244 : decode cL_limit 244 = .ok (.iastore, 1) := by decide +kernel
theorem dL_limit_245 : decode cL_limit 245 = .ok (.dup, 1) := by decide +kernel
theorem dL_limit_246 : decode cL_limit 246 = .ok (.iconst 1, 1) := by decide +kernel
theorem dL_limit_247 : decode cL_limit 247 = .ok (.iconst 4, 1) := by decide +kernel
theorem dL_limit_248 : decode cL_limit 248 = .ok (.iastore, 1) := by decide +kernel
theorem dL_limit_249 : decode cL_limit 249 = .ok (.dup, 1) := by decide +kernel
theorem dL_limit_250 : decode cL_limit 250 = .ok (.iconst 2, 1) := by decide +kernel
theorem dL_limit_251 : decode cL_limit 251 = .ok (.bipush (-40), 2) := by decide +kernel
theorem dL_limit_253 : decode cL_limit 253 = .ok (.iastore, 1) := by decide +kernel
theorem dL_limit_254 : decode cL_limit 254 = .ok (.dup, 1) := by decide +kernel
theorem dL_limit_255 : decode cL_limit 255 = .ok (.iconst 3, 1) := by decide +kernel
theorem dL_limit_256 : decode cL_limit 256 = .ok (.bipush 81, 2) := by decide +kernel
theorem dL_limit_258 : decode cL_limit 258 = .ok (.iastore, 1) := by decide +kernel
theorem dL_limit_259 : decode cL_limit 259 = .ok (.invokestatic 153, 3) := by decide +kernel
theorem dL_limit_262 : decode cL_limit 262 = .ok (.ireturn, 1) := by decide +kernel
theorem dL_limit_263 : decode cL_limit 263 = .ok (.iload_n 1, 1) := by decide +kernel
theorem dL_limit_264 : decode cL_limit 264 = .ok (.iconst 4, 1) := by decide +kernel
theorem dL_limit_265 : decode cL_limit 265 = .ok (.newarray .int, 2) := by decide +kernel
theorem dL_limit_267 : decode cL_limit 267 = .ok (.dup, 1) := by decide +kernel
theorem dL_limit_268 : decode cL_limit 268 = .ok (.iconst 0, 1) := by decide +kernel
theorem dL_limit_269 : decode cL_limit 269 = .ok (.iconst 1, 1) := by decide +kernel
theorem dL_limit_270 : decode cL_limit 270 = .ok (.iastore, 1) := by decide +kernel
theorem dL_limit_271 : decode cL_limit 271 = .ok (.dup, 1) := by decide +kernel
theorem dL_limit_272 : decode cL_limit 272 = .ok (.iconst 1, 1) := by decide +kernel
theorem dL_limit_273 : decode cL_limit 273 = .ok (.iconst 1, 1) := by decide +kernel
theorem dL_limit_274 : decode cL_limit 274 = .ok (.iastore, 1) := by decide +kernel
theorem dL_limit_275 : decode cL_limit 275 = .ok (.dup, 1) := by decide +kernel
theorem dL_limit_276 : decode cL_limit 276 = .ok (.iconst 2, 1) := by decide +kernel
theorem dL_limit_277 : decode cL_limit 277 = .ok (.iconst 2, 1) := by decide +kernel
theorem dL_limit_278 : decode cL_limit 278 = .ok (.iastore, 1) := by decide +kernel
theorem dL_limit_279 : decode cL_limit 279 = .ok (.dup, 1) := by decide +kernel
theorem dL_limit_280 : decode cL_limit 280 = .ok (.iconst 3, 1) := by decide +kernel
theorem dL_limit_281 : decode cL_limit 281 = .ok (.sipush 500, 3) := by decide +kernel
theorem dL_limit_284 : decode cL_limit 284 = .ok (.iastore, 1) := by decide +kernel
theorem dL_limit_285 : decode cL_limit 285 = .ok (.invokestatic 153, 3) := by decide +kernel
theorem dL_limit_288 : decode cL_limit 288 = .ok (.ireturn, 1) := by decide +kernel
theorem dL_limit_289 : decode cL_limit 289 = .ok (.iload_n 1, 1) := by decide +kernel
theorem dL_limit_290 : decode cL_limit 290 = .ok (.iconst 4, 1) := by decide +kernel
theorem dL_limit_291 : decode cL_limit 291 = .ok (.newarray .int, 2) := by decide +kernel
theorem dL_limit_293 : decode cL_limit 293 = .ok (.dup, 1) := by decide +kernel
theorem dL_limit_294 : decode cL_limit 294 = .ok (.iconst 0, 1) := by decide +kernel
theorem dL_limit_295 : decode cL_limit 295 = .ok (.iconst 1, 1) := by decide +kernel
theorem dL_limit_296 : decode cL_limit 296 = .ok (.iastore, 1) := by decide +kernel
theorem dL_limit_297 : decode cL_limit 297 = .ok (.dup, 1) := by decide +kernel
theorem dL_limit_298 : decode cL_limit 298 = .ok (.iconst 1, 1) := by decide +kernel
theorem dL_limit_299 : decode cL_limit 299 = .ok (.iconst 1, 1) := by decide +kernel
theorem dL_limit_300 : decode cL_limit 300 = .ok (.iastore, 1) := by decide +kernel
theorem dL_limit_301 : decode cL_limit 301 = .ok (.dup, 1) := by decide +kernel
theorem dL_limit_302 : decode cL_limit 302 = .ok (.iconst 2, 1) := by decide +kernel
theorem dL_limit_303 : decode cL_limit 303 = .ok (.iconst 0, 1) := by decide +kernel
theorem dL_limit_304 : decode cL_limit 304 = .ok (.iastore, 1) := by decide +kernel
theorem dL_limit_305 : decode cL_limit 305 = .ok (.dup, 1) := by decide +kernel
theorem dL_limit_306 : decode cL_limit 306 = .ok (.iconst 3, 1) := by decide +kernel
theorem dL_limit_307 : decode cL_limit 307 = .ok (.iconst 4, 1) := by decide +kernel
theorem dL_limit_308 : decode cL_limit 308 = .ok (.iastore, 1) := by decide +kernel
theorem dL_limit_309 : decode cL_limit 309 = .ok (.invokestatic 153, 3) := by decide +kernel
theorem dL_limit_312 : decode cL_limit 312 = .ok (.ireturn, 1) := by decide +kernel
theorem dL_limit_313 : decode cL_limit 313 = .ok (.iload_n 1, 1) := by decide +kernel
theorem dL_limit_314 : decode cL_limit 314 = .ok (.iconst 4, 1) := by decide +kernel
theorem dL_limit_315 : decode cL_limit 315 = .ok (.newarray .int, 2) := by decide +kernel
theorem dL_limit_317 : decode cL_limit 317 = .ok (.dup, 1) := by decide +kernel
theorem dL_limit_318 : decode cL_limit 318 = .ok (.iconst 0, 1) := by decide +kernel
theorem dL_limit_319 : decode cL_limit 319 = .ok (.iconst 2, 1) := by decide +kernel
theorem dL_limit_320 : decode cL_limit 320 = .ok (.iastore, 1) := by decide +kernel
theorem dL_limit_321 : decode cL_limit 321 = .ok (.dup, 1) := by decide +kernel
theorem dL_limit_322 : decode cL_limit 322 = .ok (.iconst 1, 1) := by decide +kernel
theorem dL_limit_323 : decode cL_limit 323 = .ok (.iconst 5, 1) := by decide +kernel
theorem dL_limit_324 : decode cL_limit 324 = .ok (.iastore, 1) := by decide +kernel
theorem dL_limit_325 : decode cL_limit 325 = .ok (.dup, 1) := by decide +kernel
theorem dL_limit_326 : decode cL_limit 326 = .ok (.iconst 2, 1) := by decide +kernel
theorem dL_limit_327 : decode cL_limit 327 = .ok (.iconst 0, 1) := by decide +kernel
theorem dL_limit_328 : decode cL_limit 328 = .ok (.iastore, 1) := by decide +kernel
theorem dL_limit_329 : decode cL_limit 329 = .ok (.dup, 1) := by decide +kernel
theorem dL_limit_330 : decode cL_limit 330 = .ok (.iconst 3, 1) := by decide +kernel
theorem dL_limit_331 : decode cL_limit 331 = .ok (.iconst 5, 1) := by decide +kernel
theorem dL_limit_332 : decode cL_limit 332 = .ok (.iastore, 1) := by decide +kernel
theorem dL_limit_333 : decode cL_limit 333 = .ok (.invokestatic 153, 3) := by decide +kernel
theorem dL_limit_336 : decode cL_limit 336 = .ok (.ireturn, 1) := by decide +kernel
theorem dL_limit_337 : decode cL_limit 337 = .ok (.iload_n 1, 1) := by decide +kernel
theorem dL_limit_338 : decode cL_limit 338 = .ok (.iconst 4, 1) := by decide +kernel
theorem dL_limit_339 : decode cL_limit 339 = .ok (.newarray .int, 2) := by decide +kernel
theorem dL_limit_341 : decode cL_limit 341 = .ok (.dup, 1) := by decide +kernel
theorem dL_limit_342 : decode cL_limit 342 = .ok (.iconst 0, 1) := by decide +kernel
theorem dL_limit_343 : decode cL_limit 343 = .ok (.iconst 1, 1) := by decide +kernel
theorem dL_limit_344 : decode cL_limit 344 = .ok (.iastore, 1) := by decide +kernel
theorem dL_limit_345 : decode cL_limit 345 = .ok (.dup, 1) := by decide +kernel
theorem dL_limit_346 : decode cL_limit 346 = .ok (.iconst 1, 1) := by decide +kernel
theorem dL_limit_347 : decode cL_limit 347 = .ok (.iconst 1, 1) := by decide +kernel
theorem dL_limit_348 : decode cL_limit 348 = .ok (.iastore, 1) := by decide +kernel
theorem dL_limit_349 : decode cL_limit 349 = .ok (.dup, 1) := by decide +kernel
theorem dL_limit_350 : decode cL_limit 350 = .ok (.iconst 2, 1) := by decide +kernel
theorem dL_limit_351 : decode cL_limit 351 = .ok (.iconst 0, 1) := by decide +kernel
theorem dL_limit_352 : decode cL_limit 352 = .ok (.iastore, 1) := by decide +kernel
theorem dL_limit_353 : decode cL_limit 353 = .ok (.dup, 1) := by decide +kernel
theorem dL_limit_354 : decode cL_limit 354 = .ok (.iconst 3, 1) := by decide +kernel
theorem dL_limit_355 : decode cL_limit 355 = .ok (.bipush 8, 2) := by decide +kernel
theorem dL_limit_357 : decode cL_limit 357 = .ok (.iastore, 1) := by decide +kernel
theorem dL_limit_358 : decode cL_limit 358 = .ok (.invokestatic 153, 3) := by decide +kernel
theorem dL_limit_361 : decode cL_limit 361 = .ok (.ireturn, 1) := by decide +kernel
theorem dL_limit_362 : decode cL_limit 362 = .ok (.iload_n 1, 1) := by decide +kernel
theorem dL_limit_363 : decode cL_limit 363 = .ok (.iconst 4, 1) := by decide +kernel
theorem dL_limit_364 : decode cL_limit 364 = .ok (.newarray .int, 2) := by decide +kernel
theorem dL_limit_366 : decode cL_limit 366 = .ok (.dup, 1) := by decide +kernel
theorem dL_limit_367 : decode cL_limit 367 = .ok (.iconst 0, 1) := by decide +kernel
theorem dL_limit_368 : decode cL_limit 368 = .ok (.iconst 1, 1) := by decide +kernel
theorem dL_limit_369 : decode cL_limit 369 = .ok (.iastore, 1) := by decide +kernel
theorem dL_limit_370 : decode cL_limit 370 = .ok (.dup, 1) := by decide +kernel
theorem dL_limit_371 : decode cL_limit 371 = .ok (.iconst 1, 1) := by decide +kernel
theorem dL_limit_372 : decode cL_limit 372 = .ok (.bipush 8, 2) := by decide +kernel
theorem dL_limit_374 : decode cL_limit 374 = .ok (.iastore, 1) := by decide +kernel
theorem dL_limit_375 : decode cL_limit 375 = .ok (.dup, 1) := by decide +kernel
theorem dL_limit_376 : decode cL_limit 376 = .ok (.iconst 2, 1) := by decide +kernel
theorem dL_limit_377 : decode cL_limit 377 = .ok (.iconst 0, 1) := by decide +kernel
theorem dL_limit_378 : decode cL_limit 378 = .ok (.iastore, 1) := by decide +kernel
theorem dL_limit_379 : decode cL_limit 379 = .ok (.dup, 1) := by decide +kernel
theorem dL_limit_380 : decode cL_limit 380 = .ok (.iconst 3, 1) := by decide +kernel
theorem dL_limit_381 : decode cL_limit 381 = .ok (.bipush 8, 2) := by decide +kernel
theorem dL_limit_383 : decode cL_limit 383 = .ok (.iastore, 1) := by decide +kernel
theorem dL_limit_384 : decode cL_limit 384 = .ok (.invokestatic 153, 3) := by decide +kernel
theorem dL_limit_387 : decode cL_limit 387 = .ok (.ireturn, 1) := by decide +kernel
theorem dL_limit_388 : decode cL_limit 388 = .ok (.iload_n 1, 1) := by decide +kernel
theorem dL_limit_389 : decode cL_limit 389 = .ok (.iconst 4, 1) := by decide +kernel
theorem dL_limit_390 : decode cL_limit 390 = .ok (.newarray .int, 2) := by decide +kernel
theorem dL_limit_392 : decode cL_limit 392 = .ok (.dup, 1) := by decide +kernel
theorem dL_limit_393 : decode cL_limit 393 = .ok (.iconst 0, 1) := by decide +kernel
theorem dL_limit_394 : decode cL_limit 394 = .ok (.iconst 1, 1) := by decide +kernel
theorem dL_limit_395 : decode cL_limit 395 = .ok (.iastore, 1) := by decide +kernel
theorem dL_limit_396 : decode cL_limit 396 = .ok (.dup, 1) := by decide +kernel
theorem dL_limit_397 : decode cL_limit 397 = .ok (.iconst 1, 1) := by decide +kernel
theorem dL_limit_398 : decode cL_limit 398 = .ok (.bipush 7, 2) := by decide +kernel
theorem dL_limit_400 : decode cL_limit 400 = .ok (.iastore, 1) := by decide +kernel
theorem dL_limit_401 : decode cL_limit 401 = .ok (.dup, 1) := by decide +kernel
theorem dL_limit_402 : decode cL_limit 402 = .ok (.iconst 2, 1) := by decide +kernel
theorem dL_limit_403 : decode cL_limit 403 = .ok (.iconst 0, 1) := by decide +kernel
theorem dL_limit_404 : decode cL_limit 404 = .ok (.iastore, 1) := by decide +kernel
theorem dL_limit_405 : decode cL_limit 405 = .ok (.dup, 1) := by decide +kernel
theorem dL_limit_406 : decode cL_limit 406 = .ok (.iconst 3, 1) := by decide +kernel
theorem dL_limit_407 : decode cL_limit 407 = .ok (.bipush 7, 2) := by decide +kernel
theorem dL_limit_409 : decode cL_limit 409 = .ok (.iastore, 1) := by decide +kernel
theorem dL_limit_410 : decode cL_limit 410 = .ok (.invokestatic 153, 3) := by decide +kernel
theorem dL_limit_413 : decode cL_limit 413 = .ok (.ireturn, 1) := by decide +kernel
theorem dL_part_0 : decode cL_part 0 = .ok (.iload_n 0, 1) := by decide +kernel
theorem dL_part_1 : decode cL_part 1 = .ok (.tableswitch 284 97 120 #[210, 284, 284, 156, 284, 284, 284, 284, 284, 284, 284, 111, 284, 284, 284, 284, 284, 187, 142, 284, 284, 284, 199, 227], 111) := by decide +kernel
theorem dL_part_112 : decode cL_part 112 = .ok (.iload_n 2, 1) := by decide +kernel
theorem dL_part_113 : decode cL_part 113 = .ok (.iconst 4, 1) := by decide +kernel
theorem dL_part_114 : decode cL_part 114 = .ok (.if_icmp .ge 17, 3) := by decide +kernel
theorem dL_part_117 : decode cL_part 117 = .ok (.aload_n 3, 1) := by decide +kernel
theorem dL_part_118 : decode cL_part 118 = .ok (.iload 4, 2) := by decide +kernel
theorem dL_part_120 : decode cL_part 120 = .ok (.bipush 19, 2) := by decide +kernel
theorem dL_part_122 : decode cL_part 122 = .ok (.invokestatic 157, 3) := by decide +kernel
theorem dL_part_125 : decode cL_part 125 = .ok (.bipush 9, 2) := by decide +kernel
theorem dL_part_127 : decode cL_part 127 = .ok (.isub, 1) := by decide +kernel
theorem dL_part_128 : decode cL_part 128 = .ok (.goto 14, 3) := by decide +kernel
theorem dL_part_131 : decode cL_part 131 = .ok (.aload_n 3, 1) := by decide +kernel
theorem dL_part_132 : decode cL_part 132 = .ok (.iload 4, 2) := by decide +kernel
theorem dL_part_134 : decode cL_part 134 = .ok (.bipush 81, 2) := by decide +kernel
theorem dL_part_136 : decode cL_part 136 = .ok (.invokestatic 157, 3) := by decide +kernel
theorem dL_part_139 : decode cL_part 139 = .ok (.bipush 40, 2) := by decide +kernel
theorem dL_part_141 : decode cL_part 141 = .ok (.isub, 1) := by decide +kernel
theorem dL_part_142 : decode cL_part 142 = .ok (.ireturn, 1) := by decide +kernel
theorem dL_part_143 : decode cL_part 143 = .ok (.aload_n 3, 1) := by decide +kernel
theorem dL_part_144 : decode cL_part 144 = .ok (.iload 4, 2) := by decide +kernel
theorem dL_part_146 : decode cL_part 146 = .ok (.iconst 2, 1) := by decide +kernel
theorem dL_part_147 : decode cL_part 147 = .ok (.iload_n 1, 1) := by decide +kernel
theorem dL_part_148 : decode cL_part 148 = .ok (.imul, 1) := by decide +kernel
theorem dL_part_149 : decode cL_part 149 = .ok (.iconst 1, 1) := by decide +kernel
theorem dL_part_150 : decode cL_part 150 = .ok (.iadd, 1) := by decide +kernel
theorem dL_part_151 : decode cL_part 151 = .ok (.invokestatic 157, 3) := by decide +kernel
theorem dL_part_154 : decode cL_part 154 = .ok (.iload_n 1, 1) := by decide +kernel
theorem dL_part_155 : decode cL_part 155 = .ok (.isub, 1) := by decide +kernel
theorem dL_part_156 : decode cL_part 156 = .ok (.ireturn, 1) := by decide +kernel
theorem dL_part_157 : decode cL_part 157 = .ok (.iload_n 2, 1) := by decide +kernel
theorem dL_part_158 : decode cL_part 158 = .ok (.iconst 4, 1) := by decide +kernel
theorem dL_part_159 : decode cL_part 159 = .ok (.if_icmp .ge 17, 3) := by decide +kernel
theorem dL_part_162 : decode cL_part 162 = .ok (.aload_n 3, 1) := by decide +kernel
theorem dL_part_163 : decode cL_part 163 = .ok (.iload 4, 2) := by decide +kernel
theorem dL_part_165 : decode cL_part 165 = .ok (.bipush 13, 2) := by decide +kernel
theorem dL_part_167 : decode cL_part 167 = .ok (.invokestatic 157, 3) := by decide +kernel
theorem dL_part_170 : decode cL_part 170 = .ok (.bipush 6, 2) := by decide +kernel
theorem dL_part_172 : decode cL_part 172 = .ok (.isub, 1) := by decide +kernel
theorem dL_part_173 : decode cL_part 173 = .ok (.goto 14, 3) := by decide +kernel
theorem dL_part_176 : decode cL_part 176 = .ok (.aload_n 3, 1) := by decide +kernel
theorem dL_part_177 : decode cL_part 177 = .ok (.iload 4, 2) := by decide +kernel
theorem dL_part_179 : decode cL_part 179 = .ok (.bipush 41, 2) := by decide +kernel
theorem dL_part_181 : decode cL_part 181 = .ok (.invokestatic 157, 3) := by decide +kernel
theorem dL_part_184 : decode cL_part 184 = .ok (.bipush 20, 2) := by decide +kernel
theorem dL_part_186 : decode cL_part 186 = .ok (.isub, 1) := by decide +kernel
theorem dL_part_187 : decode cL_part 187 = .ok (.ireturn, 1) := by decide +kernel
theorem dL_part_188 : decode cL_part 188 = .ok (.aload_n 3, 1) := by decide +kernel
theorem dL_part_189 : decode cL_part 189 = .ok (.iload 4, 2) := by decide +kernel
theorem dL_part_191 : decode cL_part 191 = .ok (.bipush 15, 2) := by decide +kernel
theorem dL_part_193 : decode cL_part 193 = .ok (.invokestatic 157, 3) := by decide +kernel
theorem dL_part_196 : decode cL_part 196 = .ok (.bipush 7, 2) := by decide +kernel
theorem dL_part_198 : decode cL_part 198 = .ok (.isub, 1) := by decide +kernel
theorem dL_part_199 : decode cL_part 199 = .ok (.ireturn, 1) := by decide +kernel
theorem dL_part_200 : decode cL_part 200 = .ok (.iconst 1, 1) := by decide +kernel
theorem dL_part_201 : decode cL_part 201 = .ok (.aload_n 3, 1) := by decide +kernel
theorem dL_part_202 : decode cL_part 202 = .ok (.iload 4, 2) := by decide +kernel
theorem dL_part_204 : decode cL_part 204 = .ok (.bipush 31, 2) := by decide +kernel
theorem dL_part_206 : decode cL_part 206 = .ok (.invokestatic 157, 3) := by decide +kernel
theorem dL_part_209 : decode cL_part 209 = .ok (.iadd, 1) := by decide +kernel
theorem dL_part_210 : decode cL_part 210 = .ok (.ireturn, 1) := by decide +kernel
theorem dL_part_211 : decode cL_part 211 = .ok (.aload_n 3, 1) := by decide +kernel
theorem dL_part_212 : decode cL_part 212 = .ok (.iload 4, 2) := by decide +kernel
theorem dL_part_214 : decode cL_part 214 = .ok (.iload_n 2, 1) := by decide +kernel
theorem dL_part_215 : decode cL_part 215 = .ok (.iconst 2, 1) := by decide +kernel
theorem dL_part_216 : decode cL_part 216 = .ok (.if_icmp .ge 7, 3) := by decide +kernel
theorem dL_part_219 : decode cL_part 219 = .ok (.iload_n 1, 1) := by decide +kernel
theorem dL_part_220 : decode cL_part 220 = .ok (.goto 4, 3) := by decide +kernel
theorem dL_part_223 : decode cL_part 223 = .ok (.iconst 2, 1) := by decide +kernel
theorem dL_part_224 : decode cL_part 224 = .ok (.invokestatic 157, 3) := by decide +kernel
theorem dL_part_227 : decode cL_part 227 = .ok (.ireturn, 1) := by decide +kernel
theorem dL_part_228 : decode cL_part 228 = .ok (.iload_n 2, 1) := by decide +kernel
theorem dL_part_229 : decode cL_part 229 = .ok (.ifCond .ne 13, 3) := by decide +kernel
theorem dL_part_232 : decode cL_part 232 = .ok (.aload_n 3, 1) := by decide +kernel
theorem dL_part_233 : decode cL_part 233 = .ok (.iload 4, 2) := by decide +kernel
theorem dL_part_235 : decode cL_part 235 = .ok (.iconst 2, 1) := by decide +kernel
theorem dL_part_236 : decode cL_part 236 = .ok (.invokestatic 157, 3) := by decide +kernel
theorem dL_part_239 : decode cL_part 239 = .ok (.goto 45, 3) := by decide +kernel
theorem dL_part_242 : decode cL_part 242 = .ok (.iload_n 2, 1) := by decide +kernel
theorem dL_part_243 : decode cL_part 243 = .ok (.iconst 1, 1) := by decide +kernel
theorem dL_part_244 : decode cL_part 244 = .ok (.if_icmp .ne 14, 3) := by decide +kernel
theorem dL_part_247 : decode cL_part 247 = .ok (.aload_n 3, 1) := by decide +kernel
theorem dL_part_248 : decode cL_part 248 = .ok (.iload 4, 2) := by decide +kernel
theorem dL_part_250 : decode cL_part 250 = .ok (.bipush 6, 2) := by decide +kernel
theorem dL_part_252 : decode cL_part 252 = .ok (.invokestatic 157, 3) := by decide +kernel
theorem dL_part_255 : decode cL_part 255 = .ok (.goto 29, 3) := by decide +kernel
theorem dL_part_258 : decode cL_part 258 = .ok (.iload_n 2, 1) := by decide +kernel
theorem dL_part_259 : decode cL_part 259 = .ok (.iconst 2, 1) := by decide +kernel
theorem dL_part_260 : decode cL_part 260 = .ok (.if_icmp .ne 13, 3) := by decide +kernel
theorem dL_part_263 : decode cL_part 263 = .ok (.aload_n 3, 1) := by decide +kernel
theorem dL_part_264 : decode cL_part 264 = .ok (.iload 4, 2) := by decide +kernel
theorem dL_part_266 : decode cL_part 266 = .ok (.iload_n 1, 1) := by decide +kernel
theorem dL_part_267 : decode cL_part 267 = .ok (.invokestatic 157, 3) := by decide +kernel
theorem dL_part_270 : decode cL_part 270 = .ok (.goto 14, 3) := by decide +kernel
theorem dL_part_273 : decode cL_part 273 = .ok (.aload_n 3, 1) := by decide +kernel
theorem dL_part_274 : decode cL_part 274 = .ok (.iload 4, 2) := by decide +kernel
theorem dL_part_276 : decode cL_part 276 = .ok (.iload_n 1, 1) := by decide +kernel
theorem dL_part_277 : decode cL_part 277 = .ok (.iconst 1, 1) := by decide +kernel
theorem dL_part_278 : decode cL_part 278 = .ok (.iadd, 1) := by decide +kernel
theorem dL_part_279 : decode cL_part 279 = .ok (.invokestatic 157, 3) := by decide +kernel
theorem dL_part_282 : decode cL_part 282 = .ok (.iconst 1, 1) := by decide +kernel
theorem dL_part_283 : decode cL_part 283 = .ok (.isub, 1) := by decide +kernel
theorem dL_part_284 : decode cL_part 284 = .ok (.ireturn, 1) := by decide +kernel
theorem dL_part_285 : decode cL_part 285 = .ok (.aload_n 3, 1) := by decide +kernel
theorem dL_part_286 : decode cL_part 286 = .ok (.iload 4, 2) := by decide +kernel
theorem dL_part_288 : decode cL_part 288 = .ok (.iload_n 2, 1) := by decide +kernel
theorem dL_part_289 : decode cL_part 289 = .ok (.iconst 2, 1) := by decide +kernel
theorem dL_part_290 : decode cL_part 290 = .ok (.if_icmp .ge 7, 3) := by decide +kernel
theorem dL_part_293 : decode cL_part 293 = .ok (.iload_n 1, 1) := by decide +kernel
theorem dL_part_294 : decode cL_part 294 = .ok (.goto 5, 3) := by decide +kernel
theorem dL_part_297 : decode cL_part 297 = .ok (.bipush 7, 2) := by decide +kernel
theorem dL_part_299 : decode cL_part 299 = .ok (.invokestatic 157, 3) := by decide +kernel
theorem dL_part_302 : decode cL_part 302 = .ok (.ireturn, 1) := by decide +kernel
theorem dL_writes_0 : decode cL_writes 0 = .ok (.aload_n 0, 1) := by decide +kernel
theorem dL_writes_1 : decode cL_writes 1 = .ok (.iload_n 1, 1) := by decide +kernel
theorem dL_writes_2 : decode cL_writes 2 = .ok (.invokestatic 161, 3) := by decide +kernel
theorem dL_writes_5 : decode cL_writes 5 = .ok (.l2i, 1) := by decide +kernel
theorem dL_writes_6 : decode cL_writes 6 = .ok (.i2c, 1) := by decide +kernel
theorem dL_writes_7 : decode cL_writes 7 = .ok (.istore 5, 2) := by decide +kernel
theorem dL_writes_9 : decode cL_writes 9 = .ok (.aload_n 0, 1) := by decide +kernel
theorem dL_writes_10 : decode cL_writes 10 = .ok (.iload_n 1, 1) := by decide +kernel
theorem dL_writes_11 : decode cL_writes 11 = .ok (.invokestatic 164, 3) := by decide +kernel
theorem dL_writes_14 : decode cL_writes 14 = .ok (.l2i, 1) := by decide +kernel
theorem dL_writes_15 : decode cL_writes 15 = .ok (.istore 6, 2) := by decide +kernel
theorem dL_writes_17 : decode cL_writes 17 = .ok (.bipush 6, 2) := by decide +kernel
theorem dL_writes_19 : decode cL_writes 19 = .ok (.newarray .int, 2) := by decide +kernel
theorem dL_writes_21 : decode cL_writes 21 = .ok (.astore 7, 2) := by decide +kernel
theorem dL_writes_23 : decode cL_writes 23 = .ok (.iconst 0, 1) := by decide +kernel
theorem dL_writes_24 : decode cL_writes 24 = .ok (.istore 8, 2) := by decide +kernel
theorem dL_writes_26 : decode cL_writes 26 = .ok (.iload 8, 2) := by decide +kernel
theorem dL_writes_28 : decode cL_writes 28 = .ok (.bipush 6, 2) := by decide +kernel
theorem dL_writes_30 : decode cL_writes 30 = .ok (.if_icmp .ge 41, 3) := by decide +kernel
theorem dL_writes_33 : decode cL_writes 33 = .ok (.aload 7, 2) := by decide +kernel
theorem dL_writes_35 : decode cL_writes 35 = .ok (.iload 8, 2) := by decide +kernel
theorem dL_writes_37 : decode cL_writes 37 = .ok (.iload 5, 2) := by decide +kernel
theorem dL_writes_39 : decode cL_writes 39 = .ok (.bipush 103, 2) := by decide +kernel
theorem dL_writes_41 : decode cL_writes 41 = .ok (.if_icmp .ne 8, 3) := by decide +kernel
theorem dL_writes_44 : decode cL_writes 44 = .ok (.iload 8, 2) := by decide +kernel
theorem dL_writes_46 : decode cL_writes 46 = .ok (.goto 18, 3) := by decide +kernel
theorem dL_writes_49 : decode cL_writes 49 = .ok (.iload 5, 2) := by decide +kernel
theorem dL_writes_51 : decode cL_writes 51 = .ok (.iload 6, 2) := by decide +kernel
theorem dL_writes_53 : decode cL_writes 53 = .ok (.iload 8, 2) := by decide +kernel
theorem dL_writes_55 : decode cL_writes 55 = .ok (.aload_n 3, 1) := by decide +kernel
theorem dL_writes_56 : decode cL_writes 56 = .ok (.iload 4, 2) := by decide +kernel
theorem dL_writes_58 : decode cL_writes 58 = .ok (.iload 8, 2) := by decide +kernel
theorem dL_writes_60 : decode cL_writes 60 = .ok (.iadd, 1) := by decide +kernel
theorem dL_writes_61 : decode cL_writes 61 = .ok (.invokestatic 166, 3) := by decide +kernel
theorem dL_writes_64 : decode cL_writes 64 = .ok (.iastore, 1) := by decide +kernel
theorem dL_writes_65 : decode cL_writes 65 = .ok (.iinc 8 1, 3) := by decide +kernel
theorem dL_writes_68 : decode cL_writes 68 = .ok (.goto (-42), 3) := by decide +kernel
theorem dL_writes_71 : decode cL_writes 71 = .ok (.iconst 0, 1) := by decide +kernel
theorem dL_writes_72 : decode cL_writes 72 = .ok (.istore 8, 2) := by decide +kernel
theorem dL_writes_74 : decode cL_writes 74 = .ok (.iload 5, 2) := by decide +kernel
theorem dL_writes_76 : decode cL_writes 76 = .ok (.bipush 103, 2) := by decide +kernel
theorem dL_writes_78 : decode cL_writes 78 = .ok (.if_icmp .ne 59, 3) := by decide +kernel
theorem dL_writes_81 : decode cL_writes 81 = .ok (.iload 8, 2) := by decide +kernel
theorem dL_writes_83 : decode cL_writes 83 = .ok (.iload 6, 2) := by decide +kernel
theorem dL_writes_85 : decode cL_writes 85 = .ok (.if_icmp .ge 52, 3) := by decide +kernel
theorem dL_writes_88 : decode cL_writes 88 = .ok (.iload 8, 2) := by decide +kernel
theorem dL_writes_90 : decode cL_writes 90 = .ok (.aload_n 3, 1) := by decide +kernel
theorem dL_writes_91 : decode cL_writes 91 = .ok (.iload 4, 2) := by decide +kernel
theorem dL_writes_93 : decode cL_writes 93 = .ok (.iload 8, 2) := by decide +kernel
theorem dL_writes_95 : decode cL_writes 95 = .ok (.iadd, 1) := by decide +kernel
theorem dL_writes_96 : decode cL_writes 96 = .ok (.iload 6, 2) := by decide +kernel
theorem dL_writes_98 : decode cL_writes 98 = .ok (.iload 8, 2) := by decide +kernel
theorem dL_writes_100 : decode cL_writes 100 = .ok (.isub, 1) := by decide +kernel
theorem dL_writes_101 : decode cL_writes 101 = .ok (.invokestatic 157, 3) := by decide +kernel
theorem dL_writes_104 : decode cL_writes 104 = .ok (.iadd, 1) := by decide +kernel
theorem dL_writes_105 : decode cL_writes 105 = .ok (.istore 9, 2) := by decide +kernel
theorem dL_writes_107 : decode cL_writes 107 = .ok (.aload 7, 2) := by decide +kernel
theorem dL_writes_109 : decode cL_writes 109 = .ok (.iload 8, 2) := by decide +kernel
theorem dL_writes_111 : decode cL_writes 111 = .ok (.iaload, 1) := by decide +kernel
theorem dL_writes_112 : decode cL_writes 112 = .ok (.istore 10, 2) := by decide +kernel
theorem dL_writes_114 : decode cL_writes 114 = .ok (.aload 7, 2) := by decide +kernel
theorem dL_writes_116 : decode cL_writes 116 = .ok (.iload 8, 2) := by decide +kernel
theorem dL_writes_118 : decode cL_writes 118 = .ok (.aload 7, 2) := by decide +kernel
theorem dL_writes_120 : decode cL_writes 120 = .ok (.iload 9, 2) := by decide +kernel
theorem dL_writes_122 : decode cL_writes 122 = .ok (.iaload, 1) := by decide +kernel
theorem dL_writes_123 : decode cL_writes 123 = .ok (.iastore, 1) := by decide +kernel
theorem dL_writes_124 : decode cL_writes 124 = .ok (.aload 7, 2) := by decide +kernel
theorem dL_writes_126 : decode cL_writes 126 = .ok (.iload 9, 2) := by decide +kernel
theorem dL_writes_128 : decode cL_writes 128 = .ok (.iload 10, 2) := by decide +kernel
theorem dL_writes_130 : decode cL_writes 130 = .ok (.iastore, 1) := by decide +kernel
theorem dL_writes_131 : decode cL_writes 131 = .ok (.iinc 8 1, 3) := by decide +kernel
theorem dL_writes_134 : decode cL_writes 134 = .ok (.goto (-60), 3) := by decide +kernel
theorem dL_writes_137 : decode cL_writes 137 = .ok (.iload_n 2, 1) := by decide +kernel
theorem dL_writes_138 : decode cL_writes 138 = .ok (.ifCond .ge 31, 3) := by decide +kernel
theorem dL_writes_141 : decode cL_writes 141 = .ok (.aload_n 0, 1) := by decide +kernel
theorem dL_writes_142 : decode cL_writes 142 = .ok (.iload_n 1, 1) := by decide +kernel
theorem dL_writes_143 : decode cL_writes 143 = .ok (.aload 7, 2) := by decide +kernel
theorem dL_writes_145 : decode cL_writes 145 = .ok (.iconst 0, 1) := by decide +kernel
theorem dL_writes_146 : decode cL_writes 146 = .ok (.iaload, 1) := by decide +kernel
theorem dL_writes_147 : decode cL_writes 147 = .ok (.aload 7, 2) := by decide +kernel
theorem dL_writes_149 : decode cL_writes 149 = .ok (.iconst 1, 1) := by decide +kernel
theorem dL_writes_150 : decode cL_writes 150 = .ok (.iaload, 1) := by decide +kernel
theorem dL_writes_151 : decode cL_writes 151 = .ok (.aload 7, 2) := by decide +kernel
theorem dL_writes_153 : decode cL_writes 153 = .ok (.iconst 2, 1) := by decide +kernel
theorem dL_writes_154 : decode cL_writes 154 = .ok (.iaload, 1) := by decide +kernel
theorem dL_writes_155 : decode cL_writes 155 = .ok (.aload 7, 2) := by decide +kernel
theorem dL_writes_157 : decode cL_writes 157 = .ok (.iconst 3, 1) := by decide +kernel
theorem dL_writes_158 : decode cL_writes 158 = .ok (.iaload, 1) := by decide +kernel
theorem dL_writes_159 : decode cL_writes 159 = .ok (.aload 7, 2) := by decide +kernel
theorem dL_writes_161 : decode cL_writes 161 = .ok (.iconst 4, 1) := by decide +kernel
theorem dL_writes_162 : decode cL_writes 162 = .ok (.iaload, 1) := by decide +kernel
theorem dL_writes_163 : decode cL_writes 163 = .ok (.invokestatic 169, 3) := by decide +kernel
theorem dL_writes_166 : decode cL_writes 166 = .ok (.goto 29, 3) := by decide +kernel
theorem dL_writes_169 : decode cL_writes 169 = .ok (.aload_n 0, 1) := by decide +kernel
theorem dL_writes_170 : decode cL_writes 170 = .ok (.iload_n 1, 1) := by decide +kernel
theorem dL_writes_171 : decode cL_writes 171 = .ok (.iload_n 2, 1) := by decide +kernel
theorem dL_writes_172 : decode cL_writes 172 = .ok (.aload 7, 2) := by decide +kernel
theorem dL_writes_174 : decode cL_writes 174 = .ok (.iconst 0, 1) := by decide +kernel
theorem dL_writes_175 : decode cL_writes 175 = .ok (.iaload, 1) := by decide +kernel
theorem dL_writes_176 : decode cL_writes 176 = .ok (.aload 7, 2) := by decide +kernel
theorem dL_writes_178 : decode cL_writes 178 = .ok (.iconst 1, 1) := by decide +kernel
theorem dL_writes_179 : decode cL_writes 179 = .ok (.iaload, 1) := by decide +kernel
theorem dL_writes_180 : decode cL_writes 180 = .ok (.aload 7, 2) := by decide +kernel
theorem dL_writes_182 : decode cL_writes 182 = .ok (.iconst 2, 1) := by decide +kernel
theorem dL_writes_183 : decode cL_writes 183 = .ok (.iaload, 1) := by decide +kernel
theorem dL_writes_184 : decode cL_writes 184 = .ok (.aload 7, 2) := by decide +kernel
theorem dL_writes_186 : decode cL_writes 186 = .ok (.iconst 3, 1) := by decide +kernel
theorem dL_writes_187 : decode cL_writes 187 = .ok (.iaload, 1) := by decide +kernel
theorem dL_writes_188 : decode cL_writes 188 = .ok (.aload 7, 2) := by decide +kernel
theorem dL_writes_190 : decode cL_writes 190 = .ok (.iconst 4, 1) := by decide +kernel
theorem dL_writes_191 : decode cL_writes 191 = .ok (.iaload, 1) := by decide +kernel
theorem dL_writes_192 : decode cL_writes 192 = .ok (.invokestatic 172, 3) := by decide +kernel
theorem dL_writes_195 : decode cL_writes 195 = .ok (.lreturn, 1) := by decide +kernel
theorem dL_isOne_0 : decode cL_isOne 0 = .ok (.aload_n 0, 1) := by decide +kernel
theorem dL_isOne_1 : decode cL_isOne 1 = .ok (.iload_n 1, 1) := by decide +kernel
theorem dL_isOne_2 : decode cL_isOne 2 = .ok (.invokestatic 175, 3) := by decide +kernel
theorem dL_isOne_5 : decode cL_isOne 5 = .ok (.lstore 4, 2) := by decide +kernel
theorem dL_isOne_7 : decode cL_isOne 7 = .ok (.lload 4, 2) := by decide +kernel
theorem dL_isOne_9 : decode cL_isOne 9 = .ok (.ldc2_w 177, 3) := by decide +kernel
theorem dL_isOne_12 : decode cL_isOne 12 = .ok (.lcmp, 1) := by decide +kernel
theorem dL_isOne_13 : decode cL_isOne 13 = .ok (.ifCond .ne 7, 3) := by decide +kernel
theorem dL_isOne_16 : decode cL_isOne 16 = .ok (.iconst 1, 1) := by decide +kernel
theorem dL_isOne_17 : decode cL_isOne 17 = .ok (.goto 4, 3) := by decide +kernel
theorem dL_isOne_20 : decode cL_isOne 20 = .ok (.iconst 0, 1) := by decide +kernel
theorem dL_isOne_21 : decode cL_isOne 21 = .ok (.istore 6, 2) := by decide +kernel
theorem dL_isOne_23 : decode cL_isOne 23 = .ok (.iload 6, 2) := by decide +kernel
theorem dL_isOne_25 : decode cL_isOne 25 = .ok (.ifCond .ne 14, 3) := by decide +kernel
theorem dL_isOne_28 : decode cL_isOne 28 = .ok (.lload 4, 2) := by decide +kernel
theorem dL_isOne_30 : decode cL_isOne 30 = .ok (.ldc2_w 179, 3) := by decide +kernel
theorem dL_isOne_33 : decode cL_isOne 33 = .ok (.lcmp, 1) := by decide +kernel
theorem dL_isOne_34 : decode cL_isOne 34 = .ok (.ifCond .eq 5, 3) := by decide +kernel
theorem dL_isOne_37 : decode cL_isOne 37 = .ok (.iconst 0, 1) := by decide +kernel
theorem dL_isOne_38 : decode cL_isOne 38 = .ok (.ireturn, 1) := by decide +kernel
theorem dL_isOne_39 : decode cL_isOne 39 = .ok (.aload_n 0, 1) := by decide +kernel
theorem dL_isOne_40 : decode cL_isOne 40 = .ok (.iload_n 1, 1) := by decide +kernel
theorem dL_isOne_41 : decode cL_isOne 41 = .ok (.invokestatic 181, 3) := by decide +kernel
theorem dL_isOne_44 : decode cL_isOne 44 = .ok (.lstore 7, 2) := by decide +kernel
theorem dL_isOne_46 : decode cL_isOne 46 = .ok (.lload 7, 2) := by decide +kernel
theorem dL_isOne_48 : decode cL_isOne 48 = .ok (.lconst 0, 1) := by decide +kernel
theorem dL_isOne_49 : decode cL_isOne 49 = .ok (.lcmp, 1) := by decide +kernel
theorem dL_isOne_50 : decode cL_isOne 50 = .ok (.ifCond .ge 21, 3) := by decide +kernel
theorem dL_isOne_53 : decode cL_isOne 53 = .ok (.aload_n 0, 1) := by decide +kernel
theorem dL_isOne_54 : decode cL_isOne 54 = .ok (.iload_n 1, 1) := by decide +kernel
theorem dL_isOne_55 : decode cL_isOne 55 = .ok (.invokestatic 183, 3) := by decide +kernel
theorem dL_isOne_58 : decode cL_isOne 58 = .ok (.ldc2_w 185, 3) := by decide +kernel
theorem dL_isOne_61 : decode cL_isOne 61 = .ok (.lcmp, 1) := by decide +kernel
theorem dL_isOne_62 : decode cL_isOne 62 = .ok (.ifCond .le 7, 3) := by decide +kernel
theorem dL_isOne_65 : decode cL_isOne 65 = .ok (.iconst 1, 1) := by decide +kernel
theorem dL_isOne_66 : decode cL_isOne 66 = .ok (.goto 4, 3) := by decide +kernel
theorem dL_isOne_69 : decode cL_isOne 69 = .ok (.iconst 0, 1) := by decide +kernel
theorem dL_isOne_70 : decode cL_isOne 70 = .ok (.ireturn, 1) := by decide +kernel
theorem dL_isOne_71 : decode cL_isOne 71 = .ok (.lload 7, 2) := by decide +kernel
theorem dL_isOne_73 : decode cL_isOne 73 = .ok (.aload_n 0, 1) := by decide +kernel
theorem dL_isOne_74 : decode cL_isOne 74 = .ok (.iload_n 1, 1) := by decide +kernel
theorem dL_isOne_75 : decode cL_isOne 75 = .ok (.invokestatic 183, 3) := by decide +kernel
theorem dL_isOne_78 : decode cL_isOne 78 = .ok (.lcmp, 1) := by decide +kernel
theorem dL_isOne_79 : decode cL_isOne 79 = .ok (.ifCond .ne 35, 3) := by decide +kernel
theorem dL_isOne_82 : decode cL_isOne 82 = .ok (.aload_n 0, 1) := by decide +kernel
theorem dL_isOne_83 : decode cL_isOne 83 = .ok (.iload_n 1, 1) := by decide +kernel
theorem dL_isOne_84 : decode cL_isOne 84 = .ok (.iload 6, 2) := by decide +kernel
theorem dL_isOne_86 : decode cL_isOne 86 = .ok (.invokestatic 187, 3) := by decide +kernel
theorem dL_isOne_89 : decode cL_isOne 89 = .ok (.lconst 0, 1) := by decide +kernel
theorem dL_isOne_90 : decode cL_isOne 90 = .ok (.lcmp, 1) := by decide +kernel
theorem dL_isOne_91 : decode cL_isOne 91 = .ok (.ifCond .ne 23, 3) := by decide +kernel
theorem dL_isOne_94 : decode cL_isOne 94 = .ok (.aload_n 0, 1) := by decide +kernel
theorem dL_isOne_95 : decode cL_isOne 95 = .ok (.iload_n 1, 1) := by decide +kernel
theorem dL_isOne_96 : decode cL_isOne 96 = .ok (.iload 6, 2) := by decide +kernel
theorem dL_isOne_98 : decode cL_isOne 98 = .ok (.ifCond .ne 7, 3) := by decide +kernel
theorem dL_isOne_101 : decode cL_isOne 101 = .ok (.iconst 1, 1) := by decide +kernel
theorem dL_isOne_102 : decode cL_isOne 102 = .ok (.goto 4, 3) := by decide +kernel
theorem dL_isOne_105 : decode cL_isOne 105 = .ok (.iconst 0, 1) := by decide +kernel
theorem dL_isOne_106 : decode cL_isOne 106 = .ok (.invokestatic 187, 3) := by decide +kernel
theorem dL_isOne_109 : decode cL_isOne 109 = .ok (.lconst 1, 1) := by decide +kernel
theorem dL_isOne_110 : decode cL_isOne 110 = .ok (.lcmp, 1) := by decide +kernel
theorem dL_isOne_111 : decode cL_isOne 111 = .ok (.ifCond .ge 5, 3) := by decide +kernel
theorem dL_isOne_114 : decode cL_isOne 114 = .ok (.iconst 0, 1) := by decide +kernel
theorem dL_isOne_115 : decode cL_isOne 115 = .ok (.ireturn, 1) := by decide +kernel
theorem dL_isOne_116 : decode cL_isOne 116 = .ok (.iconst 0, 1) := by decide +kernel
theorem dL_isOne_117 : decode cL_isOne 117 = .ok (.istore 9, 2) := by decide +kernel
theorem dL_isOne_119 : decode cL_isOne 119 = .ok (.iload 9, 2) := by decide +kernel
theorem dL_isOne_121 : decode cL_isOne 121 = .ok (.bipush 6, 2) := by decide +kernel
theorem dL_isOne_123 : decode cL_isOne 123 = .ok (.if_icmp .ge 94, 3) := by decide +kernel
theorem dL_isOne_126 : decode cL_isOne 126 = .ok (.aload_n 2, 1) := by decide +kernel
theorem dL_isOne_127 : decode cL_isOne 127 = .ok (.iload_n 3, 1) := by decide +kernel
theorem dL_isOne_128 : decode cL_isOne 128 = .ok (.iconst 2, 1) := by decide +kernel
theorem dL_isOne_129 : decode cL_isOne 129 = .ok (.iload 9, 2) := by decide +kernel
theorem dL_isOne_131 : decode cL_isOne 131 = .ok (.imul, 1) := by decide +kernel
theorem dL_isOne_132 : decode cL_isOne 132 = .ok (.iadd, 1) := by decide +kernel
theorem dL_isOne_133 : decode cL_isOne 133 = .ok (.bipush 12, 2) := by decide +kernel
theorem dL_isOne_135 : decode cL_isOne 135 = .ok (.invokestatic 157, 3) := by decide +kernel
theorem dL_isOne_138 : decode cL_isOne 138 = .ok (.iconst 3, 1) := by decide +kernel
theorem dL_isOne_139 : decode cL_isOne 139 = .ok (.isub, 1) := by decide +kernel
theorem dL_isOne_140 : decode cL_isOne 140 = .ok (.istore 10, 2) := by decide +kernel
theorem dL_isOne_142 : decode cL_isOne 142 = .ok (.lload 7, 2) := by decide +kernel
theorem dL_isOne_144 : decode cL_isOne 144 = .ok (.lconst 0, 1) := by decide +kernel
theorem dL_isOne_145 : decode cL_isOne 145 = .ok (.lcmp, 1) := by decide +kernel
theorem dL_isOne_146 : decode cL_isOne 146 = .ok (.ifCond .le 35, 3) := by decide +kernel
theorem dL_isOne_149 : decode cL_isOne 149 = .ok (.iload 9, 2) := by decide +kernel
theorem dL_isOne_151 : decode cL_isOne 151 = .ok (.iconst 3, 1) := by decide +kernel
theorem dL_isOne_152 : decode cL_isOne 152 = .ok (.irem, 1) := by decide +kernel
theorem dL_isOne_153 : decode cL_isOne 153 = .ok (.iconst 2, 1) := by decide +kernel
theorem dL_isOne_154 : decode cL_isOne 154 = .ok (.if_icmp .ge 27, 3) := by decide +kernel
theorem dL_isOne_157 : decode cL_isOne 157 = .ok (.aload_n 0, 1) := by decide +kernel
theorem dL_isOne_158 : decode cL_isOne 158 = .ok (.aload_n 2, 1) := by decide +kernel
theorem dL_isOne_159 : decode cL_isOne 159 = .ok (.iload_n 3, 1) := by decide +kernel
theorem dL_isOne_160 : decode cL_isOne 160 = .ok (.iconst 2, 1) := by decide +kernel
theorem dL_isOne_161 : decode cL_isOne 161 = .ok (.iload 9, 2) := by decide +kernel
theorem dL_isOne_163 : decode cL_isOne 163 = .ok (.imul, 1) := by decide +kernel
theorem dL_isOne_164 : decode cL_isOne 164 = .ok (.iadd, 1) := by decide +kernel
theorem dL_isOne_165 : decode cL_isOne 165 = .ok (.iconst 1, 1) := by decide +kernel
theorem dL_isOne_166 : decode cL_isOne 166 = .ok (.iadd, 1) := by decide +kernel
theorem dL_isOne_167 : decode cL_isOne 167 = .ok (.lload 7, 2) := by decide +kernel
theorem dL_isOne_169 : decode cL_isOne 169 = .ok (.l2i, 1) := by decide +kernel
theorem dL_isOne_170 : decode cL_isOne 170 = .ok (.invokestatic 157, 3) := by decide +kernel
theorem dL_isOne_173 : decode cL_isOne 173 = .ok (.iload 10, 2) := by decide +kernel
theorem dL_isOne_175 : decode cL_isOne 175 = .ok (.invokestatic 190, 3) := by decide +kernel
theorem dL_isOne_178 : decode cL_isOne 178 = .ok (.goto 9, 3) := by decide +kernel
theorem dL_isOne_181 : decode cL_isOne 181 = .ok (.aload_n 0, 1) := by decide +kernel
theorem dL_isOne_182 : decode cL_isOne 182 = .ok (.iload 10, 2) := by decide +kernel
theorem dL_isOne_184 : decode cL_isOne 184 = .ok (.invokestatic 193, 3) := by decide +kernel
theorem dL_isOne_187 : decode cL_isOne 187 = .ok (.lstore 11, 2) := by decide +kernel
theorem dL_isOne_189 : decode cL_isOne 189 = .ok (.aload_n 0, 1) := by decide +kernel
theorem dL_isOne_190 : decode cL_isOne 190 = .ok (.iload_n 1, 1) := by decide +kernel
theorem dL_isOne_191 : decode cL_isOne 191 = .ok (.iload 6, 2) := by decide +kernel
theorem dL_isOne_193 : decode cL_isOne 193 = .ok (.ifCond .ne 7, 3) := by decide +kernel
theorem dL_isOne_196 : decode cL_isOne 196 = .ok (.iconst 1, 1) := by decide +kernel
theorem dL_isOne_197 : decode cL_isOne 197 = .ok (.goto 4, 3) := by decide +kernel
theorem dL_isOne_200 : decode cL_isOne 200 = .ok (.iconst 0, 1) := by decide +kernel
theorem dL_isOne_201 : decode cL_isOne 201 = .ok (.invokestatic 187, 3) := by decide +kernel
theorem dL_isOne_204 : decode cL_isOne 204 = .ok (.lconst 1, 1) := by decide +kernel
theorem dL_isOne_205 : decode cL_isOne 205 = .ok (.lcmp, 1) := by decide +kernel
theorem dL_isOne_206 : decode cL_isOne 206 = .ok (.ifCond .ge 5, 3) := by decide +kernel
theorem dL_isOne_209 : decode cL_isOne 209 = .ok (.iconst 0, 1) := by decide +kernel
theorem dL_isOne_210 : decode cL_isOne 210 = .ok (.ireturn, 1) := by decide +kernel
theorem dL_isOne_211 : decode cL_isOne 211 = .ok (.iinc 9 1, 3) := by decide +kernel
theorem dL_isOne_214 : decode cL_isOne 214 = .ok (.goto (-95), 3) := by decide +kernel
theorem dL_isOne_217 : decode cL_isOne 217 = .ok (.aload_n 0, 1) := by decide +kernel
theorem dL_isOne_218 : decode cL_isOne 218 = .ok (.invokestatic 195, 3) := by decide +kernel
theorem dL_isOne_221 : decode cL_isOne 221 = .ok (.pop2, 1) := by decide +kernel
theorem dL_isOne_222 : decode cL_isOne 222 = .ok (.iconst 0, 1) := by decide +kernel
theorem dL_isOne_223 : decode cL_isOne 223 = .ok (.istore 9, 2) := by decide +kernel
theorem dL_isOne_225 : decode cL_isOne 225 = .ok (.iload 9, 2) := by decide +kernel
theorem dL_isOne_227 : decode cL_isOne 227 = .ok (.iconst 4, 1) := by decide +kernel
theorem dL_isOne_228 : decode cL_isOne 228 = .ok (.if_icmp .ge 51, 3) := by decide +kernel
theorem dL_isOne_231 : decode cL_isOne 231 = .ok (.aload_n 0, 1) := by decide +kernel
theorem dL_isOne_232 : decode cL_isOne 232 = .ok (.iload_n 1, 1) := by decide +kernel
theorem dL_isOne_233 : decode cL_isOne 233 = .ok (.iload 6, 2) := by decide +kernel
theorem dL_isOne_235 : decode cL_isOne 235 = .ok (.ifCond .ne 7, 3) := by decide +kernel
theorem dL_isOne_238 : decode cL_isOne 238 = .ok (.iconst 1, 1) := by decide +kernel
theorem dL_isOne_239 : decode cL_isOne 239 = .ok (.goto 4, 3) := by decide +kernel
theorem dL_isOne_242 : decode cL_isOne 242 = .ok (.iconst 0, 1) := by decide +kernel
theorem dL_isOne_243 : decode cL_isOne 243 = .ok (.invokestatic 187, 3) := by decide +kernel
theorem dL_isOne_246 : decode cL_isOne 246 = .ok (.lconst 1, 1) := by decide +kernel
theorem dL_isOne_247 : decode cL_isOne 247 = .ok (.lcmp, 1) := by decide +kernel
theorem dL_isOne_248 : decode cL_isOne 248 = .ok (.ifCond .ge 5, 3) := by decide +kernel
theorem dL_isOne_251 : decode cL_isOne 251 = .ok (.iconst 0, 1) := by decide +kernel
theorem dL_isOne_252 : decode cL_isOne 252 = .ok (.ireturn, 1) := by decide +kernel
theorem dL_isOne_253 : decode cL_isOne 253 = .ok (.aload_n 0, 1) := by decide +kernel
theorem dL_isOne_254 : decode cL_isOne 254 = .ok (.aload_n 2, 1) := by decide +kernel
theorem dL_isOne_255 : decode cL_isOne 255 = .ok (.iload_n 3, 1) := by decide +kernel
theorem dL_isOne_256 : decode cL_isOne 256 = .ok (.bipush 20, 2) := by decide +kernel
theorem dL_isOne_258 : decode cL_isOne 258 = .ok (.iadd, 1) := by decide +kernel
theorem dL_isOne_259 : decode cL_isOne 259 = .ok (.iload 9, 2) := by decide +kernel
theorem dL_isOne_261 : decode cL_isOne 261 = .ok (.iadd, 1) := by decide +kernel
theorem dL_isOne_262 : decode cL_isOne 262 = .ok (.bipush 10, 2) := by decide +kernel
theorem dL_isOne_264 : decode cL_isOne 264 = .ok (.invokestatic 157, 3) := by decide +kernel
theorem dL_isOne_267 : decode cL_isOne 267 = .ok (.iconst 1, 1) := by decide +kernel
theorem dL_isOne_268 : decode cL_isOne 268 = .ok (.isub, 1) := by decide +kernel
theorem dL_isOne_269 : decode cL_isOne 269 = .ok (.invokestatic 193, 3) := by decide +kernel
theorem dL_isOne_272 : decode cL_isOne 272 = .ok (.pop2, 1) := by decide +kernel
theorem dL_isOne_273 : decode cL_isOne 273 = .ok (.iinc 9 1, 3) := by decide +kernel
theorem dL_isOne_276 : decode cL_isOne 276 = .ok (.goto (-51), 3) := by decide +kernel
theorem dL_isOne_279 : decode cL_isOne 279 = .ok (.iconst 1, 1) := by decide +kernel
theorem dL_isOne_280 : decode cL_isOne 280 = .ok (.ireturn, 1) := by decide +kernel
theorem dL_areOne_0 : decode cL_areOne 0 = .ok (.iconst 0, 1) := by decide +kernel
theorem dL_areOne_1 : decode cL_areOne 1 = .ok (.istore_n 3, 1) := by decide +kernel
theorem dL_areOne_2 : decode cL_areOne 2 = .ok (.iload_n 3, 1) := by decide +kernel
theorem dL_areOne_3 : decode cL_areOne 3 = .ok (.i2l, 1) := by decide +kernel
theorem dL_areOne_4 : decode cL_areOne 4 = .ok (.aload_n 0, 1) := by decide +kernel
theorem dL_areOne_5 : decode cL_areOne 5 = .ok (.invokestatic 198, 3) := by decide +kernel
theorem dL_areOne_8 : decode cL_areOne 8 = .ok (.lcmp, 1) := by decide +kernel
theorem dL_areOne_9 : decode cL_areOne 9 = .ok (.ifCond .ge 26, 3) := by decide +kernel
theorem dL_areOne_12 : decode cL_areOne 12 = .ok (.aload_n 0, 1) := by decide +kernel
theorem dL_areOne_13 : decode cL_areOne 13 = .ok (.iload_n 3, 1) := by decide +kernel
theorem dL_areOne_14 : decode cL_areOne 14 = .ok (.aload_n 1, 1) := by decide +kernel
theorem dL_areOne_15 : decode cL_areOne 15 = .ok (.iload_n 2, 1) := by decide +kernel
theorem dL_areOne_16 : decode cL_areOne 16 = .ok (.bipush 7, 2) := by decide +kernel
theorem dL_areOne_18 : decode cL_areOne 18 = .ok (.iload_n 3, 1) := by decide +kernel
theorem dL_areOne_19 : decode cL_areOne 19 = .ok (.imul, 1) := by decide +kernel
theorem dL_areOne_20 : decode cL_areOne 20 = .ok (.iadd, 1) := by decide +kernel
theorem dL_areOne_21 : decode cL_areOne 21 = .ok (.invokestatic 200, 3) := by decide +kernel
theorem dL_areOne_24 : decode cL_areOne 24 = .ok (.ifCond .ne 5, 3) := by decide +kernel
theorem dL_areOne_27 : decode cL_areOne 27 = .ok (.iconst 0, 1) := by decide +kernel
theorem dL_areOne_28 : decode cL_areOne 28 = .ok (.ireturn, 1) := by decide +kernel
theorem dL_areOne_29 : decode cL_areOne 29 = .ok (.iinc 3 1, 3) := by decide +kernel
theorem dL_areOne_32 : decode cL_areOne 32 = .ok (.goto (-30), 3) := by decide +kernel
theorem dL_areOne_35 : decode cL_areOne 35 = .ok (.iconst 1, 1) := by decide +kernel
theorem dL_areOne_36 : decode cL_areOne 36 = .ok (.ireturn, 1) := by decide +kernel
theorem dL_isAnew_0 : decode cL_isAnew 0 = .ok (.new 9, 3) := by decide +kernel
theorem dL_isAnew_3 : decode cL_isAnew 3 = .ok (.dup, 1) := by decide +kernel
theorem dL_isAnew_4 : decode cL_isAnew 4 = .ok (.invokespecial 204, 3) := by decide +kernel
theorem dL_isAnew_7 : decode cL_isAnew 7 = .ok (.astore_n 1, 1) := by decide +kernel
theorem dL_isAnew_8 : decode cL_isAnew 8 = .ok (.iconst 0, 1) := by decide +kernel
theorem dL_isAnew_9 : decode cL_isAnew 9 = .ok (.istore_n 2, 1) := by decide +kernel
theorem dL_isAnew_10 : decode cL_isAnew 10 = .ok (.iload_n 2, 1) := by decide +kernel
theorem dL_isAnew_11 : decode cL_isAnew 11 = .ok (.i2l, 1) := by decide +kernel
theorem dL_isAnew_12 : decode cL_isAnew 12 = .ok (.aload_n 0, 1) := by decide +kernel
theorem dL_isAnew_13 : decode cL_isAnew 13 = .ok (.invokestatic 198, 3) := by decide +kernel
theorem dL_isAnew_16 : decode cL_isAnew 16 = .ok (.lcmp, 1) := by decide +kernel
theorem dL_isAnew_17 : decode cL_isAnew 17 = .ok (.ifCond .ge 158, 3) := by decide +kernel
theorem dL_isAnew_20 : decode cL_isAnew 20 = .ok (.aload_n 1, 1) := by decide +kernel
theorem dL_isAnew_21 : decode cL_isAnew 21 = .ok (.aload_n 0, 1) := by decide +kernel
theorem dL_isAnew_22 : decode cL_isAnew 22 = .ok (.iload_n 2, 1) := by decide +kernel
theorem dL_isAnew_23 : decode cL_isAnew 23 = .ok (.invokestatic 161, 3) := by decide +kernel
theorem dL_isAnew_26 : decode cL_isAnew 26 = .ok (.l2i, 1) := by decide +kernel
theorem dL_isAnew_27 : decode cL_isAnew 27 = .ok (.i2c, 1) := by decide +kernel
theorem dL_isAnew_28 : decode cL_isAnew 28 = .ok (.aload_n 0, 1) := by decide +kernel
theorem dL_isAnew_29 : decode cL_isAnew 29 = .ok (.iload_n 2, 1) := by decide +kernel
theorem dL_isAnew_30 : decode cL_isAnew 30 = .ok (.invokestatic 164, 3) := by decide +kernel
theorem dL_isAnew_33 : decode cL_isAnew 33 = .ok (.l2i, 1) := by decide +kernel
theorem dL_isAnew_34 : decode cL_isAnew 34 = .ok (.aload_n 0, 1) := by decide +kernel
theorem dL_isAnew_35 : decode cL_isAnew 35 = .ok (.iload_n 2, 1) := by decide +kernel
theorem dL_isAnew_36 : decode cL_isAnew 36 = .ok (.invokestatic 205, 3) := by decide +kernel
theorem dL_isAnew_39 : decode cL_isAnew 39 = .ok (.l2i, 1) := by decide +kernel
theorem dL_isAnew_40 : decode cL_isAnew 40 = .ok (.invokestatic 207, 3) := by decide +kernel
theorem dL_isAnew_43 : decode cL_isAnew 43 = .ok (.iload_n 2, 1) := by decide +kernel
theorem dL_isAnew_44 : decode cL_isAnew 44 = .ok (.i2l, 1) := by decide +kernel
theorem dL_isAnew_45 : decode cL_isAnew 45 = .ok (.lcmp, 1) := by decide +kernel
theorem dL_isAnew_46 : decode cL_isAnew 46 = .ok (.ifCond .eq 5, 3) := by decide +kernel
theorem dL_isAnew_49 : decode cL_isAnew 49 = .ok (.iconst 0, 1) := by decide +kernel
theorem dL_isAnew_50 : decode cL_isAnew 50 = .ok (.ireturn, 1) := by decide +kernel
theorem dL_isAnew_51 : decode cL_isAnew 51 = .ok (.iconst 0, 1) := by decide +kernel
theorem dL_isAnew_52 : decode cL_isAnew 52 = .ok (.istore_n 3, 1) := by decide +kernel
theorem dL_isAnew_53 : decode cL_isAnew 53 = .ok (.iload_n 3, 1) := by decide +kernel
theorem dL_isAnew_54 : decode cL_isAnew 54 = .ok (.i2l, 1) := by decide +kernel
theorem dL_isAnew_55 : decode cL_isAnew 55 = .ok (.aload_n 0, 1) := by decide +kernel
theorem dL_isAnew_56 : decode cL_isAnew 56 = .ok (.iload_n 2, 1) := by decide +kernel
theorem dL_isAnew_57 : decode cL_isAnew 57 = .ok (.invokestatic 210, 3) := by decide +kernel
theorem dL_isAnew_60 : decode cL_isAnew 60 = .ok (.lcmp, 1) := by decide +kernel
theorem dL_isAnew_61 : decode cL_isAnew 61 = .ok (.ifCond .ge 64, 3) := by decide +kernel
theorem dL_isAnew_64 : decode cL_isAnew 64 = .ok (.aload_n 1, 1) := by decide +kernel
theorem dL_isAnew_65 : decode cL_isAnew 65 = .ok (.iload_n 2, 1) := by decide +kernel
theorem dL_isAnew_66 : decode cL_isAnew 66 = .ok (.aload_n 0, 1) := by decide +kernel
theorem dL_isAnew_67 : decode cL_isAnew 67 = .ok (.iload_n 2, 1) := by decide +kernel
theorem dL_isAnew_68 : decode cL_isAnew 68 = .ok (.iload_n 3, 1) := by decide +kernel
theorem dL_isAnew_69 : decode cL_isAnew 69 = .ok (.iconst 0, 1) := by decide +kernel
theorem dL_isAnew_70 : decode cL_isAnew 70 = .ok (.invokestatic 212, 3) := by decide +kernel
theorem dL_isAnew_73 : decode cL_isAnew 73 = .ok (.l2i, 1) := by decide +kernel
theorem dL_isAnew_74 : decode cL_isAnew 74 = .ok (.aload_n 0, 1) := by decide +kernel
theorem dL_isAnew_75 : decode cL_isAnew 75 = .ok (.iload_n 2, 1) := by decide +kernel
theorem dL_isAnew_76 : decode cL_isAnew 76 = .ok (.iload_n 3, 1) := by decide +kernel
theorem dL_isAnew_77 : decode cL_isAnew 77 = .ok (.iconst 1, 1) := by decide +kernel
theorem dL_isAnew_78 : decode cL_isAnew 78 = .ok (.invokestatic 212, 3) := by decide +kernel
theorem dL_isAnew_81 : decode cL_isAnew 81 = .ok (.l2i, 1) := by decide +kernel
theorem dL_isAnew_82 : decode cL_isAnew 82 = .ok (.aload_n 0, 1) := by decide +kernel
theorem dL_isAnew_83 : decode cL_isAnew 83 = .ok (.iload_n 2, 1) := by decide +kernel
theorem dL_isAnew_84 : decode cL_isAnew 84 = .ok (.iload_n 3, 1) := by decide +kernel
theorem dL_isAnew_85 : decode cL_isAnew 85 = .ok (.iconst 2, 1) := by decide +kernel
theorem dL_isAnew_86 : decode cL_isAnew 86 = .ok (.invokestatic 212, 3) := by decide +kernel
theorem dL_isAnew_89 : decode cL_isAnew 89 = .ok (.l2i, 1) := by decide +kernel
theorem dL_isAnew_90 : decode cL_isAnew 90 = .ok (.aload_n 0, 1) := by decide +kernel
theorem dL_isAnew_91 : decode cL_isAnew 91 = .ok (.iload_n 2, 1) := by decide +kernel
theorem dL_isAnew_92 : decode cL_isAnew 92 = .ok (.iload_n 3, 1) := by decide +kernel
theorem dL_isAnew_93 : decode cL_isAnew 93 = .ok (.iconst 3, 1) := by decide +kernel
theorem dL_isAnew_94 : decode cL_isAnew 94 = .ok (.invokestatic 212, 3) := by decide +kernel
theorem dL_isAnew_97 : decode cL_isAnew 97 = .ok (.l2i, 1) := by decide +kernel
theorem dL_isAnew_98 : decode cL_isAnew 98 = .ok (.aload_n 0, 1) := by decide +kernel
theorem dL_isAnew_99 : decode cL_isAnew 99 = .ok (.iload_n 2, 1) := by decide +kernel
theorem dL_isAnew_100 : decode cL_isAnew 100 = .ok (.iload_n 3, 1) := by decide +kernel
theorem dL_isAnew_101 : decode cL_isAnew 101 = .ok (.iconst 4, 1) := by decide +kernel
theorem dL_isAnew_102 : decode cL_isAnew 102 = .ok (.invokestatic 212, 3) := by decide +kernel
theorem dL_isAnew_105 : decode cL_isAnew 105 = .ok (.l2i, 1) := by decide +kernel
theorem dL_isAnew_106 : decode cL_isAnew 106 = .ok (.invokestatic 169, 3) := by decide +kernel
theorem dL_isAnew_109 : decode cL_isAnew 109 = .ok (.iload_n 3, 1) := by decide +kernel
theorem dL_isAnew_110 : decode cL_isAnew 110 = .ok (.iconst 1, 1) := by decide +kernel
theorem dL_isAnew_111 : decode cL_isAnew 111 = .ok (.iadd, 1) := by decide +kernel
theorem dL_isAnew_112 : decode cL_isAnew 112 = .ok (.i2l, 1) := by decide +kernel
theorem dL_isAnew_113 : decode cL_isAnew 113 = .ok (.lcmp, 1) := by decide +kernel
theorem dL_isAnew_114 : decode cL_isAnew 114 = .ok (.ifCond .eq 5, 3) := by decide +kernel
theorem dL_isAnew_117 : decode cL_isAnew 117 = .ok (.iconst 0, 1) := by decide +kernel
theorem dL_isAnew_118 : decode cL_isAnew 118 = .ok (.ireturn, 1) := by decide +kernel
theorem dL_isAnew_119 : decode cL_isAnew 119 = .ok (.iinc 3 1, 3) := by decide +kernel
theorem dL_isAnew_122 : decode cL_isAnew 122 = .ok (.goto (-69), 3) := by decide +kernel
theorem dL_isAnew_125 : decode cL_isAnew 125 = .ok (.aload_n 1, 1) := by decide +kernel
theorem dL_isAnew_126 : decode cL_isAnew 126 = .ok (.iload_n 2, 1) := by decide +kernel
theorem dL_isAnew_127 : decode cL_isAnew 127 = .ok (.invokestatic 175, 3) := by decide +kernel
theorem dL_isAnew_130 : decode cL_isAnew 130 = .ok (.aload_n 0, 1) := by decide +kernel
theorem dL_isAnew_131 : decode cL_isAnew 131 = .ok (.iload_n 2, 1) := by decide +kernel
theorem dL_isAnew_132 : decode cL_isAnew 132 = .ok (.invokestatic 175, 3) := by decide +kernel
theorem dL_isAnew_135 : decode cL_isAnew 135 = .ok (.lcmp, 1) := by decide +kernel
theorem dL_isAnew_136 : decode cL_isAnew 136 = .ok (.ifCond .ne 31, 3) := by decide +kernel
theorem dL_isAnew_139 : decode cL_isAnew 139 = .ok (.aload_n 1, 1) := by decide +kernel
theorem dL_isAnew_140 : decode cL_isAnew 140 = .ok (.iload_n 2, 1) := by decide +kernel
theorem dL_isAnew_141 : decode cL_isAnew 141 = .ok (.invokestatic 215, 3) := by decide +kernel
theorem dL_isAnew_144 : decode cL_isAnew 144 = .ok (.aload_n 0, 1) := by decide +kernel
theorem dL_isAnew_145 : decode cL_isAnew 145 = .ok (.iload_n 2, 1) := by decide +kernel
theorem dL_isAnew_146 : decode cL_isAnew 146 = .ok (.invokestatic 215, 3) := by decide +kernel
theorem dL_isAnew_149 : decode cL_isAnew 149 = .ok (.lcmp, 1) := by decide +kernel
theorem dL_isAnew_150 : decode cL_isAnew 150 = .ok (.ifCond .ne 17, 3) := by decide +kernel
theorem dL_isAnew_153 : decode cL_isAnew 153 = .ok (.aload_n 1, 1) := by decide +kernel
theorem dL_isAnew_154 : decode cL_isAnew 154 = .ok (.iload_n 2, 1) := by decide +kernel
theorem dL_isAnew_155 : decode cL_isAnew 155 = .ok (.invokestatic 217, 3) := by decide +kernel
theorem dL_isAnew_158 : decode cL_isAnew 158 = .ok (.aload_n 0, 1) := by decide +kernel
theorem dL_isAnew_159 : decode cL_isAnew 159 = .ok (.iload_n 2, 1) := by decide +kernel
theorem dL_isAnew_160 : decode cL_isAnew 160 = .ok (.invokestatic 217, 3) := by decide +kernel
theorem dL_isAnew_163 : decode cL_isAnew 163 = .ok (.lcmp, 1) := by decide +kernel
theorem dL_isAnew_164 : decode cL_isAnew 164 = .ok (.ifCond .eq 5, 3) := by decide +kernel
theorem dL_isAnew_167 : decode cL_isAnew 167 = .ok (.iconst 0, 1) := by decide +kernel
theorem dL_isAnew_168 : decode cL_isAnew 168 = .ok (.ireturn, 1) := by decide +kernel
theorem dL_isAnew_169 : decode cL_isAnew 169 = .ok (.iinc 2 1, 3) := by decide +kernel
theorem dL_isAnew_172 : decode cL_isAnew 172 = .ok (.goto (-162), 3) := by decide +kernel
theorem dL_isAnew_175 : decode cL_isAnew 175 = .ok (.aload_n 1, 1) := by decide +kernel
theorem dL_isAnew_176 : decode cL_isAnew 176 = .ok (.invokestatic 219, 3) := by decide +kernel
theorem dL_isAnew_179 : decode cL_isAnew 179 = .ok (.aload_n 0, 1) := by decide +kernel
theorem dL_isAnew_180 : decode cL_isAnew 180 = .ok (.invokestatic 219, 3) := by decide +kernel
theorem dL_isAnew_183 : decode cL_isAnew 183 = .ok (.lcmp, 1) := by decide +kernel
theorem dL_isAnew_184 : decode cL_isAnew 184 = .ok (.ifCond .ne 7, 3) := by decide +kernel
theorem dL_isAnew_187 : decode cL_isAnew 187 = .ok (.iconst 1, 1) := by decide +kernel
theorem dL_isAnew_188 : decode cL_isAnew 188 = .ok (.goto 4, 3) := by decide +kernel
theorem dL_isAnew_191 : decode cL_isAnew 191 = .ok (.iconst 0, 1) := by decide +kernel
theorem dL_isAnew_192 : decode cL_isAnew 192 = .ok (.ireturn, 1) := by decide +kernel
theorem dL_isCarried_0 : decode cL_isCarried 0 = .ok (.aload_n 0, 1) := by decide +kernel
theorem dL_isCarried_1 : decode cL_isCarried 1 = .ok (.iload_n 1, 1) := by decide +kernel
theorem dL_isCarried_2 : decode cL_isCarried 2 = .ok (.iload_n 2, 1) := by decide +kernel
theorem dL_isCarried_3 : decode cL_isCarried 3 = .ok (.invokestatic 221, 3) := by decide +kernel
theorem dL_isCarried_6 : decode cL_isCarried 6 = .ok (.lstore_n 3, 1) := by decide +kernel
theorem dL_isCarried_7 : decode cL_isCarried 7 = .ok (.lload_n 3, 1) := by decide +kernel
theorem dL_isCarried_8 : decode cL_isCarried 8 = .ok (.lconst 0, 1) := by decide +kernel
theorem dL_isCarried_9 : decode cL_isCarried 9 = .ok (.lcmp, 1) := by decide +kernel
theorem dL_isCarried_10 : decode cL_isCarried 10 = .ok (.ifCond .ge 25, 3) := by decide +kernel
theorem dL_isCarried_13 : decode cL_isCarried 13 = .ok (.lload_n 3, 1) := by decide +kernel
theorem dL_isCarried_14 : decode cL_isCarried 14 = .ok (.ldc2_w 32, 3) := by decide +kernel
theorem dL_isCarried_17 : decode cL_isCarried 17 = .ok (.lcmp, 1) := by decide +kernel
theorem dL_isCarried_18 : decode cL_isCarried 18 = .ok (.ifCond .eq 11, 3) := by decide +kernel
theorem dL_isCarried_21 : decode cL_isCarried 21 = .ok (.lload_n 3, 1) := by decide +kernel
theorem dL_isCarried_22 : decode cL_isCarried 22 = .ok (.ldc2_w 34, 3) := by decide +kernel
theorem dL_isCarried_25 : decode cL_isCarried 25 = .ok (.lcmp, 1) := by decide +kernel
theorem dL_isCarried_26 : decode cL_isCarried 26 = .ok (.ifCond .ne 7, 3) := by decide +kernel
theorem dL_isCarried_29 : decode cL_isCarried 29 = .ok (.iconst 1, 1) := by decide +kernel
theorem dL_isCarried_30 : decode cL_isCarried 30 = .ok (.goto 4, 3) := by decide +kernel
theorem dL_isCarried_33 : decode cL_isCarried 33 = .ok (.iconst 0, 1) := by decide +kernel
theorem dL_isCarried_34 : decode cL_isCarried 34 = .ok (.ireturn, 1) := by decide +kernel
theorem dL_isCarried_35 : decode cL_isCarried 35 = .ok (.aload_n 0, 1) := by decide +kernel
theorem dL_isCarried_36 : decode cL_isCarried 36 = .ok (.iload_n 1, 1) := by decide +kernel
theorem dL_isCarried_37 : decode cL_isCarried 37 = .ok (.invokestatic 175, 3) := by decide +kernel
theorem dL_isCarried_40 : decode cL_isCarried 40 = .ok (.lstore 5, 2) := by decide +kernel
theorem dL_isCarried_42 : decode cL_isCarried 42 = .ok (.lload_n 3, 1) := by decide +kernel
theorem dL_isCarried_43 : decode cL_isCarried 43 = .ok (.aload_n 0, 1) := by decide +kernel
theorem dL_isCarried_44 : decode cL_isCarried 44 = .ok (.invokestatic 198, 3) := by decide +kernel
theorem dL_isCarried_47 : decode cL_isCarried 47 = .ok (.lconst 1, 1) := by decide +kernel
theorem dL_isCarried_48 : decode cL_isCarried 48 = .ok (.lsub, 1) := by decide +kernel
theorem dL_isCarried_49 : decode cL_isCarried 49 = .ok (.lcmp, 1) := by decide +kernel
theorem dL_isCarried_50 : decode cL_isCarried 50 = .ok (.ifCond .ne 27, 3) := by decide +kernel
theorem dL_isCarried_53 : decode cL_isCarried 53 = .ok (.aload_n 0, 1) := by decide +kernel
theorem dL_isCarried_54 : decode cL_isCarried 54 = .ok (.lload_n 3, 1) := by decide +kernel
theorem dL_isCarried_55 : decode cL_isCarried 55 = .ok (.l2i, 1) := by decide +kernel
theorem dL_isCarried_56 : decode cL_isCarried 56 = .ok (.invokestatic 224, 3) := by decide +kernel
theorem dL_isCarried_59 : decode cL_isCarried 59 = .ok (.iload_n 1, 1) := by decide +kernel
theorem dL_isCarried_60 : decode cL_isCarried 60 = .ok (.i2l, 1) := by decide +kernel
theorem dL_isCarried_61 : decode cL_isCarried 61 = .ok (.lcmp, 1) := by decide +kernel
theorem dL_isCarried_62 : decode cL_isCarried 62 = .ok (.ifCond .ne 15, 3) := by decide +kernel
theorem dL_isCarried_65 : decode cL_isCarried 65 = .ok (.aload_n 0, 1) := by decide +kernel
theorem dL_isCarried_66 : decode cL_isCarried 66 = .ok (.lload_n 3, 1) := by decide +kernel
theorem dL_isCarried_67 : decode cL_isCarried 67 = .ok (.l2i, 1) := by decide +kernel
theorem dL_isCarried_68 : decode cL_isCarried 68 = .ok (.invokestatic 175, 3) := by decide +kernel
theorem dL_isCarried_71 : decode cL_isCarried 71 = .ok (.lload 5, 2) := by decide +kernel
theorem dL_isCarried_73 : decode cL_isCarried 73 = .ok (.lcmp, 1) := by decide +kernel
theorem dL_isCarried_74 : decode cL_isCarried 74 = .ok (.ifCond .eq 5, 3) := by decide +kernel
theorem dL_isCarried_77 : decode cL_isCarried 77 = .ok (.iconst 0, 1) := by decide +kernel
theorem dL_isCarried_78 : decode cL_isCarried 78 = .ok (.ireturn, 1) := by decide +kernel
theorem dL_isCarried_79 : decode cL_isCarried 79 = .ok (.aload_n 0, 1) := by decide +kernel
theorem dL_isCarried_80 : decode cL_isCarried 80 = .ok (.lload_n 3, 1) := by decide +kernel
theorem dL_isCarried_81 : decode cL_isCarried 81 = .ok (.l2i, 1) := by decide +kernel
theorem dL_isCarried_82 : decode cL_isCarried 82 = .ok (.invokestatic 226, 3) := by decide +kernel
theorem dL_isCarried_85 : decode cL_isCarried 85 = .ok (.lstore 7, 2) := by decide +kernel
theorem dL_isCarried_87 : decode cL_isCarried 87 = .ok (.lload 7, 2) := by decide +kernel
theorem dL_isCarried_89 : decode cL_isCarried 89 = .ok (.lconst 0, 1) := by decide +kernel
theorem dL_isCarried_90 : decode cL_isCarried 90 = .ok (.lcmp, 1) := by decide +kernel
theorem dL_isCarried_91 : decode cL_isCarried 91 = .ok (.ifCond .ge 33, 3) := by decide +kernel
theorem dL_isCarried_94 : decode cL_isCarried 94 = .ok (.lload 7, 2) := by decide +kernel
theorem dL_isCarried_96 : decode cL_isCarried 96 = .ok (.ldc2_w 22, 3) := by decide +kernel
theorem dL_isCarried_99 : decode cL_isCarried 99 = .ok (.lcmp, 1) := by decide +kernel
theorem dL_isCarried_100 : decode cL_isCarried 100 = .ok (.ifCond .ne 20, 3) := by decide +kernel
theorem dL_isCarried_103 : decode cL_isCarried 103 = .ok (.iload_n 2, 1) := by decide +kernel
theorem dL_isCarried_104 : decode cL_isCarried 104 = .ok (.bipush 102, 2) := by decide +kernel
theorem dL_isCarried_106 : decode cL_isCarried 106 = .ok (.if_icmp .ne 10, 3) := by decide +kernel
theorem dL_isCarried_109 : decode cL_isCarried 109 = .ok (.lload 5, 2) := by decide +kernel
theorem dL_isCarried_111 : decode cL_isCarried 111 = .ok (.lconst 0, 1) := by decide +kernel
theorem dL_isCarried_112 : decode cL_isCarried 112 = .ok (.lcmp, 1) := by decide +kernel
theorem dL_isCarried_113 : decode cL_isCarried 113 = .ok (.ifCond .ge 7, 3) := by decide +kernel
theorem dL_isCarried_116 : decode cL_isCarried 116 = .ok (.iconst 1, 1) := by decide +kernel
theorem dL_isCarried_117 : decode cL_isCarried 117 = .ok (.goto 36, 3) := by decide +kernel
theorem dL_isCarried_120 : decode cL_isCarried 120 = .ok (.iconst 0, 1) := by decide +kernel
theorem dL_isCarried_121 : decode cL_isCarried 121 = .ok (.goto 32, 3) := by decide +kernel
theorem dL_isCarried_124 : decode cL_isCarried 124 = .ok (.aload_n 0, 1) := by decide +kernel
theorem dL_isCarried_125 : decode cL_isCarried 125 = .ok (.iload_n 1, 1) := by decide +kernel
theorem dL_isCarried_126 : decode cL_isCarried 126 = .ok (.lload 5, 2) := by decide +kernel
theorem dL_isCarried_128 : decode cL_isCarried 128 = .ok (.ldc2_w 177, 3) := by decide +kernel
theorem dL_isCarried_131 : decode cL_isCarried 131 = .ok (.lcmp, 1) := by decide +kernel
theorem dL_isCarried_132 : decode cL_isCarried 132 = .ok (.ifCond .ne 7, 3) := by decide +kernel
theorem dL_isCarried_135 : decode cL_isCarried 135 = .ok (.iconst 1, 1) := by decide +kernel
theorem dL_isCarried_136 : decode cL_isCarried 136 = .ok (.goto 4, 3) := by decide +kernel
theorem dL_isCarried_139 : decode cL_isCarried 139 = .ok (.iconst 0, 1) := by decide +kernel
theorem dL_isCarried_140 : decode cL_isCarried 140 = .ok (.invokestatic 187, 3) := by decide +kernel
theorem dL_isCarried_143 : decode cL_isCarried 143 = .ok (.lconst 0, 1) := by decide +kernel
theorem dL_isCarried_144 : decode cL_isCarried 144 = .ok (.lcmp, 1) := by decide +kernel
theorem dL_isCarried_145 : decode cL_isCarried 145 = .ok (.ifCond .ne 7, 3) := by decide +kernel
theorem dL_isCarried_148 : decode cL_isCarried 148 = .ok (.iconst 1, 1) := by decide +kernel
theorem dL_isCarried_149 : decode cL_isCarried 149 = .ok (.goto 4, 3) := by decide +kernel
theorem dL_isCarried_152 : decode cL_isCarried 152 = .ok (.iconst 0, 1) := by decide +kernel
theorem dL_isCarried_153 : decode cL_isCarried 153 = .ok (.ireturn, 1) := by decide +kernel
theorem dL_law_0 : decode cL_law 0 = .ok (.new 9, 3) := by decide +kernel
theorem dL_law_3 : decode cL_law 3 = .ok (.dup, 1) := by decide +kernel
theorem dL_law_4 : decode cL_law 4 = .ok (.invokespecial 204, 3) := by decide +kernel
theorem dL_law_7 : decode cL_law 7 = .ok (.astore_n 1, 1) := by decide +kernel
theorem dL_law_8 : decode cL_law 8 = .ok (.iconst 2, 1) := by decide +kernel
theorem dL_law_9 : decode cL_law 9 = .ok (.aload_n 0, 1) := by decide +kernel
theorem dL_law_10 : decode cL_law 10 = .ok (.iconst 0, 1) := by decide +kernel
theorem dL_law_11 : decode cL_law 11 = .ok (.iconst 4, 1) := by decide +kernel
theorem dL_law_12 : decode cL_law 12 = .ok (.invokestatic 157, 3) := by decide +kernel
theorem dL_law_15 : decode cL_law 15 = .ok (.iadd, 1) := by decide +kernel
theorem dL_law_16 : decode cL_law 16 = .ok (.istore_n 2, 1) := by decide +kernel
theorem dL_law_17 : decode cL_law 17 = .ok (.iconst 0, 1) := by decide +kernel
theorem dL_law_18 : decode cL_law 18 = .ok (.istore_n 3, 1) := by decide +kernel
theorem dL_law_19 : decode cL_law 19 = .ok (.iload_n 3, 1) := by decide +kernel
theorem dL_law_20 : decode cL_law 20 = .ok (.iload_n 2, 1) := by decide +kernel
theorem dL_law_21 : decode cL_law 21 = .ok (.if_icmp .ge 155, 3) := by decide +kernel
theorem dL_law_24 : decode cL_law 24 = .ok (.ldc 228, 2) := by decide +kernel
theorem dL_law_26 : decode cL_law 26 = .ok (.aload_n 0, 1) := by decide +kernel
theorem dL_law_27 : decode cL_law 27 = .ok (.iconst 1, 1) := by decide +kernel
theorem dL_law_28 : decode cL_law 28 = .ok (.iload_n 3, 1) := by decide +kernel
theorem dL_law_29 : decode cL_law 29 = .ok (.iadd, 1) := by decide +kernel
theorem dL_law_30 : decode cL_law 30 = .ok (.bipush 12, 2) := by decide +kernel
theorem dL_law_32 : decode cL_law 32 = .ok (.invokestatic 157, 3) := by decide +kernel
theorem dL_law_35 : decode cL_law 35 = .ok (.invokevirtual 230, 3) := by decide +kernel
theorem dL_law_38 : decode cL_law 38 = .ok (.istore 4, 2) := by decide +kernel
theorem dL_law_40 : decode cL_law 40 = .ok (.iload 4, 2) := by decide +kernel
theorem dL_law_42 : decode cL_law 42 = .ok (.iconst 0, 1) := by decide +kernel
theorem dL_law_43 : decode cL_law 43 = .ok (.invokestatic 235, 3) := by decide +kernel
theorem dL_law_46 : decode cL_law 46 = .ok (.aload_n 0, 1) := by decide +kernel
theorem dL_law_47 : decode cL_law 47 = .ok (.bipush 10, 2) := by decide +kernel
theorem dL_law_49 : decode cL_law 49 = .ok (.iload_n 3, 1) := by decide +kernel
theorem dL_law_50 : decode cL_law 50 = .ok (.iadd, 1) := by decide +kernel
theorem dL_law_51 : decode cL_law 51 = .ok (.iload 4, 2) := by decide +kernel
theorem dL_law_53 : decode cL_law 53 = .ok (.iconst 1, 1) := by decide +kernel
theorem dL_law_54 : decode cL_law 54 = .ok (.invokestatic 235, 3) := by decide +kernel
theorem dL_law_57 : decode cL_law 57 = .ok (.invokestatic 157, 3) := by decide +kernel
theorem dL_law_60 : decode cL_law 60 = .ok (.iadd, 1) := by decide +kernel
theorem dL_law_61 : decode cL_law 61 = .ok (.istore 5, 2) := by decide +kernel
theorem dL_law_63 : decode cL_law 63 = .ok (.aload_n 1, 1) := by decide +kernel
theorem dL_law_64 : decode cL_law 64 = .ok (.iload 4, 2) := by decide +kernel
theorem dL_law_66 : decode cL_law 66 = .ok (.iload 5, 2) := by decide +kernel
theorem dL_law_68 : decode cL_law 68 = .ok (.iload 4, 2) := by decide +kernel
theorem dL_law_70 : decode cL_law 70 = .ok (.iconst 2, 1) := by decide +kernel
theorem dL_law_71 : decode cL_law 71 = .ok (.invokestatic 235, 3) := by decide +kernel
theorem dL_law_74 : decode cL_law 74 = .ok (.aload_n 0, 1) := by decide +kernel
theorem dL_law_75 : decode cL_law 75 = .ok (.bipush 20, 2) := by decide +kernel
theorem dL_law_77 : decode cL_law 77 = .ok (.iload_n 3, 1) := by decide +kernel
theorem dL_law_78 : decode cL_law 78 = .ok (.iadd, 1) := by decide +kernel
theorem dL_law_79 : decode cL_law 79 = .ok (.iload 4, 2) := by decide +kernel
theorem dL_law_81 : decode cL_law 81 = .ok (.iconst 3, 1) := by decide +kernel
theorem dL_law_82 : decode cL_law 82 = .ok (.invokestatic 235, 3) := by decide +kernel
theorem dL_law_85 : decode cL_law 85 = .ok (.invokestatic 157, 3) := by decide +kernel
theorem dL_law_88 : decode cL_law 88 = .ok (.iadd, 1) := by decide +kernel
theorem dL_law_89 : decode cL_law 89 = .ok (.invokestatic 207, 3) := by decide +kernel
theorem dL_law_92 : decode cL_law 92 = .ok (.iload_n 3, 1) := by decide +kernel
theorem dL_law_93 : decode cL_law 93 = .ok (.i2l, 1) := by decide +kernel
theorem dL_law_94 : decode cL_law 94 = .ok (.lcmp, 1) := by decide +kernel
theorem dL_law_95 : decode cL_law 95 = .ok (.ifCond .eq 5, 3) := by decide +kernel
theorem dL_law_98 : decode cL_law 98 = .ok (.iconst 0, 1) := by decide +kernel
theorem dL_law_99 : decode cL_law 99 = .ok (.ireturn, 1) := by decide +kernel
theorem dL_law_100 : decode cL_law 100 = .ok (.aload_n 0, 1) := by decide +kernel
theorem dL_law_101 : decode cL_law 101 = .ok (.bipush 30, 2) := by decide +kernel
theorem dL_law_103 : decode cL_law 103 = .ok (.iload_n 3, 1) := by decide +kernel
theorem dL_law_104 : decode cL_law 104 = .ok (.iadd, 1) := by decide +kernel
theorem dL_law_105 : decode cL_law 105 = .ok (.bipush 13, 2) := by decide +kernel
theorem dL_law_107 : decode cL_law 107 = .ok (.invokestatic 157, 3) := by decide +kernel
theorem dL_law_110 : decode cL_law 110 = .ok (.istore 6, 2) := by decide +kernel
theorem dL_law_112 : decode cL_law 112 = .ok (.iconst 0, 1) := by decide +kernel
theorem dL_law_113 : decode cL_law 113 = .ok (.istore 7, 2) := by decide +kernel
theorem dL_law_115 : decode cL_law 115 = .ok (.iload 7, 2) := by decide +kernel
theorem dL_law_117 : decode cL_law 117 = .ok (.iload 6, 2) := by decide +kernel
theorem dL_law_119 : decode cL_law 119 = .ok (.if_icmp .ge 51, 3) := by decide +kernel
theorem dL_law_122 : decode cL_law 122 = .ok (.aload_n 1, 1) := by decide +kernel
theorem dL_law_123 : decode cL_law 123 = .ok (.iload_n 3, 1) := by decide +kernel
theorem dL_law_124 : decode cL_law 124 = .ok (.iconst (-1), 1) := by decide +kernel
theorem dL_law_125 : decode cL_law 125 = .ok (.aload_n 0, 1) := by decide +kernel
theorem dL_law_126 : decode cL_law 126 = .ok (.bipush 40, 2) := by decide +kernel
theorem dL_law_128 : decode cL_law 128 = .ok (.bipush 100, 2) := by decide +kernel
theorem dL_law_130 : decode cL_law 130 = .ok (.iload_n 3, 1) := by decide +kernel
theorem dL_law_131 : decode cL_law 131 = .ok (.imul, 1) := by decide +kernel
theorem dL_law_132 : decode cL_law 132 = .ok (.iadd, 1) := by decide +kernel
theorem dL_law_133 : decode cL_law 133 = .ok (.bipush 7, 2) := by decide +kernel
theorem dL_law_135 : decode cL_law 135 = .ok (.iload 7, 2) := by decide +kernel
theorem dL_law_137 : decode cL_law 137 = .ok (.imul, 1) := by decide +kernel
theorem dL_law_138 : decode cL_law 138 = .ok (.iadd, 1) := by decide +kernel
theorem dL_law_139 : decode cL_law 139 = .ok (.invokestatic 239, 3) := by decide +kernel
theorem dL_law_142 : decode cL_law 142 = .ok (.lstore 8, 2) := by decide +kernel
theorem dL_law_144 : decode cL_law 144 = .ok (.lload 8, 2) := by decide +kernel
theorem dL_law_146 : decode cL_law 146 = .ok (.ldc2_w 18, 3) := by decide +kernel
theorem dL_law_149 : decode cL_law 149 = .ok (.lcmp, 1) := by decide +kernel
theorem dL_law_150 : decode cL_law 150 = .ok (.ifCond .eq 12, 3) := by decide +kernel
theorem dL_law_153 : decode cL_law 153 = .ok (.lload 8, 2) := by decide +kernel
theorem dL_law_155 : decode cL_law 155 = .ok (.iload 6, 2) := by decide +kernel
theorem dL_law_157 : decode cL_law 157 = .ok (.i2l, 1) := by decide +kernel
theorem dL_law_158 : decode cL_law 158 = .ok (.lcmp, 1) := by decide +kernel
theorem dL_law_159 : decode cL_law 159 = .ok (.ifCond .le 5, 3) := by decide +kernel
theorem dL_law_162 : decode cL_law 162 = .ok (.iconst 0, 1) := by decide +kernel
theorem dL_law_163 : decode cL_law 163 = .ok (.ireturn, 1) := by decide +kernel
theorem dL_law_164 : decode cL_law 164 = .ok (.iinc 7 1, 3) := by decide +kernel
theorem dL_law_167 : decode cL_law 167 = .ok (.goto (-52), 3) := by decide +kernel
theorem dL_law_170 : decode cL_law 170 = .ok (.iinc 3 1, 3) := by decide +kernel
theorem dL_law_173 : decode cL_law 173 = .ok (.goto (-154), 3) := by decide +kernel
theorem dL_law_176 : decode cL_law 176 = .ok (.aload_n 1, 1) := by decide +kernel
theorem dL_law_177 : decode cL_law 177 = .ok (.invokestatic 243, 3) := by decide +kernel
theorem dL_law_180 : decode cL_law 180 = .ok (.lconst 0, 1) := by decide +kernel
theorem dL_law_181 : decode cL_law 181 = .ok (.lcmp, 1) := by decide +kernel
theorem dL_law_182 : decode cL_law 182 = .ok (.ifCond .ne 14, 3) := by decide +kernel
theorem dL_law_185 : decode cL_law 185 = .ok (.aload_n 1, 1) := by decide +kernel
theorem dL_law_186 : decode cL_law 186 = .ok (.aload_n 0, 1) := by decide +kernel
theorem dL_law_187 : decode cL_law 187 = .ok (.sipush 700, 3) := by decide +kernel
theorem dL_law_190 : decode cL_law 190 = .ok (.invokestatic 245, 3) := by decide +kernel
theorem dL_law_193 : decode cL_law 193 = .ok (.ifCond .ne 5, 3) := by decide +kernel
theorem dL_law_196 : decode cL_law 196 = .ok (.iconst 0, 1) := by decide +kernel
theorem dL_law_197 : decode cL_law 197 = .ok (.ireturn, 1) := by decide +kernel
theorem dL_law_198 : decode cL_law 198 = .ok (.aload_n 1, 1) := by decide +kernel
theorem dL_law_199 : decode cL_law 199 = .ok (.invokestatic 249, 3) := by decide +kernel
theorem dL_law_202 : decode cL_law 202 = .ok (.pop2, 1) := by decide +kernel
theorem dL_law_203 : decode cL_law 203 = .ok (.iconst 0, 1) := by decide +kernel
theorem dL_law_204 : decode cL_law 204 = .ok (.istore_n 3, 1) := by decide +kernel
theorem dL_law_205 : decode cL_law 205 = .ok (.iload_n 3, 1) := by decide +kernel
theorem dL_law_206 : decode cL_law 206 = .ok (.bipush 14, 2) := by decide +kernel
theorem dL_law_208 : decode cL_law 208 = .ok (.if_icmp .ge 454, 3) := by decide +kernel
theorem dL_law_211 : decode cL_law 211 = .ok (.aload_n 0, 1) := by decide +kernel
theorem dL_law_212 : decode cL_law 212 = .ok (.bipush 60, 2) := by decide +kernel
theorem dL_law_214 : decode cL_law 214 = .ok (.iload_n 3, 1) := by decide +kernel
theorem dL_law_215 : decode cL_law 215 = .ok (.iadd, 1) := by decide +kernel
theorem dL_law_216 : decode cL_law 216 = .ok (.ldc 251, 2) := by decide +kernel
theorem dL_law_218 : decode cL_law 218 = .ok (.invokestatic 157, 3) := by decide +kernel
theorem dL_law_221 : decode cL_law 221 = .ok (.istore 4, 2) := by decide +kernel
theorem dL_law_223 : decode cL_law 223 = .ok (.iload 4, 2) := by decide +kernel
theorem dL_law_225 : decode cL_law 225 = .ok (.iload_n 2, 1) := by decide +kernel
theorem dL_law_226 : decode cL_law 226 = .ok (.irem, 1) := by decide +kernel
theorem dL_law_227 : decode cL_law 227 = .ok (.istore 5, 2) := by decide +kernel
theorem dL_law_229 : decode cL_law 229 = .ok (.aload_n 1, 1) := by decide +kernel
theorem dL_law_230 : decode cL_law 230 = .ok (.invokestatic 219, 3) := by decide +kernel
theorem dL_law_233 : decode cL_law 233 = .ok (.lstore 6, 2) := by decide +kernel
theorem dL_law_235 : decode cL_law 235 = .ok (.iload 4, 2) := by decide +kernel
theorem dL_law_237 : decode cL_law 237 = .ok (.bipush 10, 2) := by decide +kernel
theorem dL_law_239 : decode cL_law 239 = .ok (.idiv, 1) := by decide +kernel
theorem dL_law_240 : decode cL_law 240 = .ok (.bipush 8, 2) := by decide +kernel
theorem dL_law_242 : decode cL_law 242 = .ok (.irem, 1) := by decide +kernel
theorem dL_law_243 : decode cL_law 243 = .ok (.tableswitch 306 0 6 #[41, 62, 112, 130, 186, 230, 255], 41) := by decide +kernel
theorem dL_law_284 : decode cL_law 284 = .ok (.aload_n 1, 1) := by decide +kernel
theorem dL_law_285 : decode cL_law 285 = .ok (.iload 5, 2) := by decide +kernel
theorem dL_law_287 : decode cL_law 287 = .ok (.iconst (-1), 1) := by decide +kernel
theorem dL_law_288 : decode cL_law 288 = .ok (.aload_n 0, 1) := by decide +kernel
theorem dL_law_289 : decode cL_law 289 = .ok (.sipush 800, 3) := by decide +kernel
theorem dL_law_292 : decode cL_law 292 = .ok (.bipush 9, 2) := by decide +kernel
theorem dL_law_294 : decode cL_law 294 = .ok (.iload_n 3, 1) := by decide +kernel
theorem dL_law_295 : decode cL_law 295 = .ok (.imul, 1) := by decide +kernel
theorem dL_law_296 : decode cL_law 296 = .ok (.iadd, 1) := by decide +kernel
theorem dL_law_297 : decode cL_law 297 = .ok (.invokestatic 239, 3) := by decide +kernel
theorem dL_law_300 : decode cL_law 300 = .ok (.lstore 8, 2) := by decide +kernel
theorem dL_law_302 : decode cL_law 302 = .ok (.goto 295, 3) := by decide +kernel
theorem dL_law_305 : decode cL_law 305 = .ok (.aload_n 1, 1) := by decide +kernel
theorem dL_law_306 : decode cL_law 306 = .ok (.iload 5, 2) := by decide +kernel
theorem dL_law_308 : decode cL_law 308 = .ok (.invokestatic 210, 3) := by decide +kernel
theorem dL_law_311 : decode cL_law 311 = .ok (.lconst 0, 1) := by decide +kernel
theorem dL_law_312 : decode cL_law 312 = .ok (.lcmp, 1) := by decide +kernel
theorem dL_law_313 : decode cL_law 313 = .ok (.ifCond .ne 9, 3) := by decide +kernel
theorem dL_law_316 : decode cL_law 316 = .ok (.ldc2_w 252, 3) := by decide +kernel
theorem dL_law_319 : decode cL_law 319 = .ok (.goto 31, 3) := by decide +kernel
theorem dL_law_322 : decode cL_law 322 = .ok (.aload_n 1, 1) := by decide +kernel
theorem dL_law_323 : decode cL_law 323 = .ok (.iload 5, 2) := by decide +kernel
theorem dL_law_325 : decode cL_law 325 = .ok (.iload 4, 2) := by decide +kernel
theorem dL_law_327 : decode cL_law 327 = .ok (.bipush 80, 2) := by decide +kernel
theorem dL_law_329 : decode cL_law 329 = .ok (.idiv, 1) := by decide +kernel
theorem dL_law_330 : decode cL_law 330 = .ok (.aload_n 1, 1) := by decide +kernel
theorem dL_law_331 : decode cL_law 331 = .ok (.iload 5, 2) := by decide +kernel
theorem dL_law_333 : decode cL_law 333 = .ok (.invokestatic 210, 3) := by decide +kernel
theorem dL_law_336 : decode cL_law 336 = .ok (.l2i, 1) := by decide +kernel
theorem dL_law_337 : decode cL_law 337 = .ok (.irem, 1) := by decide +kernel
theorem dL_law_338 : decode cL_law 338 = .ok (.aload_n 0, 1) := by decide +kernel
theorem dL_law_339 : decode cL_law 339 = .ok (.sipush 800, 3) := by decide +kernel
theorem dL_law_342 : decode cL_law 342 = .ok (.bipush 9, 2) := by decide +kernel
theorem dL_law_344 : decode cL_law 344 = .ok (.iload_n 3, 1) := by decide +kernel
theorem dL_law_345 : decode cL_law 345 = .ok (.imul, 1) := by decide +kernel
theorem dL_law_346 : decode cL_law 346 = .ok (.iadd, 1) := by decide +kernel
theorem dL_law_347 : decode cL_law 347 = .ok (.invokestatic 239, 3) := by decide +kernel
theorem dL_law_350 : decode cL_law 350 = .ok (.lstore 8, 2) := by decide +kernel
theorem dL_law_352 : decode cL_law 352 = .ok (.goto 245, 3) := by decide +kernel
theorem dL_law_355 : decode cL_law 355 = .ok (.aload_n 1, 1) := by decide +kernel
theorem dL_law_356 : decode cL_law 356 = .ok (.iload 5, 2) := by decide +kernel
theorem dL_law_358 : decode cL_law 358 = .ok (.iload 4, 2) := by decide +kernel
theorem dL_law_360 : decode cL_law 360 = .ok (.bipush 80, 2) := by decide +kernel
theorem dL_law_362 : decode cL_law 362 = .ok (.idiv, 1) := by decide +kernel
theorem dL_law_363 : decode cL_law 363 = .ok (.iconst 3, 1) := by decide +kernel
theorem dL_law_364 : decode cL_law 364 = .ok (.irem, 1) := by decide +kernel
theorem dL_law_365 : decode cL_law 365 = .ok (.invokestatic 254, 3) := by decide +kernel
theorem dL_law_368 : decode cL_law 368 = .ok (.lstore 8, 2) := by decide +kernel
theorem dL_law_370 : decode cL_law 370 = .ok (.goto 227, 3) := by decide +kernel
theorem dL_law_373 : decode cL_law 373 = .ok (.aload_n 1, 1) := by decide +kernel
theorem dL_law_374 : decode cL_law 374 = .ok (.iload 5, 2) := by decide +kernel
theorem dL_law_376 : decode cL_law 376 = .ok (.aload_n 1, 1) := by decide +kernel
theorem dL_law_377 : decode cL_law 377 = .ok (.iload 5, 2) := by decide +kernel
theorem dL_law_379 : decode cL_law 379 = .ok (.invokestatic 161, 3) := by decide +kernel
theorem dL_law_382 : decode cL_law 382 = .ok (.l2i, 1) := by decide +kernel
theorem dL_law_383 : decode cL_law 383 = .ok (.i2c, 1) := by decide +kernel
theorem dL_law_384 : decode cL_law 384 = .ok (.iconst 2, 1) := by decide +kernel
theorem dL_law_385 : decode cL_law 385 = .ok (.invokestatic 235, 3) := by decide +kernel
theorem dL_law_388 : decode cL_law 388 = .ok (.iload 4, 2) := by decide +kernel
theorem dL_law_390 : decode cL_law 390 = .ok (.bipush 80, 2) := by decide +kernel
theorem dL_law_392 : decode cL_law 392 = .ok (.idiv, 1) := by decide +kernel
theorem dL_law_393 : decode cL_law 393 = .ok (.aload_n 1, 1) := by decide +kernel
theorem dL_law_394 : decode cL_law 394 = .ok (.iload 5, 2) := by decide +kernel
theorem dL_law_396 : decode cL_law 396 = .ok (.invokestatic 161, 3) := by decide +kernel
theorem dL_law_399 : decode cL_law 399 = .ok (.l2i, 1) := by decide +kernel
theorem dL_law_400 : decode cL_law 400 = .ok (.i2c, 1) := by decide +kernel
theorem dL_law_401 : decode cL_law 401 = .ok (.iconst 3, 1) := by decide +kernel
theorem dL_law_402 : decode cL_law 402 = .ok (.invokestatic 235, 3) := by decide +kernel
theorem dL_law_405 : decode cL_law 405 = .ok (.irem, 1) := by decide +kernel
theorem dL_law_406 : decode cL_law 406 = .ok (.iadd, 1) := by decide +kernel
theorem dL_law_407 : decode cL_law 407 = .ok (.invokestatic 256, 3) := by decide +kernel
theorem dL_law_410 : decode cL_law 410 = .ok (.ldc2_w 22, 3) := by decide +kernel
theorem dL_law_413 : decode cL_law 413 = .ok (.lcmp, 1) := by decide +kernel
theorem dL_law_414 : decode cL_law 414 = .ok (.ifCond .ne 9, 3) := by decide +kernel
theorem dL_law_417 : decode cL_law 417 = .ok (.ldc2_w 252, 3) := by decide +kernel
theorem dL_law_420 : decode cL_law 420 = .ok (.goto 4, 3) := by decide +kernel
theorem dL_law_423 : decode cL_law 423 = .ok (.lconst 0, 1) := by decide +kernel
theorem dL_law_424 : decode cL_law 424 = .ok (.lstore 8, 2) := by decide +kernel
theorem dL_law_426 : decode cL_law 426 = .ok (.goto 171, 3) := by decide +kernel
theorem dL_law_429 : decode cL_law 429 = .ok (.aload_n 1, 1) := by decide +kernel
theorem dL_law_430 : decode cL_law 430 = .ok (.iload 5, 2) := by decide +kernel
theorem dL_law_432 : decode cL_law 432 = .ok (.iload 4, 2) := by decide +kernel
theorem dL_law_434 : decode cL_law 434 = .ok (.bipush 80, 2) := by decide +kernel
theorem dL_law_436 : decode cL_law 436 = .ok (.idiv, 1) := by decide +kernel
theorem dL_law_437 : decode cL_law 437 = .ok (.iload_n 2, 1) := by decide +kernel
theorem dL_law_438 : decode cL_law 438 = .ok (.irem, 1) := by decide +kernel
theorem dL_law_439 : decode cL_law 439 = .ok (.iload 4, 2) := by decide +kernel
theorem dL_law_441 : decode cL_law 441 = .ok (.sipush 800, 3) := by decide +kernel
theorem dL_law_444 : decode cL_law 444 = .ok (.idiv, 1) := by decide +kernel
theorem dL_law_445 : decode cL_law 445 = .ok (.bipush 41, 2) := by decide +kernel
theorem dL_law_447 : decode cL_law 447 = .ok (.irem, 1) := by decide +kernel
theorem dL_law_448 : decode cL_law 448 = .ok (.bipush 20, 2) := by decide +kernel
theorem dL_law_450 : decode cL_law 450 = .ok (.isub, 1) := by decide +kernel
theorem dL_law_451 : decode cL_law 451 = .ok (.invokestatic 258, 3) := by decide +kernel
theorem dL_law_454 : decode cL_law 454 = .ok (.ldc2_w 260, 3) := by decide +kernel
theorem dL_law_457 : decode cL_law 457 = .ok (.lcmp, 1) := by decide +kernel
theorem dL_law_458 : decode cL_law 458 = .ok (.ifCond .ge 9, 3) := by decide +kernel
theorem dL_law_461 : decode cL_law 461 = .ok (.ldc2_w 252, 3) := by decide +kernel
theorem dL_law_464 : decode cL_law 464 = .ok (.goto 4, 3) := by decide +kernel
theorem dL_law_467 : decode cL_law 467 = .ok (.lconst 0, 1) := by decide +kernel
theorem dL_law_468 : decode cL_law 468 = .ok (.lstore 8, 2) := by decide +kernel
theorem dL_law_470 : decode cL_law 470 = .ok (.goto 127, 3) := by decide +kernel
theorem dL_law_473 : decode cL_law 473 = .ok (.aload_n 1, 1) := by decide +kernel
theorem dL_law_474 : decode cL_law 474 = .ok (.iload 5, 2) := by decide +kernel
theorem dL_law_476 : decode cL_law 476 = .ok (.invokestatic 262, 3) := by decide +kernel
theorem dL_law_479 : decode cL_law 479 = .ok (.ldc2_w 260, 3) := by decide +kernel
theorem dL_law_482 : decode cL_law 482 = .ok (.lcmp, 1) := by decide +kernel
theorem dL_law_483 : decode cL_law 483 = .ok (.ifCond .ge 9, 3) := by decide +kernel
theorem dL_law_486 : decode cL_law 486 = .ok (.ldc2_w 252, 3) := by decide +kernel
theorem dL_law_489 : decode cL_law 489 = .ok (.goto 4, 3) := by decide +kernel
theorem dL_law_492 : decode cL_law 492 = .ok (.lconst 0, 1) := by decide +kernel
theorem dL_law_493 : decode cL_law 493 = .ok (.lstore 8, 2) := by decide +kernel
theorem dL_law_495 : decode cL_law 495 = .ok (.goto 102, 3) := by decide +kernel
theorem dL_law_498 : decode cL_law 498 = .ok (.aload_n 1, 1) := by decide +kernel
theorem dL_law_499 : decode cL_law 499 = .ok (.iload 5, 2) := by decide +kernel
theorem dL_law_501 : decode cL_law 501 = .ok (.invokestatic 181, 3) := by decide +kernel
theorem dL_law_504 : decode cL_law 504 = .ok (.lconst 0, 1) := by decide +kernel
theorem dL_law_505 : decode cL_law 505 = .ok (.lcmp, 1) := by decide +kernel
theorem dL_law_506 : decode cL_law 506 = .ok (.ifCond .lt 35, 3) := by decide +kernel
theorem dL_law_509 : decode cL_law 509 = .ok (.aload_n 1, 1) := by decide +kernel
theorem dL_law_510 : decode cL_law 510 = .ok (.iconst 0, 1) := by decide +kernel
theorem dL_law_511 : decode cL_law 511 = .ok (.iload 5, 2) := by decide +kernel
theorem dL_law_513 : decode cL_law 513 = .ok (.aload_n 1, 1) := by decide +kernel
theorem dL_law_514 : decode cL_law 514 = .ok (.iload 5, 2) := by decide +kernel
theorem dL_law_516 : decode cL_law 516 = .ok (.invokestatic 175, 3) := by decide +kernel
theorem dL_law_519 : decode cL_law 519 = .ok (.ldc2_w 179, 3) := by decide +kernel
theorem dL_law_522 : decode cL_law 522 = .ok (.lcmp, 1) := by decide +kernel
theorem dL_law_523 : decode cL_law 523 = .ok (.ifCond .ne 7, 3) := by decide +kernel
theorem dL_law_526 : decode cL_law 526 = .ok (.iconst 1, 1) := by decide +kernel
theorem dL_law_527 : decode cL_law 527 = .ok (.goto 4, 3) := by decide +kernel
theorem dL_law_530 : decode cL_law 530 = .ok (.iconst 0, 1) := by decide +kernel
theorem dL_law_531 : decode cL_law 531 = .ok (.invokestatic 264, 3) := by decide +kernel
theorem dL_law_534 : decode cL_law 534 = .ok (.lconst 1, 1) := by decide +kernel
theorem dL_law_535 : decode cL_law 535 = .ok (.lcmp, 1) := by decide +kernel
theorem dL_law_536 : decode cL_law 536 = .ok (.ifCond .ge 5, 3) := by decide +kernel
theorem dL_law_539 : decode cL_law 539 = .ok (.iconst 0, 1) := by decide +kernel
theorem dL_law_540 : decode cL_law 540 = .ok (.ireturn, 1) := by decide +kernel
theorem dL_law_541 : decode cL_law 541 = .ok (.ldc2_w 252, 3) := by decide +kernel
theorem dL_law_544 : decode cL_law 544 = .ok (.lstore 8, 2) := by decide +kernel
theorem dL_law_546 : decode cL_law 546 = .ok (.goto 51, 3) := by decide +kernel
theorem dL_law_549 : decode cL_law 549 = .ok (.aload_n 1, 1) := by decide +kernel
theorem dL_law_550 : decode cL_law 550 = .ok (.iload 5, 2) := by decide +kernel
theorem dL_law_552 : decode cL_law 552 = .ok (.invokestatic 181, 3) := by decide +kernel
theorem dL_law_555 : decode cL_law 555 = .ok (.lconst 0, 1) := by decide +kernel
theorem dL_law_556 : decode cL_law 556 = .ok (.lcmp, 1) := by decide +kernel
theorem dL_law_557 : decode cL_law 557 = .ok (.ifCond .lt 35, 3) := by decide +kernel
theorem dL_law_560 : decode cL_law 560 = .ok (.aload_n 1, 1) := by decide +kernel
theorem dL_law_561 : decode cL_law 561 = .ok (.iconst 0, 1) := by decide +kernel
theorem dL_law_562 : decode cL_law 562 = .ok (.iload 5, 2) := by decide +kernel
theorem dL_law_564 : decode cL_law 564 = .ok (.aload_n 1, 1) := by decide +kernel
theorem dL_law_565 : decode cL_law 565 = .ok (.iload 5, 2) := by decide +kernel
theorem dL_law_567 : decode cL_law 567 = .ok (.invokestatic 175, 3) := by decide +kernel
theorem dL_law_570 : decode cL_law 570 = .ok (.ldc2_w 177, 3) := by decide +kernel
theorem dL_law_573 : decode cL_law 573 = .ok (.lcmp, 1) := by decide +kernel
theorem dL_law_574 : decode cL_law 574 = .ok (.ifCond .ne 7, 3) := by decide +kernel
theorem dL_law_577 : decode cL_law 577 = .ok (.iconst 1, 1) := by decide +kernel
theorem dL_law_578 : decode cL_law 578 = .ok (.goto 4, 3) := by decide +kernel
theorem dL_law_581 : decode cL_law 581 = .ok (.iconst 0, 1) := by decide +kernel
theorem dL_law_582 : decode cL_law 582 = .ok (.invokestatic 264, 3) := by decide +kernel
theorem dL_law_585 : decode cL_law 585 = .ok (.lconst 0, 1) := by decide +kernel
theorem dL_law_586 : decode cL_law 586 = .ok (.lcmp, 1) := by decide +kernel
theorem dL_law_587 : decode cL_law 587 = .ok (.ifCond .le 5, 3) := by decide +kernel
theorem dL_law_590 : decode cL_law 590 = .ok (.iconst 0, 1) := by decide +kernel
theorem dL_law_591 : decode cL_law 591 = .ok (.ireturn, 1) := by decide +kernel
theorem dL_law_592 : decode cL_law 592 = .ok (.ldc2_w 252, 3) := by decide +kernel
theorem dL_law_595 : decode cL_law 595 = .ok (.lstore 8, 2) := by decide +kernel
theorem dL_law_597 : decode cL_law 597 = .ok (.iload 4, 2) := by decide +kernel
theorem dL_law_599 : decode cL_law 599 = .ok (.ldc_w 267, 3) := by decide +kernel
theorem dL_law_602 : decode cL_law 602 = .ok (.idiv, 1) := by decide +kernel
theorem dL_law_603 : decode cL_law 603 = .ok (.iconst 3, 1) := by decide +kernel
theorem dL_law_604 : decode cL_law 604 = .ok (.irem, 1) := by decide +kernel
theorem dL_law_605 : decode cL_law 605 = .ok (.ifCond .ne 31, 3) := by decide +kernel
theorem dL_law_608 : decode cL_law 608 = .ok (.lload 8, 2) := by decide +kernel
theorem dL_law_610 : decode cL_law 610 = .ok (.lconst 0, 1) := by decide +kernel
theorem dL_law_611 : decode cL_law 611 = .ok (.lcmp, 1) := by decide +kernel
theorem dL_law_612 : decode cL_law 612 = .ok (.ifCond .lt 24, 3) := by decide +kernel
theorem dL_law_615 : decode cL_law 615 = .ok (.aload_n 1, 1) := by decide +kernel
theorem dL_law_616 : decode cL_law 616 = .ok (.invokestatic 268, 3) := by decide +kernel
theorem dL_law_619 : decode cL_law 619 = .ok (.lconst 0, 1) := by decide +kernel
theorem dL_law_620 : decode cL_law 620 = .ok (.lcmp, 1) := by decide +kernel
theorem dL_law_621 : decode cL_law 621 = .ok (.ifCond .lt 13, 3) := by decide +kernel
theorem dL_law_624 : decode cL_law 624 = .ok (.aload_n 1, 1) := by decide +kernel
theorem dL_law_625 : decode cL_law 625 = .ok (.invokestatic 219, 3) := by decide +kernel
theorem dL_law_628 : decode cL_law 628 = .ok (.lload 6, 2) := by decide +kernel
theorem dL_law_630 : decode cL_law 630 = .ok (.lcmp, 1) := by decide +kernel
theorem dL_law_631 : decode cL_law 631 = .ok (.ifCond .eq 5, 3) := by decide +kernel
theorem dL_law_634 : decode cL_law 634 = .ok (.iconst 0, 1) := by decide +kernel
theorem dL_law_635 : decode cL_law 635 = .ok (.ireturn, 1) := by decide +kernel
theorem dL_law_636 : decode cL_law 636 = .ok (.aload_n 1, 1) := by decide +kernel
theorem dL_law_637 : decode cL_law 637 = .ok (.iload 5, 2) := by decide +kernel
theorem dL_law_639 : decode cL_law 639 = .ok (.aload_n 0, 1) := by decide +kernel
theorem dL_law_640 : decode cL_law 640 = .ok (.sipush 900, 3) := by decide +kernel
theorem dL_law_643 : decode cL_law 643 = .ok (.bipush 11, 2) := by decide +kernel
theorem dL_law_645 : decode cL_law 645 = .ok (.iload_n 3, 1) := by decide +kernel
theorem dL_law_646 : decode cL_law 646 = .ok (.imul, 1) := by decide +kernel
theorem dL_law_647 : decode cL_law 647 = .ok (.iadd, 1) := by decide +kernel
theorem dL_law_648 : decode cL_law 648 = .ok (.invokestatic 200, 3) := by decide +kernel
theorem dL_law_651 : decode cL_law 651 = .ok (.ifCond .ne 5, 3) := by decide +kernel
theorem dL_law_654 : decode cL_law 654 = .ok (.iconst 0, 1) := by decide +kernel
theorem dL_law_655 : decode cL_law 655 = .ok (.ireturn, 1) := by decide +kernel
theorem dL_law_656 : decode cL_law 656 = .ok (.iinc 3 1, 3) := by decide +kernel
theorem dL_law_659 : decode cL_law 659 = .ok (.goto (-454), 3) := by decide +kernel
theorem dL_law_662 : decode cL_law 662 = .ok (.aload_n 1, 1) := by decide +kernel
theorem dL_law_663 : decode cL_law 663 = .ok (.invokestatic 270, 3) := by decide +kernel
theorem dL_law_666 : decode cL_law 666 = .ok (.ifCond .eq 30, 3) := by decide +kernel
theorem dL_law_669 : decode cL_law 669 = .ok (.aload_n 1, 1) := by decide +kernel
theorem dL_law_670 : decode cL_law 670 = .ok (.invokestatic 249, 3) := by decide +kernel
theorem dL_law_673 : decode cL_law 673 = .ok (.lconst 0, 1) := by decide +kernel
theorem dL_law_674 : decode cL_law 674 = .ok (.lcmp, 1) := by decide +kernel
theorem dL_law_675 : decode cL_law 675 = .ok (.ifCond .lt 21, 3) := by decide +kernel
theorem dL_law_678 : decode cL_law 678 = .ok (.aload_n 1, 1) := by decide +kernel
theorem dL_law_679 : decode cL_law 679 = .ok (.invokestatic 249, 3) := by decide +kernel
theorem dL_law_682 : decode cL_law 682 = .ok (.lconst 0, 1) := by decide +kernel
theorem dL_law_683 : decode cL_law 683 = .ok (.lcmp, 1) := by decide +kernel
theorem dL_law_684 : decode cL_law 684 = .ok (.ifCond .ne 12, 3) := by decide +kernel
theorem dL_law_687 : decode cL_law 687 = .ok (.aload_n 1, 1) := by decide +kernel
theorem dL_law_688 : decode cL_law 688 = .ok (.invokestatic 274, 3) := by decide +kernel
theorem dL_law_691 : decode cL_law 691 = .ok (.lconst 1, 1) := by decide +kernel
theorem dL_law_692 : decode cL_law 692 = .ok (.lcmp, 1) := by decide +kernel
theorem dL_law_693 : decode cL_law 693 = .ok (.ifCond .eq 5, 3) := by decide +kernel
theorem dL_law_696 : decode cL_law 696 = .ok (.iconst 0, 1) := by decide +kernel
theorem dL_law_697 : decode cL_law 697 = .ok (.ireturn, 1) := by decide +kernel
theorem dL_law_698 : decode cL_law 698 = .ok (.iconst 0, 1) := by decide +kernel
theorem dL_law_699 : decode cL_law 699 = .ok (.istore_n 3, 1) := by decide +kernel
theorem dL_law_700 : decode cL_law 700 = .ok (.iload_n 3, 1) := by decide +kernel
theorem dL_law_701 : decode cL_law 701 = .ok (.iload_n 2, 1) := by decide +kernel
theorem dL_law_702 : decode cL_law 702 = .ok (.if_icmp .ge 48, 3) := by decide +kernel
theorem dL_law_705 : decode cL_law 705 = .ok (.aload_n 1, 1) := by decide +kernel
theorem dL_law_706 : decode cL_law 706 = .ok (.iload_n 3, 1) := by decide +kernel
theorem dL_law_707 : decode cL_law 707 = .ok (.aload_n 1, 1) := by decide +kernel
theorem dL_law_708 : decode cL_law 708 = .ok (.iload_n 3, 1) := by decide +kernel
theorem dL_law_709 : decode cL_law 709 = .ok (.invokestatic 161, 3) := by decide +kernel
theorem dL_law_712 : decode cL_law 712 = .ok (.ldc2_w 276, 3) := by decide +kernel
theorem dL_law_715 : decode cL_law 715 = .ok (.lcmp, 1) := by decide +kernel
theorem dL_law_716 : decode cL_law 716 = .ok (.ifCond .ne 8, 3) := by decide +kernel
theorem dL_law_719 : decode cL_law 719 = .ok (.bipush 108, 2) := by decide +kernel
theorem dL_law_721 : decode cL_law 721 = .ok (.goto 5, 3) := by decide +kernel
theorem dL_law_724 : decode cL_law 724 = .ok (.bipush 102, 2) := by decide +kernel
theorem dL_law_726 : decode cL_law 726 = .ok (.invokestatic 278, 3) := by decide +kernel
theorem dL_law_729 : decode cL_law 729 = .ok (.ifCond .eq 13, 3) := by decide +kernel
theorem dL_law_732 : decode cL_law 732 = .ok (.aload_n 1, 1) := by decide +kernel
theorem dL_law_733 : decode cL_law 733 = .ok (.iload_n 3, 1) := by decide +kernel
theorem dL_law_734 : decode cL_law 734 = .ok (.bipush 115, 2) := by decide +kernel
theorem dL_law_736 : decode cL_law 736 = .ok (.invokestatic 278, 3) := by decide +kernel
theorem dL_law_739 : decode cL_law 739 = .ok (.ifCond .ne 5, 3) := by decide +kernel
theorem dL_law_742 : decode cL_law 742 = .ok (.iconst 0, 1) := by decide +kernel
theorem dL_law_743 : decode cL_law 743 = .ok (.ireturn, 1) := by decide +kernel
theorem dL_law_744 : decode cL_law 744 = .ok (.iinc 3 1, 3) := by decide +kernel
theorem dL_law_747 : decode cL_law 747 = .ok (.goto (-47), 3) := by decide +kernel
theorem dL_law_750 : decode cL_law 750 = .ok (.aload_n 1, 1) := by decide +kernel
theorem dL_law_751 : decode cL_law 751 = .ok (.aload_n 0, 1) := by decide +kernel
theorem dL_law_752 : decode cL_law 752 = .ok (.sipush 1100, 3) := by decide +kernel
theorem dL_law_755 : decode cL_law 755 = .ok (.invokestatic 245, 3) := by decide +kernel
theorem dL_law_758 : decode cL_law 758 = .ok (.ifCond .eq 23, 3) := by decide +kernel
theorem dL_law_761 : decode cL_law 761 = .ok (.aload_n 1, 1) := by decide +kernel
theorem dL_law_762 : decode cL_law 762 = .ok (.invokestatic 270, 3) := by decide +kernel
theorem dL_law_765 : decode cL_law 765 = .ok (.ifCond .eq 16, 3) := by decide +kernel
theorem dL_law_768 : decode cL_law 768 = .ok (.aload_n 1, 1) := by decide +kernel
theorem dL_law_769 : decode cL_law 769 = .ok (.invokestatic 274, 3) := by decide +kernel
theorem dL_law_772 : decode cL_law 772 = .ok (.lconst 1, 1) := by decide +kernel
theorem dL_law_773 : decode cL_law 773 = .ok (.lcmp, 1) := by decide +kernel
theorem dL_law_774 : decode cL_law 774 = .ok (.ifCond .ne 7, 3) := by decide +kernel
theorem dL_law_777 : decode cL_law 777 = .ok (.iconst 1, 1) := by decide +kernel
theorem dL_law_778 : decode cL_law 778 = .ok (.goto 4, 3) := by decide +kernel
theorem dL_law_781 : decode cL_law 781 = .ok (.iconst 0, 1) := by decide +kernel
theorem dL_law_782 : decode cL_law 782 = .ok (.ireturn, 1) := by decide +kernel
