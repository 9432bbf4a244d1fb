theorem d_W_cell_0 : decode b_W_cell 0 = .ok (.iload_n 1, 1) := by decide +kernel
theorem d_W_cell_1 : decode b_W_cell 1 = .ok (.aload_n 0, 1) := by decide +kernel
theorem d_W_cell_2 : decode b_W_cell 2 = .ok (.arraylength, 1) := by decide +kernel
theorem d_W_cell_3 : decode b_W_cell 3 = .ok (.if_icmp .ge 9, 3) := by decide +kernel
theorem d_W_cell_6 : decode b_W_cell 6 = .ok (.aload_n 0, 1) := by decide +kernel
theorem d_W_cell_7 : decode b_W_cell 7 = .ok (.iload_n 1, 1) := by decide +kernel
theorem d_W_cell_8 : decode b_W_cell 8 = .ok (.iaload, 1) := by decide +kernel
theorem d_W_cell_9 : decode b_W_cell 9 = .ok (.goto 4, 3) := by decide +kernel
theorem d_W_cell_12 : decode b_W_cell 12 = .ok (.iconst 0, 1) := by decide +kernel
theorem d_W_cell_13 : decode b_W_cell 13 = .ok (.ireturn, 1) := by decide +kernel
theorem d_W_row_0 : decode b_W_row 0 = .ok (.aload 4, 2) := by decide +kernel
theorem d_W_row_2 : decode b_W_row 2 = .ok (.iconst 0, 1) := by decide +kernel
theorem d_W_row_3 : decode b_W_row 3 = .ok (.aload_n 0, 1) := by decide +kernel
theorem d_W_row_4 : decode b_W_row 4 = .ok (.iload_n 1, 1) := by decide +kernel
theorem d_W_row_5 : decode b_W_row 5 = .ok (.iload_n 2, 1) := by decide +kernel
theorem d_W_row_6 : decode b_W_row 6 = .ok (.iload_n 3, 1) := by decide +kernel
theorem d_W_row_7 : decode b_W_row 7 = .ok (.invokevirtual 7, 3) := by decide +kernel
theorem d_W_row_10 : decode b_W_row 10 = .ok (.i2l, 1) := by decide +kernel
theorem d_W_row_11 : decode b_W_row 11 = .ok (.lastore, 1) := by decide +kernel
theorem d_W_row_12 : decode b_W_row 12 = .ok (.goto 7, 3) := by decide +kernel
theorem d_W_row_15 : decode b_W_row 15 = .ok (.astore 5, 2) := by decide +kernel
theorem d_W_row_17 : decode b_W_row 17 = .ok (.iconst 1, 1) := by decide +kernel
theorem d_W_row_18 : decode b_W_row 18 = .ok (.ireturn, 1) := by decide +kernel
theorem d_W_row_19 : decode b_W_row 19 = .ok (.iconst 0, 1) := by decide +kernel
theorem d_W_row_20 : decode b_W_row 20 = .ok (.ireturn, 1) := by decide +kernel
