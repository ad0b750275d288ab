theorem dL_prices_0 : decode cL_prices 0 = .ok (.aload_n 0, 1) := by decide +kernel
theorem dL_prices_1 : decode cL_prices 1 = .ok (.iload_n 1, 1) := by decide +kernel
theorem dL_prices_2 : decode cL_prices 2 = .ok (.iload_n 2, 1) := by decide +kernel
theorem dL_prices_3 : decode cL_prices 3 = .ok (.iload_n 3, 1) := by decide +kernel
theorem dL_prices_4 : decode cL_prices 4 = .ok (.invokevirtual 7, 3) := by decide +kernel
theorem dL_prices_7 : decode cL_prices 7 = .ok (.ireturn, 1) := by decide +kernel
theorem dL_prices_8 : decode cL_prices 8 = .ok (.astore 4, 2) := by decide +kernel
theorem dL_prices_10 : decode cL_prices 10 = .ok (.ldc 15, 2) := by decide +kernel
theorem dL_prices_12 : decode cL_prices 12 = .ok (.ireturn, 1) := by decide +kernel
theorem dL_prices_13 : decode cL_prices 13 = .ok (.astore 4, 2) := by decide +kernel
theorem dL_prices_15 : decode cL_prices 15 = .ok (.ldc 18, 2) := by decide +kernel
theorem dL_prices_17 : decode cL_prices 17 = .ok (.ireturn, 1) := by decide +kernel
theorem dL_prices_18 : decode cL_prices 18 = .ok (.astore 4, 2) := by decide +kernel
theorem dL_prices_20 : decode cL_prices 20 = .ok (.ldc 21, 2) := by decide +kernel
theorem dL_prices_22 : decode cL_prices 22 = .ok (.ireturn, 1) := by decide +kernel
theorem dL_delays_0 : decode cL_delays 0 = .ok (.aload_n 0, 1) := by decide +kernel
theorem dL_delays_1 : decode cL_delays 1 = .ok (.iload_n 1, 1) := by decide +kernel
theorem dL_delays_2 : decode cL_delays 2 = .ok (.iload_n 2, 1) := by decide +kernel
theorem dL_delays_3 : decode cL_delays 3 = .ok (.invokevirtual 22, 3) := by decide +kernel
theorem dL_delays_6 : decode cL_delays 6 = .ok (.ireturn, 1) := by decide +kernel
theorem dL_delays_7 : decode cL_delays 7 = .ok (.astore_n 3, 1) := by decide +kernel
theorem dL_delays_8 : decode cL_delays 8 = .ok (.ldc 15, 2) := by decide +kernel
theorem dL_delays_10 : decode cL_delays 10 = .ok (.ireturn, 1) := by decide +kernel
theorem dL_delays_11 : decode cL_delays 11 = .ok (.astore_n 3, 1) := by decide +kernel
theorem dL_delays_12 : decode cL_delays 12 = .ok (.ldc 18, 2) := by decide +kernel
theorem dL_delays_14 : decode cL_delays 14 = .ok (.ireturn, 1) := by decide +kernel
theorem dL_lines_0 : decode cL_lines 0 = .ok (.aload_n 0, 1) := by decide +kernel
theorem dL_lines_1 : decode cL_lines 1 = .ok (.iload_n 1, 1) := by decide +kernel
theorem dL_lines_2 : decode cL_lines 2 = .ok (.iload_n 2, 1) := by decide +kernel
theorem dL_lines_3 : decode cL_lines 3 = .ok (.iload_n 3, 1) := by decide +kernel
theorem dL_lines_4 : decode cL_lines 4 = .ok (.invokevirtual 26, 3) := by decide +kernel
theorem dL_lines_7 : decode cL_lines 7 = .ok (.ireturn, 1) := by decide +kernel
theorem dL_lines_8 : decode cL_lines 8 = .ok (.astore 4, 2) := by decide +kernel
theorem dL_lines_10 : decode cL_lines 10 = .ok (.ldc 15, 2) := by decide +kernel
theorem dL_lines_12 : decode cL_lines 12 = .ok (.ireturn, 1) := by decide +kernel
theorem dL_lines_13 : decode cL_lines 13 = .ok (.astore 4, 2) := by decide +kernel
theorem dL_lines_15 : decode cL_lines 15 = .ok (.ldc 18, 2) := by decide +kernel
theorem dL_lines_17 : decode cL_lines 17 = .ok (.ireturn, 1) := by decide +kernel
theorem dL_ports_0 : decode cL_ports 0 = .ok (.aload_n 0, 1) := by decide +kernel
theorem dL_ports_1 : decode cL_ports 1 = .ok (.iload_n 1, 1) := by decide +kernel
theorem dL_ports_2 : decode cL_ports 2 = .ok (.iload_n 2, 1) := by decide +kernel
theorem dL_ports_3 : decode cL_ports 3 = .ok (.invokevirtual 29, 3) := by decide +kernel
theorem dL_ports_6 : decode cL_ports 6 = .ok (.ireturn, 1) := by decide +kernel
theorem dL_ports_7 : decode cL_ports 7 = .ok (.astore_n 3, 1) := by decide +kernel
theorem dL_ports_8 : decode cL_ports 8 = .ok (.ldc 15, 2) := by decide +kernel
theorem dL_ports_10 : decode cL_ports 10 = .ok (.ireturn, 1) := by decide +kernel
theorem dL_ports_11 : decode cL_ports 11 = .ok (.astore_n 3, 1) := by decide +kernel
theorem dL_ports_12 : decode cL_ports 12 = .ok (.ldc 21, 2) := by decide +kernel
theorem dL_ports_14 : decode cL_ports 14 = .ok (.ireturn, 1) := by decide +kernel
theorem dL_sells_0 : decode cL_sells 0 = .ok (.aload_n 0, 1) := by decide +kernel
theorem dL_sells_1 : decode cL_sells 1 = .ok (.iload_n 1, 1) := by decide +kernel
theorem dL_sells_2 : decode cL_sells 2 = .ok (.iload_n 2, 1) := by decide +kernel
theorem dL_sells_3 : decode cL_sells 3 = .ok (.invokevirtual 32, 3) := by decide +kernel
theorem dL_sells_6 : decode cL_sells 6 = .ok (.ireturn, 1) := by decide +kernel
theorem dL_sells_7 : decode cL_sells 7 = .ok (.astore_n 3, 1) := by decide +kernel
theorem dL_sells_8 : decode cL_sells 8 = .ok (.ldc 15, 2) := by decide +kernel
theorem dL_sells_10 : decode cL_sells 10 = .ok (.ireturn, 1) := by decide +kernel
theorem dL_sells_11 : decode cL_sells 11 = .ok (.astore_n 3, 1) := by decide +kernel
theorem dL_sells_12 : decode cL_sells 12 = .ok (.ldc 21, 2) := by decide +kernel
theorem dL_sells_14 : decode cL_sells 14 = .ok (.ireturn, 1) := by decide +kernel
theorem dL_bonds_0 : decode cL_bonds 0 = .ok (.aload_n 0, 1) := by decide +kernel
theorem dL_bonds_1 : decode cL_bonds 1 = .ok (.iload_n 1, 1) := by decide +kernel
theorem dL_bonds_2 : decode cL_bonds 2 = .ok (.iload_n 2, 1) := by decide +kernel
theorem dL_bonds_3 : decode cL_bonds 3 = .ok (.invokevirtual 35, 3) := by decide +kernel
theorem dL_bonds_6 : decode cL_bonds 6 = .ok (.ireturn, 1) := by decide +kernel
theorem dL_bonds_7 : decode cL_bonds 7 = .ok (.astore_n 3, 1) := by decide +kernel
theorem dL_bonds_8 : decode cL_bonds 8 = .ok (.ldc 15, 2) := by decide +kernel
theorem dL_bonds_10 : decode cL_bonds 10 = .ok (.ireturn, 1) := by decide +kernel
theorem dL_bonds_11 : decode cL_bonds 11 = .ok (.astore_n 3, 1) := by decide +kernel
theorem dL_bonds_12 : decode cL_bonds 12 = .ok (.ldc 18, 2) := by decide +kernel
theorem dL_bonds_14 : decode cL_bonds 14 = .ok (.ireturn, 1) := by decide +kernel
theorem dL_bonds_15 : decode cL_bonds 15 = .ok (.astore_n 3, 1) := by decide +kernel
theorem dL_bonds_16 : decode cL_bonds 16 = .ok (.ldc 21, 2) := by decide +kernel
theorem dL_bonds_18 : decode cL_bonds 18 = .ok (.ireturn, 1) := by decide +kernel
theorem dL_pays_0 : decode cL_pays 0 = .ok (.aload_n 0, 1) := by decide +kernel
theorem dL_pays_1 : decode cL_pays 1 = .ok (.iload_n 1, 1) := by decide +kernel
theorem dL_pays_2 : decode cL_pays 2 = .ok (.iload_n 2, 1) := by decide +kernel
theorem dL_pays_3 : decode cL_pays 3 = .ok (.invokevirtual 38, 3) := by decide +kernel
theorem dL_pays_6 : decode cL_pays 6 = .ok (.ireturn, 1) := by decide +kernel
theorem dL_pays_7 : decode cL_pays 7 = .ok (.astore_n 3, 1) := by decide +kernel
theorem dL_pays_8 : decode cL_pays 8 = .ok (.ldc 15, 2) := by decide +kernel
theorem dL_pays_10 : decode cL_pays 10 = .ok (.ireturn, 1) := by decide +kernel
theorem dL_pays_11 : decode cL_pays 11 = .ok (.astore_n 3, 1) := by decide +kernel
theorem dL_pays_12 : decode cL_pays 12 = .ok (.ldc 18, 2) := by decide +kernel
theorem dL_pays_14 : decode cL_pays 14 = .ok (.ireturn, 1) := by decide +kernel
theorem dL_judges_0 : decode cL_judges 0 = .ok (.aload_n 0, 1) := by decide +kernel
theorem dL_judges_1 : decode cL_judges 1 = .ok (.iload_n 1, 1) := by decide +kernel
theorem dL_judges_2 : decode cL_judges 2 = .ok (.invokevirtual 41, 3) := by decide +kernel
theorem dL_judges_5 : decode cL_judges 5 = .ok (.ireturn, 1) := by decide +kernel
theorem dL_judges_6 : decode cL_judges 6 = .ok (.astore_n 2, 1) := by decide +kernel
theorem dL_judges_7 : decode cL_judges 7 = .ok (.ldc 15, 2) := by decide +kernel
theorem dL_judges_9 : decode cL_judges 9 = .ok (.ireturn, 1) := by decide +kernel
theorem dL_judges_10 : decode cL_judges 10 = .ok (.astore_n 2, 1) := by decide +kernel
theorem dL_judges_11 : decode cL_judges 11 = .ok (.ldc 21, 2) := by decide +kernel
theorem dL_judges_13 : decode cL_judges 13 = .ok (.ireturn, 1) := by decide +kernel
theorem dL_rings_0 : decode cL_rings 0 = .ok (.aload_n 0, 1) := by decide +kernel
theorem dL_rings_1 : decode cL_rings 1 = .ok (.iload_n 1, 1) := by decide +kernel
theorem dL_rings_2 : decode cL_rings 2 = .ok (.iload_n 2, 1) := by decide +kernel
theorem dL_rings_3 : decode cL_rings 3 = .ok (.invokevirtual 45, 3) := by decide +kernel
theorem dL_rings_6 : decode cL_rings 6 = .ok (.ireturn, 1) := by decide +kernel
theorem dL_rings_7 : decode cL_rings 7 = .ok (.astore_n 3, 1) := by decide +kernel
theorem dL_rings_8 : decode cL_rings 8 = .ok (.ldc 15, 2) := by decide +kernel
theorem dL_rings_10 : decode cL_rings 10 = .ok (.ireturn, 1) := by decide +kernel
theorem dL_rings_11 : decode cL_rings 11 = .ok (.astore_n 3, 1) := by decide +kernel
theorem dL_rings_12 : decode cL_rings 12 = .ok (.ldc 18, 2) := by decide +kernel
theorem dL_rings_14 : decode cL_rings 14 = .ok (.ireturn, 1) := by decide +kernel
theorem dL_rings_15 : decode cL_rings 15 = .ok (.astore_n 3, 1) := by decide +kernel
theorem dL_rings_16 : decode cL_rings 16 = .ok (.ldc 21, 2) := by decide +kernel
theorem dL_rings_18 : decode cL_rings 18 = .ok (.ireturn, 1) := by decide +kernel
theorem dL_hangs_0 : decode cL_hangs 0 = .ok (.aload_n 0, 1) := by decide +kernel
theorem dL_hangs_1 : decode cL_hangs 1 = .ok (.iload_n 1, 1) := by decide +kernel
theorem dL_hangs_2 : decode cL_hangs 2 = .ok (.invokevirtual 48, 3) := by decide +kernel
theorem dL_hangs_5 : decode cL_hangs 5 = .ok (.ireturn, 1) := by decide +kernel
theorem dL_hangs_6 : decode cL_hangs 6 = .ok (.astore_n 2, 1) := by decide +kernel
theorem dL_hangs_7 : decode cL_hangs 7 = .ok (.ldc 15, 2) := by decide +kernel
theorem dL_hangs_9 : decode cL_hangs 9 = .ok (.ireturn, 1) := by decide +kernel
theorem dL_hangs_10 : decode cL_hangs 10 = .ok (.astore_n 2, 1) := by decide +kernel
theorem dL_hangs_11 : decode cL_hangs 11 = .ok (.ldc 21, 2) := by decide +kernel
theorem dL_hangs_13 : decode cL_hangs 13 = .ok (.ireturn, 1) := by decide +kernel
theorem dL_passes_0 : decode cL_passes 0 = .ok (.aload_n 0, 1) := by decide +kernel
theorem dL_passes_1 : decode cL_passes 1 = .ok (.iload_n 1, 1) := by decide +kernel
theorem dL_passes_2 : decode cL_passes 2 = .ok (.invokevirtual 51, 3) := by decide +kernel
theorem dL_passes_5 : decode cL_passes 5 = .ok (.ireturn, 1) := by decide +kernel
theorem dL_passes_6 : decode cL_passes 6 = .ok (.astore_n 2, 1) := by decide +kernel
theorem dL_passes_7 : decode cL_passes 7 = .ok (.ldc 18, 2) := by decide +kernel
theorem dL_passes_9 : decode cL_passes 9 = .ok (.ireturn, 1) := by decide +kernel
theorem dL_passes_10 : decode cL_passes 10 = .ok (.astore_n 2, 1) := by decide +kernel
theorem dL_passes_11 : decode cL_passes 11 = .ok (.ldc 21, 2) := by decide +kernel
theorem dL_passes_13 : decode cL_passes 13 = .ok (.ireturn, 1) := by decide +kernel
theorem dL_carrier_0 : decode cL_carrier 0 = .ok (.aload_n 0, 1) := by decide +kernel
theorem dL_carrier_1 : decode cL_carrier 1 = .ok (.iload_n 1, 1) := by decide +kernel
theorem dL_carrier_2 : decode cL_carrier 2 = .ok (.invokevirtual 54, 3) := by decide +kernel
theorem dL_carrier_5 : decode cL_carrier 5 = .ok (.ireturn, 1) := by decide +kernel
theorem dL_carrier_6 : decode cL_carrier 6 = .ok (.astore_n 2, 1) := by decide +kernel
theorem dL_carrier_7 : decode cL_carrier 7 = .ok (.ldc 15, 2) := by decide +kernel
theorem dL_carrier_9 : decode cL_carrier 9 = .ok (.ireturn, 1) := by decide +kernel
theorem dL_then_0 : decode cL_then 0 = .ok (.aload_n 0, 1) := by decide +kernel
theorem dL_then_1 : decode cL_then 1 = .ok (.iload_n 1, 1) := by decide +kernel
theorem dL_then_2 : decode cL_then 2 = .ok (.iload_n 2, 1) := by decide +kernel
theorem dL_then_3 : decode cL_then 3 = .ok (.invokevirtual 57, 3) := by decide +kernel
theorem dL_then_6 : decode cL_then 6 = .ok (.ireturn, 1) := by decide +kernel
theorem dL_then_7 : decode cL_then 7 = .ok (.astore_n 3, 1) := by decide +kernel
theorem dL_then_8 : decode cL_then 8 = .ok (.ldc 15, 2) := by decide +kernel
theorem dL_then_10 : decode cL_then 10 = .ok (.ireturn, 1) := by decide +kernel
theorem dL_then_11 : decode cL_then 11 = .ok (.astore_n 3, 1) := by decide +kernel
theorem dL_then_12 : decode cL_then 12 = .ok (.ldc 18, 2) := by decide +kernel
theorem dL_then_14 : decode cL_then 14 = .ok (.ireturn, 1) := by decide +kernel
theorem dL_owner_0 : decode cL_owner 0 = .ok (.aload_n 0, 1) := by decide +kernel
theorem dL_owner_1 : decode cL_owner 1 = .ok (.iload_n 1, 1) := by decide +kernel
theorem dL_owner_2 : decode cL_owner 2 = .ok (.invokevirtual 60, 3) := by decide +kernel
theorem dL_owner_5 : decode cL_owner 5 = .ok (.ireturn, 1) := by decide +kernel
theorem dL_owner_6 : decode cL_owner 6 = .ok (.astore_n 2, 1) := by decide +kernel
theorem dL_owner_7 : decode cL_owner 7 = .ok (.ldc 15, 2) := by decide +kernel
theorem dL_owner_9 : decode cL_owner 9 = .ok (.ireturn, 1) := by decide +kernel
theorem dL_believed_0 : decode cL_believed 0 = .ok (.aload_n 0, 1) := by decide +kernel
theorem dL_believed_1 : decode cL_believed 1 = .ok (.iload_n 1, 1) := by decide +kernel
theorem dL_believed_2 : decode cL_believed 2 = .ok (.iload_n 2, 1) := by decide +kernel
theorem dL_believed_3 : decode cL_believed 3 = .ok (.invokevirtual 63, 3) := by decide +kernel
theorem dL_believed_6 : decode cL_believed 6 = .ok (.ireturn, 1) := by decide +kernel
theorem dL_believed_7 : decode cL_believed 7 = .ok (.astore_n 3, 1) := by decide +kernel
theorem dL_believed_8 : decode cL_believed 8 = .ok (.ldc 15, 2) := by decide +kernel
theorem dL_believed_10 : decode cL_believed 10 = .ok (.ireturn, 1) := by decide +kernel
theorem dL_debt_0 : decode cL_debt 0 = .ok (.aload_n 0, 1) := by decide +kernel
theorem dL_debt_1 : decode cL_debt 1 = .ok (.iload_n 1, 1) := by decide +kernel
theorem dL_debt_2 : decode cL_debt 2 = .ok (.invokevirtual 66, 3) := by decide +kernel
theorem dL_debt_5 : decode cL_debt 5 = .ok (.ireturn, 1) := by decide +kernel
theorem dL_debt_6 : decode cL_debt 6 = .ok (.astore_n 2, 1) := by decide +kernel
theorem dL_debt_7 : decode cL_debt 7 = .ok (.ldc 15, 2) := by decide +kernel
theorem dL_debt_9 : decode cL_debt 9 = .ok (.ireturn, 1) := by decide +kernel
theorem dL_debtAnew_0 : decode cL_debtAnew 0 = .ok (.aload_n 0, 1) := by decide +kernel
theorem dL_debtAnew_1 : decode cL_debtAnew 1 = .ok (.iload_n 1, 1) := by decide +kernel
theorem dL_debtAnew_2 : decode cL_debtAnew 2 = .ok (.invokevirtual 69, 3) := by decide +kernel
theorem dL_debtAnew_5 : decode cL_debtAnew 5 = .ok (.ireturn, 1) := by decide +kernel
theorem dL_debtAnew_6 : decode cL_debtAnew 6 = .ok (.astore_n 2, 1) := by decide +kernel
theorem dL_debtAnew_7 : decode cL_debtAnew 7 = .ok (.ldc 15, 2) := by decide +kernel
theorem dL_debtAnew_9 : decode cL_debtAnew 9 = .ok (.ireturn, 1) := by decide +kernel
theorem dL_bond_0 : decode cL_bond 0 = .ok (.aload_n 0, 1) := by decide +kernel
theorem dL_bond_1 : decode cL_bond 1 = .ok (.iload_n 1, 1) := by decide +kernel
theorem dL_bond_2 : decode cL_bond 2 = .ok (.invokevirtual 72, 3) := by decide +kernel
theorem dL_bond_5 : decode cL_bond 5 = .ok (.ireturn, 1) := by decide +kernel
theorem dL_bond_6 : decode cL_bond 6 = .ok (.astore_n 2, 1) := by decide +kernel
theorem dL_bond_7 : decode cL_bond 7 = .ok (.ldc 15, 2) := by decide +kernel
theorem dL_bond_9 : decode cL_bond 9 = .ok (.ireturn, 1) := by decide +kernel
theorem dL_barred_0 : decode cL_barred 0 = .ok (.aload_n 0, 1) := by decide +kernel
theorem dL_barred_1 : decode cL_barred 1 = .ok (.iload_n 1, 1) := by decide +kernel
theorem dL_barred_2 : decode cL_barred 2 = .ok (.invokevirtual 75, 3) := by decide +kernel
theorem dL_barred_5 : decode cL_barred 5 = .ok (.ifCond .eq 7, 3) := by decide +kernel
theorem dL_barred_8 : decode cL_barred 8 = .ok (.iconst 1, 1) := by decide +kernel
theorem dL_barred_9 : decode cL_barred 9 = .ok (.goto 4, 3) := by decide +kernel
theorem dL_barred_12 : decode cL_barred 12 = .ok (.iconst 0, 1) := by decide +kernel
theorem dL_barred_13 : decode cL_barred 13 = .ok (.ireturn, 1) := by decide +kernel
theorem dL_barred_14 : decode cL_barred 14 = .ok (.astore_n 2, 1) := by decide +kernel
theorem dL_barred_15 : decode cL_barred 15 = .ok (.ldc 15, 2) := by decide +kernel
theorem dL_barred_17 : decode cL_barred 17 = .ok (.ireturn, 1) := by decide +kernel
theorem dL_callOf_0 : decode cL_callOf 0 = .ok (.aload_n 0, 1) := by decide +kernel
theorem dL_callOf_1 : decode cL_callOf 1 = .ok (.iload_n 1, 1) := by decide +kernel
theorem dL_callOf_2 : decode cL_callOf 2 = .ok (.invokevirtual 79, 3) := by decide +kernel
theorem dL_callOf_5 : decode cL_callOf 5 = .ok (.ireturn, 1) := by decide +kernel
theorem dL_callOf_6 : decode cL_callOf 6 = .ok (.astore_n 2, 1) := by decide +kernel
theorem dL_callOf_7 : decode cL_callOf 7 = .ok (.ldc 15, 2) := by decide +kernel
theorem dL_callOf_9 : decode cL_callOf 9 = .ok (.ireturn, 1) := by decide +kernel
theorem dL_free_0 : decode cL_free 0 = .ok (.aload_n 0, 1) := by decide +kernel
theorem dL_free_1 : decode cL_free 1 = .ok (.iload_n 1, 1) := by decide +kernel
theorem dL_free_2 : decode cL_free 2 = .ok (.iload_n 2, 1) := by decide +kernel
theorem dL_free_3 : decode cL_free 3 = .ok (.invokevirtual 82, 3) := by decide +kernel
theorem dL_free_6 : decode cL_free 6 = .ok (.ireturn, 1) := by decide +kernel
theorem dL_free_7 : decode cL_free 7 = .ok (.astore_n 3, 1) := by decide +kernel
theorem dL_free_8 : decode cL_free 8 = .ok (.ldc 15, 2) := by decide +kernel
theorem dL_free_10 : decode cL_free 10 = .ok (.ireturn, 1) := by decide +kernel
theorem dL_route_0 : decode cL_route 0 = .ok (.aload_n 0, 1) := by decide +kernel
theorem dL_route_1 : decode cL_route 1 = .ok (.iload_n 1, 1) := by decide +kernel
theorem dL_route_2 : decode cL_route 2 = .ok (.iload_n 2, 1) := by decide +kernel
theorem dL_route_3 : decode cL_route 3 = .ok (.invokevirtual 85, 3) := by decide +kernel
theorem dL_route_6 : decode cL_route 6 = .ok (.ireturn, 1) := by decide +kernel
theorem dL_route_7 : decode cL_route 7 = .ok (.astore_n 3, 1) := by decide +kernel
theorem dL_route_8 : decode cL_route 8 = .ok (.ldc 15, 2) := by decide +kernel
theorem dL_route_10 : decode cL_route 10 = .ok (.ireturn, 1) := by decide +kernel
theorem dL_route_11 : decode cL_route 11 = .ok (.astore_n 3, 1) := by decide +kernel
theorem dL_route_12 : decode cL_route 12 = .ok (.ldc 18, 2) := by decide +kernel
theorem dL_route_14 : decode cL_route 14 = .ok (.ireturn, 1) := by decide +kernel
theorem dL_state_0 : decode cL_state 0 = .ok (.aload_n 0, 1) := by decide +kernel
theorem dL_state_1 : decode cL_state 1 = .ok (.iload_n 1, 1) := by decide +kernel
theorem dL_state_2 : decode cL_state 2 = .ok (.invokevirtual 88, 3) := by decide +kernel
theorem dL_state_5 : decode cL_state 5 = .ok (.ireturn, 1) := by decide +kernel
theorem dL_state_6 : decode cL_state 6 = .ok (.astore_n 2, 1) := by decide +kernel
theorem dL_state_7 : decode cL_state 7 = .ok (.ldc 15, 2) := by decide +kernel
theorem dL_state_9 : decode cL_state 9 = .ok (.ireturn, 1) := by decide +kernel
theorem dL_trunks_0 : decode cL_trunks 0 = .ok (.aload_n 0, 1) := by decide +kernel
theorem dL_trunks_1 : decode cL_trunks 1 = .ok (.iload_n 1, 1) := by decide +kernel
theorem dL_trunks_2 : decode cL_trunks 2 = .ok (.invokevirtual 91, 3) := by decide +kernel
theorem dL_trunks_5 : decode cL_trunks 5 = .ok (.ireturn, 1) := by decide +kernel
theorem dL_trunks_6 : decode cL_trunks 6 = .ok (.astore_n 2, 1) := by decide +kernel
theorem dL_trunks_7 : decode cL_trunks 7 = .ok (.ldc 15, 2) := by decide +kernel
theorem dL_trunks_9 : decode cL_trunks 9 = .ok (.ireturn, 1) := by decide +kernel
theorem dL_at_0 : decode cL_at 0 = .ok (.aload_n 0, 1) := by decide +kernel
theorem dL_at_1 : decode cL_at 1 = .ok (.iload_n 1, 1) := by decide +kernel
theorem dL_at_2 : decode cL_at 2 = .ok (.iload_n 2, 1) := by decide +kernel
theorem dL_at_3 : decode cL_at 3 = .ok (.invokevirtual 94, 3) := by decide +kernel
theorem dL_at_6 : decode cL_at 6 = .ok (.ireturn, 1) := by decide +kernel
theorem dL_at_7 : decode cL_at 7 = .ok (.astore_n 3, 1) := by decide +kernel
theorem dL_at_8 : decode cL_at 8 = .ok (.ldc 15, 2) := by decide +kernel
theorem dL_at_10 : decode cL_at 10 = .ok (.ireturn, 1) := by decide +kernel
theorem dL_seconds_0 : decode cL_seconds 0 = .ok (.aload_n 0, 1) := by decide +kernel
theorem dL_seconds_1 : decode cL_seconds 1 = .ok (.iload_n 1, 1) := by decide +kernel
theorem dL_seconds_2 : decode cL_seconds 2 = .ok (.invokevirtual 97, 3) := by decide +kernel
theorem dL_seconds_5 : decode cL_seconds 5 = .ok (.ireturn, 1) := by decide +kernel
theorem dL_seconds_6 : decode cL_seconds 6 = .ok (.astore_n 2, 1) := by decide +kernel
theorem dL_seconds_7 : decode cL_seconds 7 = .ok (.ldc 15, 2) := by decide +kernel
theorem dL_seconds_9 : decode cL_seconds 9 = .ok (.ireturn, 1) := by decide +kernel
theorem dL_charged_0 : decode cL_charged 0 = .ok (.aload_n 0, 1) := by decide +kernel
theorem dL_charged_1 : decode cL_charged 1 = .ok (.iload_n 1, 1) := by decide +kernel
theorem dL_charged_2 : decode cL_charged 2 = .ok (.invokevirtual 100, 3) := by decide +kernel
theorem dL_charged_5 : decode cL_charged 5 = .ok (.ireturn, 1) := by decide +kernel
theorem dL_charged_6 : decode cL_charged 6 = .ok (.astore_n 2, 1) := by decide +kernel
theorem dL_charged_7 : decode cL_charged 7 = .ok (.ldc 15, 2) := by decide +kernel
theorem dL_charged_9 : decode cL_charged 9 = .ok (.ireturn, 1) := by decide +kernel
theorem dL_chargedAnew_0 : decode cL_chargedAnew 0 = .ok (.aload_n 0, 1) := by decide +kernel
theorem dL_chargedAnew_1 : decode cL_chargedAnew 1 = .ok (.iload_n 1, 1) := by decide +kernel
theorem dL_chargedAnew_2 : decode cL_chargedAnew 2 = .ok (.invokevirtual 103, 3) := by decide +kernel
theorem dL_chargedAnew_5 : decode cL_chargedAnew 5 = .ok (.ireturn, 1) := by decide +kernel
theorem dL_chargedAnew_6 : decode cL_chargedAnew 6 = .ok (.astore_n 2, 1) := by decide +kernel
theorem dL_chargedAnew_7 : decode cL_chargedAnew 7 = .ok (.ldc 15, 2) := by decide +kernel
theorem dL_chargedAnew_9 : decode cL_chargedAnew 9 = .ok (.ireturn, 1) := by decide +kernel
theorem dL_coins_0 : decode cL_coins 0 = .ok (.aload_n 0, 1) := by decide +kernel
theorem dL_coins_1 : decode cL_coins 1 = .ok (.iload_n 1, 1) := by decide +kernel
theorem dL_coins_2 : decode cL_coins 2 = .ok (.invokevirtual 106, 3) := by decide +kernel
theorem dL_coins_5 : decode cL_coins 5 = .ok (.ireturn, 1) := by decide +kernel
theorem dL_coins_6 : decode cL_coins 6 = .ok (.astore_n 2, 1) := by decide +kernel
theorem dL_coins_7 : decode cL_coins 7 = .ok (.ldc 15, 2) := by decide +kernel
theorem dL_coins_9 : decode cL_coins 9 = .ok (.ireturn, 1) := by decide +kernel
theorem dL_earned_0 : decode cL_earned 0 = .ok (.aload_n 0, 1) := by decide +kernel
theorem dL_earned_1 : decode cL_earned 1 = .ok (.iload_n 1, 1) := by decide +kernel
theorem dL_earned_2 : decode cL_earned 2 = .ok (.invokevirtual 109, 3) := by decide +kernel
theorem dL_earned_5 : decode cL_earned 5 = .ok (.ireturn, 1) := by decide +kernel
theorem dL_earned_6 : decode cL_earned 6 = .ok (.astore_n 2, 1) := by decide +kernel
theorem dL_earned_7 : decode cL_earned 7 = .ok (.ldc 15, 2) := by decide +kernel
theorem dL_earned_9 : decode cL_earned 9 = .ok (.ireturn, 1) := by decide +kernel
theorem dL_earnedAnew_0 : decode cL_earnedAnew 0 = .ok (.aload_n 0, 1) := by decide +kernel
theorem dL_earnedAnew_1 : decode cL_earnedAnew 1 = .ok (.iload_n 1, 1) := by decide +kernel
theorem dL_earnedAnew_2 : decode cL_earnedAnew 2 = .ok (.invokevirtual 112, 3) := by decide +kernel
theorem dL_earnedAnew_5 : decode cL_earnedAnew 5 = .ok (.ireturn, 1) := by decide +kernel
theorem dL_earnedAnew_6 : decode cL_earnedAnew 6 = .ok (.astore_n 2, 1) := by decide +kernel
theorem dL_earnedAnew_7 : decode cL_earnedAnew 7 = .ok (.ldc 15, 2) := by decide +kernel
theorem dL_earnedAnew_9 : decode cL_earnedAnew 9 = .ok (.ireturn, 1) := by decide +kernel
theorem dL_spent_0 : decode cL_spent 0 = .ok (.aload_n 0, 1) := by decide +kernel
theorem dL_spent_1 : decode cL_spent 1 = .ok (.iload_n 1, 1) := by decide +kernel
theorem dL_spent_2 : decode cL_spent 2 = .ok (.invokevirtual 115, 3) := by decide +kernel
theorem dL_spent_5 : decode cL_spent 5 = .ok (.ireturn, 1) := by decide +kernel
theorem dL_spent_6 : decode cL_spent 6 = .ok (.astore_n 2, 1) := by decide +kernel
theorem dL_spent_7 : decode cL_spent 7 = .ok (.ldc 15, 2) := by decide +kernel
theorem dL_spent_9 : decode cL_spent 9 = .ok (.ireturn, 1) := by decide +kernel
theorem dL_spentAnew_0 : decode cL_spentAnew 0 = .ok (.aload_n 0, 1) := by decide +kernel
theorem dL_spentAnew_1 : decode cL_spentAnew 1 = .ok (.iload_n 1, 1) := by decide +kernel
theorem dL_spentAnew_2 : decode cL_spentAnew 2 = .ok (.invokevirtual 118, 3) := by decide +kernel
theorem dL_spentAnew_5 : decode cL_spentAnew 5 = .ok (.ireturn, 1) := by decide +kernel
theorem dL_spentAnew_6 : decode cL_spentAnew 6 = .ok (.astore_n 2, 1) := by decide +kernel
theorem dL_spentAnew_7 : decode cL_spentAnew 7 = .ok (.ldc 15, 2) := by decide +kernel
theorem dL_spentAnew_9 : decode cL_spentAnew 9 = .ok (.ireturn, 1) := by decide +kernel
theorem dL_losses_0 : decode cL_losses 0 = .ok (.aload_n 0, 1) := by decide +kernel
theorem dL_losses_1 : decode cL_losses 1 = .ok (.iload_n 1, 1) := by decide +kernel
theorem dL_losses_2 : decode cL_losses 2 = .ok (.invokevirtual 121, 3) := by decide +kernel
theorem dL_losses_5 : decode cL_losses 5 = .ok (.ireturn, 1) := by decide +kernel
theorem dL_losses_6 : decode cL_losses 6 = .ok (.astore_n 2, 1) := by decide +kernel
theorem dL_losses_7 : decode cL_losses 7 = .ok (.ldc 15, 2) := by decide +kernel
theorem dL_losses_9 : decode cL_losses 9 = .ok (.ireturn, 1) := by decide +kernel
theorem dL_drawn_0 : decode cL_drawn 0 = .ok (.iload_n 1, 1) := by decide +kernel
theorem dL_drawn_1 : decode cL_drawn 1 = .ok (.aload_n 0, 1) := by decide +kernel
theorem dL_drawn_2 : decode cL_drawn 2 = .ok (.arraylength, 1) := by decide +kernel
theorem dL_drawn_3 : decode cL_drawn 3 = .ok (.if_icmp .ge 9, 3) := by decide +kernel
theorem dL_drawn_6 : decode cL_drawn 6 = .ok (.aload_n 0, 1) := by decide +kernel
theorem dL_drawn_7 : decode cL_drawn 7 = .ok (.iload_n 1, 1) := by decide +kernel
theorem dL_drawn_8 : decode cL_drawn 8 = .ok (.iaload, 1) := by decide +kernel
theorem dL_drawn_9 : decode cL_drawn 9 = .ok (.goto 13, 3) := by decide +kernel
theorem dL_drawn_12 : decode cL_drawn 12 = .ok (.ldc 124, 2) := by decide +kernel
theorem dL_drawn_14 : decode cL_drawn 14 = .ok (.iload_n 1, 1) := by decide +kernel
theorem dL_drawn_15 : decode cL_drawn 15 = .ok (.iconst 3, 1) := by decide +kernel
theorem dL_drawn_16 : decode cL_drawn 16 = .ok (.iadd, 1) := by decide +kernel
theorem dL_drawn_17 : decode cL_drawn 17 = .ok (.imul, 1) := by decide +kernel
theorem dL_drawn_18 : decode cL_drawn 18 = .ok (.sipush 14159, 3) := by decide +kernel
theorem dL_drawn_21 : decode cL_drawn 21 = .ok (.iadd, 1) := by decide +kernel
theorem dL_drawn_22 : decode cL_drawn 22 = .ok (.ldc 125, 2) := by decide +kernel
theorem dL_drawn_24 : decode cL_drawn 24 = .ok (.iand, 1) := by decide +kernel
theorem dL_drawn_25 : decode cL_drawn 25 = .ok (.ireturn, 1) := by decide +kernel
theorem dL_act_0 : decode cL_act 0 = .ok (.iload_n 1, 1) := by decide +kernel
theorem dL_act_1 : decode cL_act 1 = .ok (.bipush 32, 2) := by decide +kernel
theorem dL_act_3 : decode cL_act 3 = .ok (.idiv, 1) := by decide +kernel
theorem dL_act_4 : decode cL_act 4 = .ok (.istore_n 3, 1) := by decide +kernel
theorem dL_act_5 : decode cL_act 5 = .ok (.iload_n 3, 1) := by decide +kernel
theorem dL_act_6 : decode cL_act 6 = .ok (.iload_n 1, 1) := by decide +kernel
theorem dL_act_7 : decode cL_act 7 = .ok (.iconst 3, 1) := by decide +kernel
theorem dL_act_8 : decode cL_act 8 = .ok (.irem, 1) := by decide +kernel
theorem dL_act_9 : decode cL_act 9 = .ok (.ifCond .ne 8, 3) := by decide +kernel
theorem dL_act_12 : decode cL_act 12 = .ok (.bipush 12, 2) := by decide +kernel
theorem dL_act_14 : decode cL_act 14 = .ok (.goto 4, 3) := by decide +kernel
theorem dL_act_17 : decode cL_act 17 = .ok (.iconst 5, 1) := by decide +kernel
theorem dL_act_18 : decode cL_act 18 = .ok (.irem, 1) := by decide +kernel
theorem dL_act_19 : decode cL_act 19 = .ok (.istore 4, 2) := by decide +kernel
theorem dL_act_21 : decode cL_act 21 = .ok (.iload_n 3, 1) := by decide +kernel
theorem dL_act_22 : decode cL_act 22 = .ok (.bipush 12, 2) := by decide +kernel
theorem dL_act_24 : decode cL_act 24 = .ok (.idiv, 1) := by decide +kernel
theorem dL_act_25 : decode cL_act 25 = .ok (.iconst 5, 1) := by decide +kernel
theorem dL_act_26 : decode cL_act 26 = .ok (.irem, 1) := by decide +kernel
theorem dL_act_27 : decode cL_act 27 = .ok (.istore 5, 2) := by decide +kernel
theorem dL_act_29 : decode cL_act 29 = .ok (.iload_n 1, 1) := by decide +kernel
theorem dL_act_30 : decode cL_act 30 = .ok (.bipush 32, 2) := by decide +kernel
theorem dL_act_32 : decode cL_act 32 = .ok (.irem, 1) := by decide +kernel
theorem dL_act_33 : decode cL_act 33 = .ok (.tableswitch 336 0 21 #[103, 125, 125, 154, 154, 181, 181, 181, 181, 181, 190, 204, 204, 221, 237, 237, 244, 244, 266, 266, 266, 266], 103) := by decide +kernel
theorem dL_act_136 : decode cL_act 136 = .ok (.aload_n 0, 1) := by decide +kernel
theorem dL_act_137 : decode cL_act 137 = .ok (.iload 5, 2) := by decide +kernel
theorem dL_act_139 : decode cL_act 139 = .ok (.iload_n 3, 1) := by decide +kernel
theorem dL_act_140 : decode cL_act 140 = .ok (.bipush 60, 2) := by decide +kernel
theorem dL_act_142 : decode cL_act 142 = .ok (.idiv, 1) := by decide +kernel
theorem dL_act_143 : decode cL_act 143 = .ok (.bipush 10, 2) := by decide +kernel
theorem dL_act_145 : decode cL_act 145 = .ok (.irem, 1) := by decide +kernel
theorem dL_act_146 : decode cL_act 146 = .ok (.iload_n 3, 1) := by decide +kernel
theorem dL_act_147 : decode cL_act 147 = .ok (.sipush 600, 3) := by decide +kernel
theorem dL_act_150 : decode cL_act 150 = .ok (.idiv, 1) := by decide +kernel
theorem dL_act_151 : decode cL_act 151 = .ok (.bipush 10, 2) := by decide +kernel
theorem dL_act_153 : decode cL_act 153 = .ok (.irem, 1) := by decide +kernel
theorem dL_act_154 : decode cL_act 154 = .ok (.invokestatic 130, 3) := by decide +kernel
theorem dL_act_157 : decode cL_act 157 = .ok (.ireturn, 1) := by decide +kernel
theorem dL_act_158 : decode cL_act 158 = .ok (.aload_n 0, 1) := by decide +kernel
theorem dL_act_159 : decode cL_act 159 = .ok (.iload 5, 2) := by decide +kernel
theorem dL_act_161 : decode cL_act 161 = .ok (.iload_n 3, 1) := by decide +kernel
theorem dL_act_162 : decode cL_act 162 = .ok (.bipush 60, 2) := by decide +kernel
theorem dL_act_164 : decode cL_act 164 = .ok (.idiv, 1) := by decide +kernel
theorem dL_act_165 : decode cL_act 165 = .ok (.iconst 3, 1) := by decide +kernel
theorem dL_act_166 : decode cL_act 166 = .ok (.irem, 1) := by decide +kernel
theorem dL_act_167 : decode cL_act 167 = .ok (.ifCond .ne 7, 3) := by decide +kernel
theorem dL_act_170 : decode cL_act 170 = .ok (.iconst 0, 1) := by decide +kernel
theorem dL_act_171 : decode cL_act 171 = .ok (.goto 12, 3) := by decide +kernel
theorem dL_act_174 : decode cL_act 174 = .ok (.iload_n 3, 1) := by decide +kernel
theorem dL_act_175 : decode cL_act 175 = .ok (.sipush 180, 3) := by decide +kernel
theorem dL_act_178 : decode cL_act 178 = .ok (.idiv, 1) := by decide +kernel
theorem dL_act_179 : decode cL_act 179 = .ok (.sipush 300, 3) := by decide +kernel
theorem dL_act_182 : decode cL_act 182 = .ok (.irem, 1) := by decide +kernel
theorem dL_act_183 : decode cL_act 183 = .ok (.invokestatic 136, 3) := by decide +kernel
theorem dL_act_186 : decode cL_act 186 = .ok (.ireturn, 1) := by decide +kernel
theorem dL_act_187 : decode cL_act 187 = .ok (.aload_n 0, 1) := by decide +kernel
theorem dL_act_188 : decode cL_act 188 = .ok (.iload 5, 2) := by decide +kernel
theorem dL_act_190 : decode cL_act 190 = .ok (.iload 5, 2) := by decide +kernel
theorem dL_act_192 : decode cL_act 192 = .ok (.iconst 1, 1) := by decide +kernel
theorem dL_act_193 : decode cL_act 193 = .ok (.iadd, 1) := by decide +kernel
theorem dL_act_194 : decode cL_act 194 = .ok (.iload_n 3, 1) := by decide +kernel
theorem dL_act_195 : decode cL_act 195 = .ok (.bipush 60, 2) := by decide +kernel
theorem dL_act_197 : decode cL_act 197 = .ok (.idiv, 1) := by decide +kernel
theorem dL_act_198 : decode cL_act 198 = .ok (.iconst 4, 1) := by decide +kernel
theorem dL_act_199 : decode cL_act 199 = .ok (.irem, 1) := by decide +kernel
theorem dL_act_200 : decode cL_act 200 = .ok (.iadd, 1) := by decide +kernel
theorem dL_act_201 : decode cL_act 201 = .ok (.iconst 5, 1) := by decide +kernel
theorem dL_act_202 : decode cL_act 202 = .ok (.irem, 1) := by decide +kernel
theorem dL_act_203 : decode cL_act 203 = .ok (.iload_n 3, 1) := by decide +kernel
theorem dL_act_204 : decode cL_act 204 = .ok (.sipush 240, 3) := by decide +kernel
theorem dL_act_207 : decode cL_act 207 = .ok (.idiv, 1) := by decide +kernel
theorem dL_act_208 : decode cL_act 208 = .ok (.iconst 4, 1) := by decide +kernel
theorem dL_act_209 : decode cL_act 209 = .ok (.irem, 1) := by decide +kernel
theorem dL_act_210 : decode cL_act 210 = .ok (.invokestatic 140, 3) := by decide +kernel
theorem dL_act_213 : decode cL_act 213 = .ok (.ireturn, 1) := by decide +kernel
theorem dL_act_214 : decode cL_act 214 = .ok (.aload_n 0, 1) := by decide +kernel
theorem dL_act_215 : decode cL_act 215 = .ok (.iload 4, 2) := by decide +kernel
theorem dL_act_217 : decode cL_act 217 = .ok (.iload 5, 2) := by decide +kernel
theorem dL_act_219 : decode cL_act 219 = .ok (.invokestatic 143, 3) := by decide +kernel
theorem dL_act_222 : decode cL_act 222 = .ok (.ireturn, 1) := by decide +kernel
theorem dL_act_223 : decode cL_act 223 = .ok (.aload_n 0, 1) := by decide +kernel
theorem dL_act_224 : decode cL_act 224 = .ok (.iload 4, 2) := by decide +kernel
theorem dL_act_226 : decode cL_act 226 = .ok (.iload_n 3, 1) := by decide +kernel
theorem dL_act_227 : decode cL_act 227 = .ok (.bipush 12, 2) := by decide +kernel
theorem dL_act_229 : decode cL_act 229 = .ok (.idiv, 1) := by decide +kernel
theorem dL_act_230 : decode cL_act 230 = .ok (.bipush 6, 2) := by decide +kernel
theorem dL_act_232 : decode cL_act 232 = .ok (.irem, 1) := by decide +kernel
theorem dL_act_233 : decode cL_act 233 = .ok (.invokestatic 150, 3) := by decide +kernel
theorem dL_act_236 : decode cL_act 236 = .ok (.ireturn, 1) := by decide +kernel
theorem dL_act_237 : decode cL_act 237 = .ok (.aload_n 0, 1) := by decide +kernel
theorem dL_act_238 : decode cL_act 238 = .ok (.iload 4, 2) := by decide +kernel
theorem dL_act_240 : decode cL_act 240 = .ok (.iconst 1, 1) := by decide +kernel
theorem dL_act_241 : decode cL_act 241 = .ok (.iload_n 3, 1) := by decide +kernel
theorem dL_act_242 : decode cL_act 242 = .ok (.bipush 12, 2) := by decide +kernel
theorem dL_act_244 : decode cL_act 244 = .ok (.idiv, 1) := by decide +kernel
theorem dL_act_245 : decode cL_act 245 = .ok (.sipush 400, 3) := by decide +kernel
theorem dL_act_248 : decode cL_act 248 = .ok (.irem, 1) := by decide +kernel
theorem dL_act_249 : decode cL_act 249 = .ok (.iadd, 1) := by decide +kernel
theorem dL_act_250 : decode cL_act 250 = .ok (.invokestatic 156, 3) := by decide +kernel
theorem dL_act_253 : decode cL_act 253 = .ok (.ireturn, 1) := by decide +kernel
theorem dL_act_254 : decode cL_act 254 = .ok (.aload_n 0, 1) := by decide +kernel
theorem dL_act_255 : decode cL_act 255 = .ok (.iload 4, 2) := by decide +kernel
theorem dL_act_257 : decode cL_act 257 = .ok (.iconst 1, 1) := by decide +kernel
theorem dL_act_258 : decode cL_act 258 = .ok (.iload_n 3, 1) := by decide +kernel
theorem dL_act_259 : decode cL_act 259 = .ok (.bipush 12, 2) := by decide +kernel
theorem dL_act_261 : decode cL_act 261 = .ok (.idiv, 1) := by decide +kernel
theorem dL_act_262 : decode cL_act 262 = .ok (.bipush 60, 2) := by decide +kernel
theorem dL_act_264 : decode cL_act 264 = .ok (.irem, 1) := by decide +kernel
theorem dL_act_265 : decode cL_act 265 = .ok (.iadd, 1) := by decide +kernel
theorem dL_act_266 : decode cL_act 266 = .ok (.invokestatic 161, 3) := by decide +kernel
theorem dL_act_269 : decode cL_act 269 = .ok (.ireturn, 1) := by decide +kernel
theorem dL_act_270 : decode cL_act 270 = .ok (.aload_n 0, 1) := by decide +kernel
theorem dL_act_271 : decode cL_act 271 = .ok (.iload 4, 2) := by decide +kernel
theorem dL_act_273 : decode cL_act 273 = .ok (.invokestatic 166, 3) := by decide +kernel
theorem dL_act_276 : decode cL_act 276 = .ok (.ireturn, 1) := by decide +kernel
theorem dL_act_277 : decode cL_act 277 = .ok (.aload_n 0, 1) := by decide +kernel
theorem dL_act_278 : decode cL_act 278 = .ok (.aload_n 0, 1) := by decide +kernel
theorem dL_act_279 : decode cL_act 279 = .ok (.invokevirtual 126, 3) := by decide +kernel
theorem dL_act_282 : decode cL_act 282 = .ok (.ifCond .ne 7, 3) := by decide +kernel
theorem dL_act_285 : decode cL_act 285 = .ok (.iconst 0, 1) := by decide +kernel
theorem dL_act_286 : decode cL_act 286 = .ok (.goto 9, 3) := by decide +kernel
theorem dL_act_289 : decode cL_act 289 = .ok (.iload_n 3, 1) := by decide +kernel
theorem dL_act_290 : decode cL_act 290 = .ok (.aload_n 0, 1) := by decide +kernel
theorem dL_act_291 : decode cL_act 291 = .ok (.invokevirtual 126, 3) := by decide +kernel
theorem dL_act_294 : decode cL_act 294 = .ok (.irem, 1) := by decide +kernel
theorem dL_act_295 : decode cL_act 295 = .ok (.invokestatic 177, 3) := by decide +kernel
theorem dL_act_298 : decode cL_act 298 = .ok (.ireturn, 1) := by decide +kernel
theorem dL_act_299 : decode cL_act 299 = .ok (.iconst 1, 1) := by decide +kernel
theorem dL_act_300 : decode cL_act 300 = .ok (.iload_n 3, 1) := by decide +kernel
theorem dL_act_301 : decode cL_act 301 = .ok (.iload_n 3, 1) := by decide +kernel
theorem dL_act_302 : decode cL_act 302 = .ok (.bipush 7, 2) := by decide +kernel
theorem dL_act_304 : decode cL_act 304 = .ok (.irem, 1) := by decide +kernel
theorem dL_act_305 : decode cL_act 305 = .ok (.ifCond .ne 9, 3) := by decide +kernel
theorem dL_act_308 : decode cL_act 308 = .ok (.sipush 200, 3) := by decide +kernel
theorem dL_act_311 : decode cL_act 311 = .ok (.goto 5, 3) := by decide +kernel
theorem dL_act_314 : decode cL_act 314 = .ok (.bipush 50, 2) := by decide +kernel
theorem dL_act_316 : decode cL_act 316 = .ok (.irem, 1) := by decide +kernel
theorem dL_act_317 : decode cL_act 317 = .ok (.iadd, 1) := by decide +kernel
theorem dL_act_318 : decode cL_act 318 = .ok (.istore 6, 2) := by decide +kernel
theorem dL_act_320 : decode cL_act 320 = .ok (.iconst 0, 1) := by decide +kernel
theorem dL_act_321 : decode cL_act 321 = .ok (.istore 7, 2) := by decide +kernel
theorem dL_act_323 : decode cL_act 323 = .ok (.iconst 0, 1) := by decide +kernel
theorem dL_act_324 : decode cL_act 324 = .ok (.istore 8, 2) := by decide +kernel
theorem dL_act_326 : decode cL_act 326 = .ok (.iload 8, 2) := by decide +kernel
theorem dL_act_328 : decode cL_act 328 = .ok (.iload 6, 2) := by decide +kernel
theorem dL_act_330 : decode cL_act 330 = .ok (.if_icmp .ge 23, 3) := by decide +kernel
theorem dL_act_333 : decode cL_act 333 = .ok (.iload_n 2, 1) := by decide +kernel
theorem dL_act_334 : decode cL_act 334 = .ok (.ifCond .eq 19, 3) := by decide +kernel
theorem dL_act_337 : decode cL_act 337 = .ok (.iload 7, 2) := by decide +kernel
theorem dL_act_339 : decode cL_act 339 = .ok (.aload_n 0, 1) := by decide +kernel
theorem dL_act_340 : decode cL_act 340 = .ok (.iconst 1, 1) := by decide +kernel
theorem dL_act_341 : decode cL_act 341 = .ok (.invokestatic 180, 3) := by decide +kernel
theorem dL_act_344 : decode cL_act 344 = .ok (.iadd, 1) := by decide +kernel
theorem dL_act_345 : decode cL_act 345 = .ok (.istore 7, 2) := by decide +kernel
theorem dL_act_347 : decode cL_act 347 = .ok (.iinc 8 1, 3) := by decide +kernel
theorem dL_act_350 : decode cL_act 350 = .ok (.goto (-24), 3) := by decide +kernel
theorem dL_act_353 : decode cL_act 353 = .ok (.iload_n 2, 1) := by decide +kernel
theorem dL_act_354 : decode cL_act 354 = .ok (.ifCond .eq 8, 3) := by decide +kernel
theorem dL_act_357 : decode cL_act 357 = .ok (.iload 7, 2) := by decide +kernel
theorem dL_act_359 : decode cL_act 359 = .ok (.goto 9, 3) := by decide +kernel
theorem dL_act_362 : decode cL_act 362 = .ok (.aload_n 0, 1) := by decide +kernel
theorem dL_act_363 : decode cL_act 363 = .ok (.iload 6, 2) := by decide +kernel
theorem dL_act_365 : decode cL_act 365 = .ok (.invokestatic 180, 3) := by decide +kernel
theorem dL_act_368 : decode cL_act 368 = .ok (.ireturn, 1) := by decide +kernel
theorem dL_act_369 : decode cL_act 369 = .ok (.aload_n 0, 1) := by decide +kernel
theorem dL_act_370 : decode cL_act 370 = .ok (.iload 4, 2) := by decide +kernel
theorem dL_act_372 : decode cL_act 372 = .ok (.iload_n 3, 1) := by decide +kernel
theorem dL_act_373 : decode cL_act 373 = .ok (.bipush 12, 2) := by decide +kernel
theorem dL_act_375 : decode cL_act 375 = .ok (.idiv, 1) := by decide +kernel
theorem dL_act_376 : decode cL_act 376 = .ok (.bipush 12, 2) := by decide +kernel
theorem dL_act_378 : decode cL_act 378 = .ok (.irem, 1) := by decide +kernel
theorem dL_act_379 : decode cL_act 379 = .ok (.invokestatic 172, 3) := by decide +kernel
theorem dL_act_382 : decode cL_act 382 = .ok (.ireturn, 1) := by decide +kernel
theorem dL_alike_0 : decode cL_alike 0 = .ok (.aload_n 0, 1) := by decide +kernel
theorem dL_alike_1 : decode cL_alike 1 = .ok (.invokevirtual 186, 3) := by decide +kernel
theorem dL_alike_4 : decode cL_alike 4 = .ok (.aload_n 1, 1) := by decide +kernel
theorem dL_alike_5 : decode cL_alike 5 = .ok (.invokevirtual 186, 3) := by decide +kernel
theorem dL_alike_8 : decode cL_alike 8 = .ok (.if_icmp .ne 40, 3) := by decide +kernel
theorem dL_alike_11 : decode cL_alike 11 = .ok (.aload_n 0, 1) := by decide +kernel
theorem dL_alike_12 : decode cL_alike 12 = .ok (.invokevirtual 126, 3) := by decide +kernel
theorem dL_alike_15 : decode cL_alike 15 = .ok (.aload_n 1, 1) := by decide +kernel
theorem dL_alike_16 : decode cL_alike 16 = .ok (.invokevirtual 126, 3) := by decide +kernel
theorem dL_alike_19 : decode cL_alike 19 = .ok (.if_icmp .ne 29, 3) := by decide +kernel
theorem dL_alike_22 : decode cL_alike 22 = .ok (.aload_n 0, 1) := by decide +kernel
theorem dL_alike_23 : decode cL_alike 23 = .ok (.invokevirtual 222, 3) := by decide +kernel
theorem dL_alike_26 : decode cL_alike 26 = .ok (.aload_n 1, 1) := by decide +kernel
theorem dL_alike_27 : decode cL_alike 27 = .ok (.invokevirtual 222, 3) := by decide +kernel
theorem dL_alike_30 : decode cL_alike 30 = .ok (.if_icmp .ne 18, 3) := by decide +kernel
theorem dL_alike_33 : decode cL_alike 33 = .ok (.aload_n 0, 1) := by decide +kernel
theorem dL_alike_34 : decode cL_alike 34 = .ok (.invokevirtual 225, 3) := by decide +kernel
theorem dL_alike_37 : decode cL_alike 37 = .ok (.aload_n 1, 1) := by decide +kernel
theorem dL_alike_38 : decode cL_alike 38 = .ok (.invokevirtual 225, 3) := by decide +kernel
theorem dL_alike_41 : decode cL_alike 41 = .ok (.if_icmp .ne 7, 3) := by decide +kernel
theorem dL_alike_44 : decode cL_alike 44 = .ok (.iconst 1, 1) := by decide +kernel
theorem dL_alike_45 : decode cL_alike 45 = .ok (.goto 4, 3) := by decide +kernel
theorem dL_alike_48 : decode cL_alike 48 = .ok (.iconst 0, 1) := by decide +kernel
theorem dL_alike_49 : decode cL_alike 49 = .ok (.istore_n 3, 1) := by decide +kernel
theorem dL_alike_50 : decode cL_alike 50 = .ok (.iconst 0, 1) := by decide +kernel
theorem dL_alike_51 : decode cL_alike 51 = .ok (.istore 4, 2) := by decide +kernel
theorem dL_alike_53 : decode cL_alike 53 = .ok (.iload 4, 2) := by decide +kernel
theorem dL_alike_55 : decode cL_alike 55 = .ok (.bipush 12, 2) := by decide +kernel
theorem dL_alike_57 : decode cL_alike 57 = .ok (.if_icmp .ge 169, 3) := by decide +kernel
theorem dL_alike_60 : decode cL_alike 60 = .ok (.iload_n 3, 1) := by decide +kernel
theorem dL_alike_61 : decode cL_alike 61 = .ok (.ifCond .eq 165, 3) := by decide +kernel
theorem dL_alike_64 : decode cL_alike 64 = .ok (.aload_n 0, 1) := by decide +kernel
theorem dL_alike_65 : decode cL_alike 65 = .ok (.iload 4, 2) := by decide +kernel
theorem dL_alike_67 : decode cL_alike 67 = .ok (.invokestatic 146, 3) := by decide +kernel
theorem dL_alike_70 : decode cL_alike 70 = .ok (.aload_n 1, 1) := by decide +kernel
theorem dL_alike_71 : decode cL_alike 71 = .ok (.iload 4, 2) := by decide +kernel
theorem dL_alike_73 : decode cL_alike 73 = .ok (.invokestatic 146, 3) := by decide +kernel
theorem dL_alike_76 : decode cL_alike 76 = .ok (.if_icmp .ne 142, 3) := by decide +kernel
theorem dL_alike_79 : decode cL_alike 79 = .ok (.aload_n 0, 1) := by decide +kernel
theorem dL_alike_80 : decode cL_alike 80 = .ok (.iload 4, 2) := by decide +kernel
theorem dL_alike_82 : decode cL_alike 82 = .ok (.invokestatic 153, 3) := by decide +kernel
theorem dL_alike_85 : decode cL_alike 85 = .ok (.aload_n 1, 1) := by decide +kernel
theorem dL_alike_86 : decode cL_alike 86 = .ok (.iload 4, 2) := by decide +kernel
theorem dL_alike_88 : decode cL_alike 88 = .ok (.invokestatic 153, 3) := by decide +kernel
theorem dL_alike_91 : decode cL_alike 91 = .ok (.if_icmp .ne 127, 3) := by decide +kernel
theorem dL_alike_94 : decode cL_alike 94 = .ok (.aload_n 0, 1) := by decide +kernel
theorem dL_alike_95 : decode cL_alike 95 = .ok (.iload 4, 2) := by decide +kernel
theorem dL_alike_97 : decode cL_alike 97 = .ok (.invokestatic 164, 3) := by decide +kernel
theorem dL_alike_100 : decode cL_alike 100 = .ok (.aload_n 1, 1) := by decide +kernel
theorem dL_alike_101 : decode cL_alike 101 = .ok (.iload 4, 2) := by decide +kernel
theorem dL_alike_103 : decode cL_alike 103 = .ok (.invokestatic 164, 3) := by decide +kernel
theorem dL_alike_106 : decode cL_alike 106 = .ok (.if_icmp .ne 112, 3) := by decide +kernel
theorem dL_alike_109 : decode cL_alike 109 = .ok (.aload_n 0, 1) := by decide +kernel
theorem dL_alike_110 : decode cL_alike 110 = .ok (.iload 4, 2) := by decide +kernel
theorem dL_alike_112 : decode cL_alike 112 = .ok (.invokestatic 159, 3) := by decide +kernel
theorem dL_alike_115 : decode cL_alike 115 = .ok (.aload_n 1, 1) := by decide +kernel
theorem dL_alike_116 : decode cL_alike 116 = .ok (.iload 4, 2) := by decide +kernel
theorem dL_alike_118 : decode cL_alike 118 = .ok (.invokestatic 159, 3) := by decide +kernel
theorem dL_alike_121 : decode cL_alike 121 = .ok (.if_icmp .ne 97, 3) := by decide +kernel
theorem dL_alike_124 : decode cL_alike 124 = .ok (.aload_n 0, 1) := by decide +kernel
theorem dL_alike_125 : decode cL_alike 125 = .ok (.iload 4, 2) := by decide +kernel
theorem dL_alike_127 : decode cL_alike 127 = .ok (.invokestatic 169, 3) := by decide +kernel
theorem dL_alike_130 : decode cL_alike 130 = .ok (.aload_n 1, 1) := by decide +kernel
theorem dL_alike_131 : decode cL_alike 131 = .ok (.iload 4, 2) := by decide +kernel
theorem dL_alike_133 : decode cL_alike 133 = .ok (.invokestatic 169, 3) := by decide +kernel
theorem dL_alike_136 : decode cL_alike 136 = .ok (.if_icmp .ne 82, 3) := by decide +kernel
theorem dL_alike_139 : decode cL_alike 139 = .ok (.aload_n 0, 1) := by decide +kernel
theorem dL_alike_140 : decode cL_alike 140 = .ok (.iload 4, 2) := by decide +kernel
theorem dL_alike_142 : decode cL_alike 142 = .ok (.invokestatic 175, 3) := by decide +kernel
theorem dL_alike_145 : decode cL_alike 145 = .ok (.aload_n 1, 1) := by decide +kernel
theorem dL_alike_146 : decode cL_alike 146 = .ok (.iload 4, 2) := by decide +kernel
theorem dL_alike_148 : decode cL_alike 148 = .ok (.invokestatic 175, 3) := by decide +kernel
theorem dL_alike_151 : decode cL_alike 151 = .ok (.if_icmp .ne 67, 3) := by decide +kernel
theorem dL_alike_154 : decode cL_alike 154 = .ok (.aload_n 0, 1) := by decide +kernel
theorem dL_alike_155 : decode cL_alike 155 = .ok (.iload_n 2, 1) := by decide +kernel
theorem dL_alike_156 : decode cL_alike 156 = .ok (.iconst 5, 1) := by decide +kernel
theorem dL_alike_157 : decode cL_alike 157 = .ok (.irem, 1) := by decide +kernel
theorem dL_alike_158 : decode cL_alike 158 = .ok (.iload 4, 2) := by decide +kernel
theorem dL_alike_160 : decode cL_alike 160 = .ok (.invokestatic 189, 3) := by decide +kernel
theorem dL_alike_163 : decode cL_alike 163 = .ok (.aload_n 1, 1) := by decide +kernel
theorem dL_alike_164 : decode cL_alike 164 = .ok (.iload_n 2, 1) := by decide +kernel
theorem dL_alike_165 : decode cL_alike 165 = .ok (.iconst 5, 1) := by decide +kernel
theorem dL_alike_166 : decode cL_alike 166 = .ok (.irem, 1) := by decide +kernel
theorem dL_alike_167 : decode cL_alike 167 = .ok (.iload 4, 2) := by decide +kernel
theorem dL_alike_169 : decode cL_alike 169 = .ok (.invokestatic 189, 3) := by decide +kernel
theorem dL_alike_172 : decode cL_alike 172 = .ok (.if_icmp .ne 46, 3) := by decide +kernel
theorem dL_alike_175 : decode cL_alike 175 = .ok (.aload_n 0, 1) := by decide +kernel
theorem dL_alike_176 : decode cL_alike 176 = .ok (.iload 4, 2) := by decide +kernel
theorem dL_alike_178 : decode cL_alike 178 = .ok (.iload 4, 2) := by decide +kernel
theorem dL_alike_180 : decode cL_alike 180 = .ok (.iconst 1, 1) := by decide +kernel
theorem dL_alike_181 : decode cL_alike 181 = .ok (.iadd, 1) := by decide +kernel
theorem dL_alike_182 : decode cL_alike 182 = .ok (.iload_n 2, 1) := by decide +kernel
theorem dL_alike_183 : decode cL_alike 183 = .ok (.bipush 11, 2) := by decide +kernel
theorem dL_alike_185 : decode cL_alike 185 = .ok (.irem, 1) := by decide +kernel
theorem dL_alike_186 : decode cL_alike 186 = .ok (.iadd, 1) := by decide +kernel
theorem dL_alike_187 : decode cL_alike 187 = .ok (.bipush 12, 2) := by decide +kernel
theorem dL_alike_189 : decode cL_alike 189 = .ok (.irem, 1) := by decide +kernel
theorem dL_alike_190 : decode cL_alike 190 = .ok (.invokestatic 195, 3) := by decide +kernel
theorem dL_alike_193 : decode cL_alike 193 = .ok (.aload_n 1, 1) := by decide +kernel
theorem dL_alike_194 : decode cL_alike 194 = .ok (.iload 4, 2) := by decide +kernel
theorem dL_alike_196 : decode cL_alike 196 = .ok (.iload 4, 2) := by decide +kernel
theorem dL_alike_198 : decode cL_alike 198 = .ok (.iconst 1, 1) := by decide +kernel
theorem dL_alike_199 : decode cL_alike 199 = .ok (.iadd, 1) := by decide +kernel
theorem dL_alike_200 : decode cL_alike 200 = .ok (.iload_n 2, 1) := by decide +kernel
theorem dL_alike_201 : decode cL_alike 201 = .ok (.bipush 11, 2) := by decide +kernel
theorem dL_alike_203 : decode cL_alike 203 = .ok (.irem, 1) := by decide +kernel
theorem dL_alike_204 : decode cL_alike 204 = .ok (.iadd, 1) := by decide +kernel
theorem dL_alike_205 : decode cL_alike 205 = .ok (.bipush 12, 2) := by decide +kernel
theorem dL_alike_207 : decode cL_alike 207 = .ok (.irem, 1) := by decide +kernel
theorem dL_alike_208 : decode cL_alike 208 = .ok (.invokestatic 195, 3) := by decide +kernel
theorem dL_alike_211 : decode cL_alike 211 = .ok (.if_icmp .ne 7, 3) := by decide +kernel
theorem dL_alike_214 : decode cL_alike 214 = .ok (.iconst 1, 1) := by decide +kernel
theorem dL_alike_215 : decode cL_alike 215 = .ok (.goto 4, 3) := by decide +kernel
theorem dL_alike_218 : decode cL_alike 218 = .ok (.iconst 0, 1) := by decide +kernel
theorem dL_alike_219 : decode cL_alike 219 = .ok (.istore_n 3, 1) := by decide +kernel
theorem dL_alike_220 : decode cL_alike 220 = .ok (.iinc 4 1, 3) := by decide +kernel
theorem dL_alike_223 : decode cL_alike 223 = .ok (.goto (-170), 3) := by decide +kernel
theorem dL_alike_226 : decode cL_alike 226 = .ok (.iconst 0, 1) := by decide +kernel
theorem dL_alike_227 : decode cL_alike 227 = .ok (.istore 4, 2) := by decide +kernel
theorem dL_alike_229 : decode cL_alike 229 = .ok (.iload 4, 2) := by decide +kernel
theorem dL_alike_231 : decode cL_alike 231 = .ok (.iconst 5, 1) := by decide +kernel
theorem dL_alike_232 : decode cL_alike 232 = .ok (.if_icmp .ge 106, 3) := by decide +kernel
theorem dL_alike_235 : decode cL_alike 235 = .ok (.iload_n 3, 1) := by decide +kernel
theorem dL_alike_236 : decode cL_alike 236 = .ok (.ifCond .eq 102, 3) := by decide +kernel
theorem dL_alike_239 : decode cL_alike 239 = .ok (.aload_n 0, 1) := by decide +kernel
theorem dL_alike_240 : decode cL_alike 240 = .ok (.iload 4, 2) := by decide +kernel
theorem dL_alike_242 : decode cL_alike 242 = .ok (.invokestatic 210, 3) := by decide +kernel
theorem dL_alike_245 : decode cL_alike 245 = .ok (.aload_n 1, 1) := by decide +kernel
theorem dL_alike_246 : decode cL_alike 246 = .ok (.iload 4, 2) := by decide +kernel
theorem dL_alike_248 : decode cL_alike 248 = .ok (.invokestatic 210, 3) := by decide +kernel
theorem dL_alike_251 : decode cL_alike 251 = .ok (.if_icmp .ne 79, 3) := by decide +kernel
theorem dL_alike_254 : decode cL_alike 254 = .ok (.aload_n 0, 1) := by decide +kernel
theorem dL_alike_255 : decode cL_alike 255 = .ok (.iload 4, 2) := by decide +kernel
theorem dL_alike_257 : decode cL_alike 257 = .ok (.invokestatic 212, 3) := by decide +kernel
theorem dL_alike_260 : decode cL_alike 260 = .ok (.aload_n 1, 1) := by decide +kernel
theorem dL_alike_261 : decode cL_alike 261 = .ok (.iload 4, 2) := by decide +kernel
theorem dL_alike_263 : decode cL_alike 263 = .ok (.invokestatic 212, 3) := by decide +kernel
theorem dL_alike_266 : decode cL_alike 266 = .ok (.if_icmp .ne 64, 3) := by decide +kernel
theorem dL_alike_269 : decode cL_alike 269 = .ok (.aload_n 0, 1) := by decide +kernel
theorem dL_alike_270 : decode cL_alike 270 = .ok (.iload 4, 2) := by decide +kernel
theorem dL_alike_272 : decode cL_alike 272 = .ok (.invokestatic 220, 3) := by decide +kernel
theorem dL_alike_275 : decode cL_alike 275 = .ok (.aload_n 1, 1) := by decide +kernel
theorem dL_alike_276 : decode cL_alike 276 = .ok (.iload 4, 2) := by decide +kernel
theorem dL_alike_278 : decode cL_alike 278 = .ok (.invokestatic 220, 3) := by decide +kernel
theorem dL_alike_281 : decode cL_alike 281 = .ok (.if_icmp .ne 49, 3) := by decide +kernel
theorem dL_alike_284 : decode cL_alike 284 = .ok (.aload_n 0, 1) := by decide +kernel
theorem dL_alike_285 : decode cL_alike 285 = .ok (.iload 4, 2) := by decide +kernel
theorem dL_alike_287 : decode cL_alike 287 = .ok (.iload 4, 2) := by decide +kernel
theorem dL_alike_289 : decode cL_alike 289 = .ok (.iconst 1, 1) := by decide +kernel
theorem dL_alike_290 : decode cL_alike 290 = .ok (.iadd, 1) := by decide +kernel
theorem dL_alike_291 : decode cL_alike 291 = .ok (.iconst 5, 1) := by decide +kernel
theorem dL_alike_292 : decode cL_alike 292 = .ok (.irem, 1) := by decide +kernel
theorem dL_alike_293 : decode cL_alike 293 = .ok (.invokestatic 193, 3) := by decide +kernel
theorem dL_alike_296 : decode cL_alike 296 = .ok (.aload_n 1, 1) := by decide +kernel
theorem dL_alike_297 : decode cL_alike 297 = .ok (.iload 4, 2) := by decide +kernel
theorem dL_alike_299 : decode cL_alike 299 = .ok (.iload 4, 2) := by decide +kernel
theorem dL_alike_301 : decode cL_alike 301 = .ok (.iconst 1, 1) := by decide +kernel
theorem dL_alike_302 : decode cL_alike 302 = .ok (.iadd, 1) := by decide +kernel
theorem dL_alike_303 : decode cL_alike 303 = .ok (.iconst 5, 1) := by decide +kernel
theorem dL_alike_304 : decode cL_alike 304 = .ok (.irem, 1) := by decide +kernel
theorem dL_alike_305 : decode cL_alike 305 = .ok (.invokestatic 193, 3) := by decide +kernel
theorem dL_alike_308 : decode cL_alike 308 = .ok (.if_icmp .ne 22, 3) := by decide +kernel
theorem dL_alike_311 : decode cL_alike 311 = .ok (.aload_n 0, 1) := by decide +kernel
theorem dL_alike_312 : decode cL_alike 312 = .ok (.iload 4, 2) := by decide +kernel
theorem dL_alike_314 : decode cL_alike 314 = .ok (.invokestatic 216, 3) := by decide +kernel
theorem dL_alike_317 : decode cL_alike 317 = .ok (.aload_n 1, 1) := by decide +kernel
theorem dL_alike_318 : decode cL_alike 318 = .ok (.iload 4, 2) := by decide +kernel
theorem dL_alike_320 : decode cL_alike 320 = .ok (.invokestatic 216, 3) := by decide +kernel
theorem dL_alike_323 : decode cL_alike 323 = .ok (.if_icmp .ne 7, 3) := by decide +kernel
theorem dL_alike_326 : decode cL_alike 326 = .ok (.iconst 1, 1) := by decide +kernel
theorem dL_alike_327 : decode cL_alike 327 = .ok (.goto 4, 3) := by decide +kernel
theorem dL_alike_330 : decode cL_alike 330 = .ok (.iconst 0, 1) := by decide +kernel
theorem dL_alike_331 : decode cL_alike 331 = .ok (.istore_n 3, 1) := by decide +kernel
theorem dL_alike_332 : decode cL_alike 332 = .ok (.iinc 4 1, 3) := by decide +kernel
theorem dL_alike_335 : decode cL_alike 335 = .ok (.goto (-106), 3) := by decide +kernel
theorem dL_alike_338 : decode cL_alike 338 = .ok (.iconst 0, 1) := by decide +kernel
theorem dL_alike_339 : decode cL_alike 339 = .ok (.istore 4, 2) := by decide +kernel
theorem dL_alike_341 : decode cL_alike 341 = .ok (.iload 4, 2) := by decide +kernel
theorem dL_alike_343 : decode cL_alike 343 = .ok (.aload_n 0, 1) := by decide +kernel
theorem dL_alike_344 : decode cL_alike 344 = .ok (.invokevirtual 126, 3) := by decide +kernel
theorem dL_alike_347 : decode cL_alike 347 = .ok (.if_icmp .ge 64, 3) := by decide +kernel
theorem dL_alike_350 : decode cL_alike 350 = .ok (.iload_n 3, 1) := by decide +kernel
theorem dL_alike_351 : decode cL_alike 351 = .ok (.ifCond .eq 60, 3) := by decide +kernel
theorem dL_alike_354 : decode cL_alike 354 = .ok (.aload_n 0, 1) := by decide +kernel
theorem dL_alike_355 : decode cL_alike 355 = .ok (.iload 4, 2) := by decide +kernel
theorem dL_alike_357 : decode cL_alike 357 = .ok (.invokestatic 197, 3) := by decide +kernel
theorem dL_alike_360 : decode cL_alike 360 = .ok (.aload_n 1, 1) := by decide +kernel
theorem dL_alike_361 : decode cL_alike 361 = .ok (.iload 4, 2) := by decide +kernel
theorem dL_alike_363 : decode cL_alike 363 = .ok (.invokestatic 197, 3) := by decide +kernel
theorem dL_alike_366 : decode cL_alike 366 = .ok (.if_icmp .ne 37, 3) := by decide +kernel
theorem dL_alike_369 : decode cL_alike 369 = .ok (.aload_n 0, 1) := by decide +kernel
theorem dL_alike_370 : decode cL_alike 370 = .ok (.iload 4, 2) := by decide +kernel
theorem dL_alike_372 : decode cL_alike 372 = .ok (.invokestatic 204, 3) := by decide +kernel
theorem dL_alike_375 : decode cL_alike 375 = .ok (.aload_n 1, 1) := by decide +kernel
theorem dL_alike_376 : decode cL_alike 376 = .ok (.iload 4, 2) := by decide +kernel
theorem dL_alike_378 : decode cL_alike 378 = .ok (.invokestatic 204, 3) := by decide +kernel
theorem dL_alike_381 : decode cL_alike 381 = .ok (.if_icmp .ne 22, 3) := by decide +kernel
theorem dL_alike_384 : decode cL_alike 384 = .ok (.aload_n 0, 1) := by decide +kernel
theorem dL_alike_385 : decode cL_alike 385 = .ok (.iload 4, 2) := by decide +kernel
theorem dL_alike_387 : decode cL_alike 387 = .ok (.invokestatic 206, 3) := by decide +kernel
theorem dL_alike_390 : decode cL_alike 390 = .ok (.aload_n 1, 1) := by decide +kernel
theorem dL_alike_391 : decode cL_alike 391 = .ok (.iload 4, 2) := by decide +kernel
theorem dL_alike_393 : decode cL_alike 393 = .ok (.invokestatic 206, 3) := by decide +kernel
theorem dL_alike_396 : decode cL_alike 396 = .ok (.if_icmp .ne 7, 3) := by decide +kernel
theorem dL_alike_399 : decode cL_alike 399 = .ok (.iconst 1, 1) := by decide +kernel
theorem dL_alike_400 : decode cL_alike 400 = .ok (.goto 4, 3) := by decide +kernel
theorem dL_alike_403 : decode cL_alike 403 = .ok (.iconst 0, 1) := by decide +kernel
theorem dL_alike_404 : decode cL_alike 404 = .ok (.istore_n 3, 1) := by decide +kernel
theorem dL_alike_405 : decode cL_alike 405 = .ok (.iinc 4 1, 3) := by decide +kernel
theorem dL_alike_408 : decode cL_alike 408 = .ok (.goto (-67), 3) := by decide +kernel
theorem dL_alike_411 : decode cL_alike 411 = .ok (.iload_n 3, 1) := by decide +kernel
theorem dL_alike_412 : decode cL_alike 412 = .ok (.ireturn, 1) := by decide +kernel
theorem dL_holds_0 : decode cL_holds 0 = .ok (.iconst 0, 1) := by decide +kernel
theorem dL_holds_1 : decode cL_holds 1 = .ok (.istore_n 3, 1) := by decide +kernel
theorem dL_holds_2 : decode cL_holds 2 = .ok (.iconst 0, 1) := by decide +kernel
theorem dL_holds_3 : decode cL_holds 3 = .ok (.istore 4, 2) := by decide +kernel
theorem dL_holds_5 : decode cL_holds 5 = .ok (.iconst 0, 1) := by decide +kernel
theorem dL_holds_6 : decode cL_holds 6 = .ok (.istore 5, 2) := by decide +kernel
theorem dL_holds_8 : decode cL_holds 8 = .ok (.iconst 0, 1) := by decide +kernel
theorem dL_holds_9 : decode cL_holds 9 = .ok (.istore 6, 2) := by decide +kernel
theorem dL_holds_11 : decode cL_holds 11 = .ok (.iconst 0, 1) := by decide +kernel
theorem dL_holds_12 : decode cL_holds 12 = .ok (.istore 7, 2) := by decide +kernel
theorem dL_holds_14 : decode cL_holds 14 = .ok (.iconst 1, 1) := by decide +kernel
theorem dL_holds_15 : decode cL_holds 15 = .ok (.istore 8, 2) := by decide +kernel
theorem dL_holds_17 : decode cL_holds 17 = .ok (.iconst 0, 1) := by decide +kernel
theorem dL_holds_18 : decode cL_holds 18 = .ok (.istore 9, 2) := by decide +kernel
theorem dL_holds_20 : decode cL_holds 20 = .ok (.iload 9, 2) := by decide +kernel
theorem dL_holds_22 : decode cL_holds 22 = .ok (.iconst 5, 1) := by decide +kernel
theorem dL_holds_23 : decode cL_holds 23 = .ok (.if_icmp .ge 130, 3) := by decide +kernel
theorem dL_holds_26 : decode cL_holds 26 = .ok (.iload 8, 2) := by decide +kernel
theorem dL_holds_28 : decode cL_holds 28 = .ok (.ifCond .eq 125, 3) := by decide +kernel
theorem dL_holds_31 : decode cL_holds 31 = .ok (.iload_n 3, 1) := by decide +kernel
theorem dL_holds_32 : decode cL_holds 32 = .ok (.aload_n 0, 1) := by decide +kernel
theorem dL_holds_33 : decode cL_holds 33 = .ok (.iload 9, 2) := by decide +kernel
theorem dL_holds_35 : decode cL_holds 35 = .ok (.invokestatic 210, 3) := by decide +kernel
theorem dL_holds_38 : decode cL_holds 38 = .ok (.iadd, 1) := by decide +kernel
theorem dL_holds_39 : decode cL_holds 39 = .ok (.istore_n 3, 1) := by decide +kernel
theorem dL_holds_40 : decode cL_holds 40 = .ok (.iload 5, 2) := by decide +kernel
theorem dL_holds_42 : decode cL_holds 42 = .ok (.aload_n 0, 1) := by decide +kernel
theorem dL_holds_43 : decode cL_holds 43 = .ok (.iload 9, 2) := by decide +kernel
theorem dL_holds_45 : decode cL_holds 45 = .ok (.invokestatic 212, 3) := by decide +kernel
theorem dL_holds_48 : decode cL_holds 48 = .ok (.iadd, 1) := by decide +kernel
theorem dL_holds_49 : decode cL_holds 49 = .ok (.istore 5, 2) := by decide +kernel
theorem dL_holds_51 : decode cL_holds 51 = .ok (.aload_n 0, 1) := by decide +kernel
theorem dL_holds_52 : decode cL_holds 52 = .ok (.iload 9, 2) := by decide +kernel
theorem dL_holds_54 : decode cL_holds 54 = .ok (.invokestatic 212, 3) := by decide +kernel
theorem dL_holds_57 : decode cL_holds 57 = .ok (.aload_n 0, 1) := by decide +kernel
theorem dL_holds_58 : decode cL_holds 58 = .ok (.iload 9, 2) := by decide +kernel
theorem dL_holds_60 : decode cL_holds 60 = .ok (.invokestatic 214, 3) := by decide +kernel
theorem dL_holds_63 : decode cL_holds 63 = .ok (.if_icmp .ne 81, 3) := by decide +kernel
theorem dL_holds_66 : decode cL_holds 66 = .ok (.aload_n 0, 1) := by decide +kernel
theorem dL_holds_67 : decode cL_holds 67 = .ok (.iload 9, 2) := by decide +kernel
theorem dL_holds_69 : decode cL_holds 69 = .ok (.invokestatic 220, 3) := by decide +kernel
theorem dL_holds_72 : decode cL_holds 72 = .ok (.ifCond .lt 72, 3) := by decide +kernel
theorem dL_holds_75 : decode cL_holds 75 = .ok (.aload_n 0, 1) := by decide +kernel
theorem dL_holds_76 : decode cL_holds 76 = .ok (.iload 9, 2) := by decide +kernel
theorem dL_holds_78 : decode cL_holds 78 = .ok (.invokestatic 220, 3) := by decide +kernel
theorem dL_holds_81 : decode cL_holds 81 = .ok (.iconst 5, 1) := by decide +kernel
theorem dL_holds_82 : decode cL_holds 82 = .ok (.irem, 1) := by decide +kernel
theorem dL_holds_83 : decode cL_holds 83 = .ok (.ifCond .ne 61, 3) := by decide +kernel
theorem dL_holds_86 : decode cL_holds 86 = .ok (.aload_n 0, 1) := by decide +kernel
theorem dL_holds_87 : decode cL_holds 87 = .ok (.iload 9, 2) := by decide +kernel
theorem dL_holds_89 : decode cL_holds 89 = .ok (.iload 9, 2) := by decide +kernel
theorem dL_holds_91 : decode cL_holds 91 = .ok (.iconst 1, 1) := by decide +kernel
theorem dL_holds_92 : decode cL_holds 92 = .ok (.iadd, 1) := by decide +kernel
theorem dL_holds_93 : decode cL_holds 93 = .ok (.iload_n 2, 1) := by decide +kernel
theorem dL_holds_94 : decode cL_holds 94 = .ok (.iconst 4, 1) := by decide +kernel
theorem dL_holds_95 : decode cL_holds 95 = .ok (.irem, 1) := by decide +kernel
theorem dL_holds_96 : decode cL_holds 96 = .ok (.iadd, 1) := by decide +kernel
theorem dL_holds_97 : decode cL_holds 97 = .ok (.iconst 5, 1) := by decide +kernel
theorem dL_holds_98 : decode cL_holds 98 = .ok (.irem, 1) := by decide +kernel
theorem dL_holds_99 : decode cL_holds 99 = .ok (.invokestatic 193, 3) := by decide +kernel
theorem dL_holds_102 : decode cL_holds 102 = .ok (.ifCond .lt 42, 3) := by decide +kernel
theorem dL_holds_105 : decode cL_holds 105 = .ok (.aload_n 0, 1) := by decide +kernel
theorem dL_holds_106 : decode cL_holds 106 = .ok (.iload 9, 2) := by decide +kernel
theorem dL_holds_108 : decode cL_holds 108 = .ok (.iload 9, 2) := by decide +kernel
theorem dL_holds_110 : decode cL_holds 110 = .ok (.iconst 1, 1) := by decide +kernel
theorem dL_holds_111 : decode cL_holds 111 = .ok (.iadd, 1) := by decide +kernel
theorem dL_holds_112 : decode cL_holds 112 = .ok (.iload_n 2, 1) := by decide +kernel
theorem dL_holds_113 : decode cL_holds 113 = .ok (.iconst 4, 1) := by decide +kernel
theorem dL_holds_114 : decode cL_holds 114 = .ok (.irem, 1) := by decide +kernel
theorem dL_holds_115 : decode cL_holds 115 = .ok (.iadd, 1) := by decide +kernel
theorem dL_holds_116 : decode cL_holds 116 = .ok (.iconst 5, 1) := by decide +kernel
theorem dL_holds_117 : decode cL_holds 117 = .ok (.irem, 1) := by decide +kernel
theorem dL_holds_118 : decode cL_holds 118 = .ok (.invokestatic 193, 3) := by decide +kernel
theorem dL_holds_121 : decode cL_holds 121 = .ok (.aload_n 0, 1) := by decide +kernel
theorem dL_holds_122 : decode cL_holds 122 = .ok (.iload 9, 2) := by decide +kernel
theorem dL_holds_124 : decode cL_holds 124 = .ok (.iconst 1, 1) := by decide +kernel
theorem dL_holds_125 : decode cL_holds 125 = .ok (.iadd, 1) := by decide +kernel
theorem dL_holds_126 : decode cL_holds 126 = .ok (.iload_n 2, 1) := by decide +kernel
theorem dL_holds_127 : decode cL_holds 127 = .ok (.iconst 4, 1) := by decide +kernel
theorem dL_holds_128 : decode cL_holds 128 = .ok (.irem, 1) := by decide +kernel
theorem dL_holds_129 : decode cL_holds 129 = .ok (.iadd, 1) := by decide +kernel
theorem dL_holds_130 : decode cL_holds 130 = .ok (.iconst 5, 1) := by decide +kernel
theorem dL_holds_131 : decode cL_holds 131 = .ok (.irem, 1) := by decide +kernel
theorem dL_holds_132 : decode cL_holds 132 = .ok (.iload 9, 2) := by decide +kernel
theorem dL_holds_134 : decode cL_holds 134 = .ok (.invokestatic 193, 3) := by decide +kernel
theorem dL_holds_137 : decode cL_holds 137 = .ok (.if_icmp .ne 7, 3) := by decide +kernel
theorem dL_holds_140 : decode cL_holds 140 = .ok (.iconst 1, 1) := by decide +kernel
theorem dL_holds_141 : decode cL_holds 141 = .ok (.goto 4, 3) := by decide +kernel
theorem dL_holds_144 : decode cL_holds 144 = .ok (.iconst 0, 1) := by decide +kernel
theorem dL_holds_145 : decode cL_holds 145 = .ok (.istore 8, 2) := by decide +kernel
theorem dL_holds_147 : decode cL_holds 147 = .ok (.iinc 9 1, 3) := by decide +kernel
theorem dL_holds_150 : decode cL_holds 150 = .ok (.goto (-130), 3) := by decide +kernel
theorem dL_holds_153 : decode cL_holds 153 = .ok (.iconst 0, 1) := by decide +kernel
theorem dL_holds_154 : decode cL_holds 154 = .ok (.istore 9, 2) := by decide +kernel
theorem dL_holds_156 : decode cL_holds 156 = .ok (.iload 9, 2) := by decide +kernel
theorem dL_holds_158 : decode cL_holds 158 = .ok (.bipush 6, 2) := by decide +kernel
theorem dL_holds_160 : decode cL_holds 160 = .ok (.if_icmp .ge 47, 3) := by decide +kernel
theorem dL_holds_163 : decode cL_holds 163 = .ok (.iload 8, 2) := by decide +kernel
theorem dL_holds_165 : decode cL_holds 165 = .ok (.ifCond .eq 42, 3) := by decide +kernel
theorem dL_holds_168 : decode cL_holds 168 = .ok (.iload 6, 2) := by decide +kernel
theorem dL_holds_170 : decode cL_holds 170 = .ok (.aload_n 0, 1) := by decide +kernel
theorem dL_holds_171 : decode cL_holds 171 = .ok (.iload 9, 2) := by decide +kernel
theorem dL_holds_173 : decode cL_holds 173 = .ok (.invokestatic 216, 3) := by decide +kernel
theorem dL_holds_176 : decode cL_holds 176 = .ok (.iadd, 1) := by decide +kernel
theorem dL_holds_177 : decode cL_holds 177 = .ok (.istore 6, 2) := by decide +kernel
theorem dL_holds_179 : decode cL_holds 179 = .ok (.aload_n 0, 1) := by decide +kernel
theorem dL_holds_180 : decode cL_holds 180 = .ok (.iload 9, 2) := by decide +kernel
theorem dL_holds_182 : decode cL_holds 182 = .ok (.invokestatic 216, 3) := by decide +kernel
theorem dL_holds_185 : decode cL_holds 185 = .ok (.aload_n 0, 1) := by decide +kernel
theorem dL_holds_186 : decode cL_holds 186 = .ok (.iload 9, 2) := by decide +kernel
theorem dL_holds_188 : decode cL_holds 188 = .ok (.invokestatic 218, 3) := by decide +kernel
theorem dL_holds_191 : decode cL_holds 191 = .ok (.if_icmp .ne 7, 3) := by decide +kernel
theorem dL_holds_194 : decode cL_holds 194 = .ok (.iconst 1, 1) := by decide +kernel
theorem dL_holds_195 : decode cL_holds 195 = .ok (.goto 4, 3) := by decide +kernel
theorem dL_holds_198 : decode cL_holds 198 = .ok (.iconst 0, 1) := by decide +kernel
theorem dL_holds_199 : decode cL_holds 199 = .ok (.istore 8, 2) := by decide +kernel
theorem dL_holds_201 : decode cL_holds 201 = .ok (.iinc 9 1, 3) := by decide +kernel
theorem dL_holds_204 : decode cL_holds 204 = .ok (.goto (-48), 3) := by decide +kernel
theorem dL_holds_207 : decode cL_holds 207 = .ok (.iconst 0, 1) := by decide +kernel
theorem dL_holds_208 : decode cL_holds 208 = .ok (.istore 9, 2) := by decide +kernel
theorem dL_holds_210 : decode cL_holds 210 = .ok (.iload 9, 2) := by decide +kernel
theorem dL_holds_212 : decode cL_holds 212 = .ok (.bipush 12, 2) := by decide +kernel
theorem dL_holds_214 : decode cL_holds 214 = .ok (.if_icmp .ge 147, 3) := by decide +kernel
theorem dL_holds_217 : decode cL_holds 217 = .ok (.iload 8, 2) := by decide +kernel
theorem dL_holds_219 : decode cL_holds 219 = .ok (.ifCond .eq 142, 3) := by decide +kernel
theorem dL_holds_222 : decode cL_holds 222 = .ok (.aload_n 0, 1) := by decide +kernel
theorem dL_holds_223 : decode cL_holds 223 = .ok (.iload 9, 2) := by decide +kernel
theorem dL_holds_225 : decode cL_holds 225 = .ok (.invokestatic 175, 3) := by decide +kernel
theorem dL_holds_228 : decode cL_holds 228 = .ok (.istore 10, 2) := by decide +kernel
theorem dL_holds_230 : decode cL_holds 230 = .ok (.iload 4, 2) := by decide +kernel
theorem dL_holds_232 : decode cL_holds 232 = .ok (.aload_n 0, 1) := by decide +kernel
theorem dL_holds_233 : decode cL_holds 233 = .ok (.iload 9, 2) := by decide +kernel
theorem dL_holds_235 : decode cL_holds 235 = .ok (.invokestatic 164, 3) := by decide +kernel
theorem dL_holds_238 : decode cL_holds 238 = .ok (.iadd, 1) := by decide +kernel
theorem dL_holds_239 : decode cL_holds 239 = .ok (.istore 4, 2) := by decide +kernel
theorem dL_holds_241 : decode cL_holds 241 = .ok (.aload_n 0, 1) := by decide +kernel
theorem dL_holds_242 : decode cL_holds 242 = .ok (.iload 9, 2) := by decide +kernel
theorem dL_holds_244 : decode cL_holds 244 = .ok (.invokestatic 164, 3) := by decide +kernel
theorem dL_holds_247 : decode cL_holds 247 = .ok (.aload_n 0, 1) := by decide +kernel
theorem dL_holds_248 : decode cL_holds 248 = .ok (.iload 9, 2) := by decide +kernel
theorem dL_holds_250 : decode cL_holds 250 = .ok (.invokestatic 191, 3) := by decide +kernel
theorem dL_holds_253 : decode cL_holds 253 = .ok (.if_icmp .ne 99, 3) := by decide +kernel
theorem dL_holds_256 : decode cL_holds 256 = .ok (.aload_n 0, 1) := by decide +kernel
theorem dL_holds_257 : decode cL_holds 257 = .ok (.iload 9, 2) := by decide +kernel
theorem dL_holds_259 : decode cL_holds 259 = .ok (.invokestatic 164, 3) := by decide +kernel
theorem dL_holds_262 : decode cL_holds 262 = .ok (.ifCond .lt 90, 3) := by decide +kernel
theorem dL_holds_265 : decode cL_holds 265 = .ok (.aload_n 0, 1) := by decide +kernel
theorem dL_holds_266 : decode cL_holds 266 = .ok (.iload 9, 2) := by decide +kernel
theorem dL_holds_268 : decode cL_holds 268 = .ok (.invokestatic 169, 3) := by decide +kernel
theorem dL_holds_271 : decode cL_holds 271 = .ok (.ifCond .eq 12, 3) := by decide +kernel
theorem dL_holds_274 : decode cL_holds 274 = .ok (.aload_n 0, 1) := by decide +kernel
theorem dL_holds_275 : decode cL_holds 275 = .ok (.iload 9, 2) := by decide +kernel
theorem dL_holds_277 : decode cL_holds 277 = .ok (.invokestatic 164, 3) := by decide +kernel
theorem dL_holds_280 : decode cL_holds 280 = .ok (.ifCond .le 72, 3) := by decide +kernel
theorem dL_holds_283 : decode cL_holds 283 = .ok (.aload_n 0, 1) := by decide +kernel
theorem dL_holds_284 : decode cL_holds 284 = .ok (.aload_n 0, 1) := by decide +kernel
theorem dL_holds_285 : decode cL_holds 285 = .ok (.iload 9, 2) := by decide +kernel
theorem dL_holds_287 : decode cL_holds 287 = .ok (.invokestatic 146, 3) := by decide +kernel
theorem dL_holds_290 : decode cL_holds 290 = .ok (.iload 9, 2) := by decide +kernel
theorem dL_holds_292 : decode cL_holds 292 = .ok (.invokestatic 189, 3) := by decide +kernel
theorem dL_holds_295 : decode cL_holds 295 = .ok (.aload_n 0, 1) := by decide +kernel
theorem dL_holds_296 : decode cL_holds 296 = .ok (.iload 9, 2) := by decide +kernel
theorem dL_holds_298 : decode cL_holds 298 = .ok (.invokestatic 146, 3) := by decide +kernel
theorem dL_holds_301 : decode cL_holds 301 = .ok (.if_icmp .ne 51, 3) := by decide +kernel
theorem dL_holds_304 : decode cL_holds 304 = .ok (.aload_n 0, 1) := by decide +kernel
theorem dL_holds_305 : decode cL_holds 305 = .ok (.iload 9, 2) := by decide +kernel
theorem dL_holds_307 : decode cL_holds 307 = .ok (.aload_n 0, 1) := by decide +kernel
theorem dL_holds_308 : decode cL_holds 308 = .ok (.invokevirtual 186, 3) := by decide +kernel
theorem dL_holds_311 : decode cL_holds 311 = .ok (.invokestatic 183, 3) := by decide +kernel
theorem dL_holds_314 : decode cL_holds 314 = .ok (.aload_n 0, 1) := by decide +kernel
theorem dL_holds_315 : decode cL_holds 315 = .ok (.iload 9, 2) := by decide +kernel
theorem dL_holds_317 : decode cL_holds 317 = .ok (.invokestatic 146, 3) := by decide +kernel
theorem dL_holds_320 : decode cL_holds 320 = .ok (.if_icmp .ne 32, 3) := by decide +kernel
theorem dL_holds_323 : decode cL_holds 323 = .ok (.aload_n 0, 1) := by decide +kernel
theorem dL_holds_324 : decode cL_holds 324 = .ok (.iload 9, 2) := by decide +kernel
theorem dL_holds_326 : decode cL_holds 326 = .ok (.iconst 0, 1) := by decide +kernel
theorem dL_holds_327 : decode cL_holds 327 = .ok (.invokestatic 183, 3) := by decide +kernel
theorem dL_holds_330 : decode cL_holds 330 = .ok (.ifCond .lt 22, 3) := by decide +kernel
theorem dL_holds_333 : decode cL_holds 333 = .ok (.iload 10, 2) := by decide +kernel
theorem dL_holds_335 : decode cL_holds 335 = .ok (.iconst (-1), 1) := by decide +kernel
theorem dL_holds_336 : decode cL_holds 336 = .ok (.if_icmp .eq 12, 3) := by decide +kernel
theorem dL_holds_339 : decode cL_holds 339 = .ok (.aload_n 0, 1) := by decide +kernel
theorem dL_holds_340 : decode cL_holds 340 = .ok (.iload 10, 2) := by decide +kernel
theorem dL_holds_342 : decode cL_holds 342 = .ok (.invokestatic 197, 3) := by decide +kernel
theorem dL_holds_345 : decode cL_holds 345 = .ok (.ifCond .ne 7, 3) := by decide +kernel
theorem dL_holds_348 : decode cL_holds 348 = .ok (.iconst 1, 1) := by decide +kernel
theorem dL_holds_349 : decode cL_holds 349 = .ok (.goto 4, 3) := by decide +kernel
theorem dL_holds_352 : decode cL_holds 352 = .ok (.iconst 0, 1) := by decide +kernel
theorem dL_holds_353 : decode cL_holds 353 = .ok (.istore 8, 2) := by decide +kernel
theorem dL_holds_355 : decode cL_holds 355 = .ok (.iinc 9 1, 3) := by decide +kernel
theorem dL_holds_358 : decode cL_holds 358 = .ok (.goto (-148), 3) := by decide +kernel
theorem dL_holds_361 : decode cL_holds 361 = .ok (.iconst 0, 1) := by decide +kernel
theorem dL_holds_362 : decode cL_holds 362 = .ok (.istore 9, 2) := by decide +kernel
theorem dL_holds_364 : decode cL_holds 364 = .ok (.iload 9, 2) := by decide +kernel
theorem dL_holds_366 : decode cL_holds 366 = .ok (.aload_n 0, 1) := by decide +kernel
theorem dL_holds_367 : decode cL_holds 367 = .ok (.invokevirtual 126, 3) := by decide +kernel
theorem dL_holds_370 : decode cL_holds 370 = .ok (.if_icmp .ge 172, 3) := by decide +kernel
theorem dL_holds_373 : decode cL_holds 373 = .ok (.iload 8, 2) := by decide +kernel
theorem dL_holds_375 : decode cL_holds 375 = .ok (.ifCond .eq 167, 3) := by decide +kernel
theorem dL_holds_378 : decode cL_holds 378 = .ok (.aload_n 0, 1) := by decide +kernel
theorem dL_holds_379 : decode cL_holds 379 = .ok (.iload 9, 2) := by decide +kernel
theorem dL_holds_381 : decode cL_holds 381 = .ok (.invokestatic 199, 3) := by decide +kernel
theorem dL_holds_384 : decode cL_holds 384 = .ok (.istore 10, 2) := by decide +kernel
theorem dL_holds_386 : decode cL_holds 386 = .ok (.iload 7, 2) := by decide +kernel
theorem dL_holds_388 : decode cL_holds 388 = .ok (.aload_n 0, 1) := by decide +kernel
theorem dL_holds_389 : decode cL_holds 389 = .ok (.iload 9, 2) := by decide +kernel
theorem dL_holds_391 : decode cL_holds 391 = .ok (.invokestatic 206, 3) := by decide +kernel
theorem dL_holds_394 : decode cL_holds 394 = .ok (.iadd, 1) := by decide +kernel
theorem dL_holds_395 : decode cL_holds 395 = .ok (.istore 7, 2) := by decide +kernel
theorem dL_holds_397 : decode cL_holds 397 = .ok (.aload_n 0, 1) := by decide +kernel
theorem dL_holds_398 : decode cL_holds 398 = .ok (.iload 9, 2) := by decide +kernel
theorem dL_holds_400 : decode cL_holds 400 = .ok (.invokestatic 206, 3) := by decide +kernel
theorem dL_holds_403 : decode cL_holds 403 = .ok (.aload_n 0, 1) := by decide +kernel
theorem dL_holds_404 : decode cL_holds 404 = .ok (.iload 9, 2) := by decide +kernel
theorem dL_holds_406 : decode cL_holds 406 = .ok (.invokestatic 208, 3) := by decide +kernel
theorem dL_holds_409 : decode cL_holds 409 = .ok (.if_icmp .ne 62, 3) := by decide +kernel
theorem dL_holds_412 : decode cL_holds 412 = .ok (.iload 10, 2) := by decide +kernel
theorem dL_holds_414 : decode cL_holds 414 = .ok (.ifCond .lt 57, 3) := by decide +kernel
theorem dL_holds_417 : decode cL_holds 417 = .ok (.iload 10, 2) := by decide +kernel
theorem dL_holds_419 : decode cL_holds 419 = .ok (.iconst 5, 1) := by decide +kernel
theorem dL_holds_420 : decode cL_holds 420 = .ok (.if_icmp .ge 51, 3) := by decide +kernel
theorem dL_holds_423 : decode cL_holds 423 = .ok (.aload_n 0, 1) := by decide +kernel
theorem dL_holds_424 : decode cL_holds 424 = .ok (.iload 9, 2) := by decide +kernel
theorem dL_holds_426 : decode cL_holds 426 = .ok (.invokestatic 206, 3) := by decide +kernel
theorem dL_holds_429 : decode cL_holds 429 = .ok (.bipush 9, 2) := by decide +kernel
theorem dL_holds_431 : decode cL_holds 431 = .ok (.aload_n 0, 1) := by decide +kernel
theorem dL_holds_432 : decode cL_holds 432 = .ok (.iload 9, 2) := by decide +kernel
theorem dL_holds_434 : decode cL_holds 434 = .ok (.invokestatic 204, 3) := by decide +kernel
theorem dL_holds_437 : decode cL_holds 437 = .ok (.imul, 1) := by decide +kernel
theorem dL_holds_438 : decode cL_holds 438 = .ok (.if_icmp .gt 33, 3) := by decide +kernel
theorem dL_holds_441 : decode cL_holds 441 = .ok (.aload_n 0, 1) := by decide +kernel
theorem dL_holds_442 : decode cL_holds 442 = .ok (.iload 9, 2) := by decide +kernel
theorem dL_holds_444 : decode cL_holds 444 = .ok (.iload 10, 2) := by decide +kernel
theorem dL_holds_446 : decode cL_holds 446 = .ok (.invokestatic 201, 3) := by decide +kernel
theorem dL_holds_449 : decode cL_holds 449 = .ok (.ifCond .lt 22, 3) := by decide +kernel
theorem dL_holds_452 : decode cL_holds 452 = .ok (.aload_n 0, 1) := by decide +kernel
theorem dL_holds_453 : decode cL_holds 453 = .ok (.iload 9, 2) := by decide +kernel
theorem dL_holds_455 : decode cL_holds 455 = .ok (.iload 10, 2) := by decide +kernel
theorem dL_holds_457 : decode cL_holds 457 = .ok (.iconst 1, 1) := by decide +kernel
theorem dL_holds_458 : decode cL_holds 458 = .ok (.iadd, 1) := by decide +kernel
theorem dL_holds_459 : decode cL_holds 459 = .ok (.invokestatic 201, 3) := by decide +kernel
theorem dL_holds_462 : decode cL_holds 462 = .ok (.ldc 15, 2) := by decide +kernel
theorem dL_holds_464 : decode cL_holds 464 = .ok (.if_icmp .ne 7, 3) := by decide +kernel
theorem dL_holds_467 : decode cL_holds 467 = .ok (.iconst 1, 1) := by decide +kernel
theorem dL_holds_468 : decode cL_holds 468 = .ok (.goto 4, 3) := by decide +kernel
theorem dL_holds_471 : decode cL_holds 471 = .ok (.iconst 0, 1) := by decide +kernel
theorem dL_holds_472 : decode cL_holds 472 = .ok (.istore 8, 2) := by decide +kernel
theorem dL_holds_474 : decode cL_holds 474 = .ok (.iconst 0, 1) := by decide +kernel
theorem dL_holds_475 : decode cL_holds 475 = .ok (.istore 11, 2) := by decide +kernel
theorem dL_holds_477 : decode cL_holds 477 = .ok (.iconst 0, 1) := by decide +kernel
theorem dL_holds_478 : decode cL_holds 478 = .ok (.istore 12, 2) := by decide +kernel
theorem dL_holds_480 : decode cL_holds 480 = .ok (.iload 12, 2) := by decide +kernel
theorem dL_holds_482 : decode cL_holds 482 = .ok (.iload 10, 2) := by decide +kernel
theorem dL_holds_484 : decode cL_holds 484 = .ok (.if_icmp .gt 52, 3) := by decide +kernel
theorem dL_holds_487 : decode cL_holds 487 = .ok (.iload 8, 2) := by decide +kernel
theorem dL_holds_489 : decode cL_holds 489 = .ok (.ifCond .eq 47, 3) := by decide +kernel
theorem dL_holds_492 : decode cL_holds 492 = .ok (.iload 11, 2) := by decide +kernel
theorem dL_holds_494 : decode cL_holds 494 = .ok (.aload_n 0, 1) := by decide +kernel
theorem dL_holds_495 : decode cL_holds 495 = .ok (.iload 9, 2) := by decide +kernel
theorem dL_holds_497 : decode cL_holds 497 = .ok (.iload 12, 2) := by decide +kernel
theorem dL_holds_499 : decode cL_holds 499 = .ok (.invokestatic 201, 3) := by decide +kernel
theorem dL_holds_502 : decode cL_holds 502 = .ok (.ishr, 1) := by decide +kernel
theorem dL_holds_503 : decode cL_holds 503 = .ok (.iconst 1, 1) := by decide +kernel
theorem dL_holds_504 : decode cL_holds 504 = .ok (.iand, 1) := by decide +kernel
theorem dL_holds_505 : decode cL_holds 505 = .ok (.ifCond .ne 7, 3) := by decide +kernel
theorem dL_holds_508 : decode cL_holds 508 = .ok (.iconst 1, 1) := by decide +kernel
theorem dL_holds_509 : decode cL_holds 509 = .ok (.goto 4, 3) := by decide +kernel
theorem dL_holds_512 : decode cL_holds 512 = .ok (.iconst 0, 1) := by decide +kernel
theorem dL_holds_513 : decode cL_holds 513 = .ok (.istore 8, 2) := by decide +kernel
theorem dL_holds_515 : decode cL_holds 515 = .ok (.iload 11, 2) := by decide +kernel
theorem dL_holds_517 : decode cL_holds 517 = .ok (.iconst 1, 1) := by decide +kernel
theorem dL_holds_518 : decode cL_holds 518 = .ok (.aload_n 0, 1) := by decide +kernel
theorem dL_holds_519 : decode cL_holds 519 = .ok (.iload 9, 2) := by decide +kernel
theorem dL_holds_521 : decode cL_holds 521 = .ok (.iload 12, 2) := by decide +kernel
theorem dL_holds_523 : decode cL_holds 523 = .ok (.invokestatic 201, 3) := by decide +kernel
theorem dL_holds_526 : decode cL_holds 526 = .ok (.ishl, 1) := by decide +kernel
theorem dL_holds_527 : decode cL_holds 527 = .ok (.ior, 1) := by decide +kernel
theorem dL_holds_528 : decode cL_holds 528 = .ok (.istore 11, 2) := by decide +kernel
theorem dL_holds_530 : decode cL_holds 530 = .ok (.iinc 12 1, 3) := by decide +kernel
theorem dL_holds_533 : decode cL_holds 533 = .ok (.goto (-53), 3) := by decide +kernel
theorem dL_holds_536 : decode cL_holds 536 = .ok (.iinc 9 1, 3) := by decide +kernel
theorem dL_holds_539 : decode cL_holds 539 = .ok (.goto (-175), 3) := by decide +kernel
theorem dL_holds_542 : decode cL_holds 542 = .ok (.iload 8, 2) := by decide +kernel
theorem dL_holds_544 : decode cL_holds 544 = .ok (.ifCond .eq 39, 3) := by decide +kernel
theorem dL_holds_547 : decode cL_holds 547 = .ok (.iload_n 3, 1) := by decide +kernel
theorem dL_holds_548 : decode cL_holds 548 = .ok (.aload_n 1, 1) := by decide +kernel
theorem dL_holds_549 : decode cL_holds 549 = .ok (.iconst 0, 1) := by decide +kernel
theorem dL_holds_550 : decode cL_holds 550 = .ok (.iaload, 1) := by decide +kernel
theorem dL_holds_551 : decode cL_holds 551 = .ok (.if_icmp .ne 32, 3) := by decide +kernel
theorem dL_holds_554 : decode cL_holds 554 = .ok (.iload 5, 2) := by decide +kernel
theorem dL_holds_556 : decode cL_holds 556 = .ok (.iload 6, 2) := by decide +kernel
theorem dL_holds_558 : decode cL_holds 558 = .ok (.if_icmp .ne 25, 3) := by decide +kernel
theorem dL_holds_561 : decode cL_holds 561 = .ok (.iload 5, 2) := by decide +kernel
theorem dL_holds_563 : decode cL_holds 563 = .ok (.iload 7, 2) := by decide +kernel
theorem dL_holds_565 : decode cL_holds 565 = .ok (.if_icmp .ne 18, 3) := by decide +kernel
theorem dL_holds_568 : decode cL_holds 568 = .ok (.iload 4, 2) := by decide +kernel
theorem dL_holds_570 : decode cL_holds 570 = .ok (.iload 7, 2) := by decide +kernel
theorem dL_holds_572 : decode cL_holds 572 = .ok (.aload_n 1, 1) := by decide +kernel
theorem dL_holds_573 : decode cL_holds 573 = .ok (.iconst 0, 1) := by decide +kernel
theorem dL_holds_574 : decode cL_holds 574 = .ok (.iaload, 1) := by decide +kernel
theorem dL_holds_575 : decode cL_holds 575 = .ok (.isub, 1) := by decide +kernel
theorem dL_holds_576 : decode cL_holds 576 = .ok (.if_icmp .ne 7, 3) := by decide +kernel
theorem dL_holds_579 : decode cL_holds 579 = .ok (.iconst 1, 1) := by decide +kernel
theorem dL_holds_580 : decode cL_holds 580 = .ok (.goto 4, 3) := by decide +kernel
theorem dL_holds_583 : decode cL_holds 583 = .ok (.iconst 0, 1) := by decide +kernel
theorem dL_holds_584 : decode cL_holds 584 = .ok (.ireturn, 1) := by decide +kernel
theorem dL_ends_0 : decode cL_ends 0 = .ok (.iconst 1, 1) := by decide +kernel
theorem dL_ends_1 : decode cL_ends 1 = .ok (.istore_n 2, 1) := by decide +kernel
theorem dL_ends_2 : decode cL_ends 2 = .ok (.iconst 0, 1) := by decide +kernel
theorem dL_ends_3 : decode cL_ends 3 = .ok (.istore_n 3, 1) := by decide +kernel
theorem dL_ends_4 : decode cL_ends 4 = .ok (.iload_n 3, 1) := by decide +kernel
theorem dL_ends_5 : decode cL_ends 5 = .ok (.aload_n 0, 1) := by decide +kernel
theorem dL_ends_6 : decode cL_ends 6 = .ok (.invokevirtual 126, 3) := by decide +kernel
theorem dL_ends_9 : decode cL_ends 9 = .ok (.if_icmp .ge 40, 3) := by decide +kernel
theorem dL_ends_12 : decode cL_ends 12 = .ok (.iload_n 2, 1) := by decide +kernel
theorem dL_ends_13 : decode cL_ends 13 = .ok (.ifCond .eq 36, 3) := by decide +kernel
theorem dL_ends_16 : decode cL_ends 16 = .ok (.aload_n 0, 1) := by decide +kernel
theorem dL_ends_17 : decode cL_ends 17 = .ok (.iload_n 3, 1) := by decide +kernel
theorem dL_ends_18 : decode cL_ends 18 = .ok (.invokestatic 197, 3) := by decide +kernel
theorem dL_ends_21 : decode cL_ends 21 = .ok (.ifCond .ne 16, 3) := by decide +kernel
theorem dL_ends_24 : decode cL_ends 24 = .ok (.aload_n 0, 1) := by decide +kernel
theorem dL_ends_25 : decode cL_ends 25 = .ok (.iload_n 3, 1) := by decide +kernel
theorem dL_ends_26 : decode cL_ends 26 = .ok (.invokestatic 177, 3) := by decide +kernel
theorem dL_ends_29 : decode cL_ends 29 = .ok (.aload_n 0, 1) := by decide +kernel
theorem dL_ends_30 : decode cL_ends 30 = .ok (.iload_n 3, 1) := by decide +kernel
theorem dL_ends_31 : decode cL_ends 31 = .ok (.invokestatic 204, 3) := by decide +kernel
theorem dL_ends_34 : decode cL_ends 34 = .ok (.if_icmp .ne 7, 3) := by decide +kernel
theorem dL_ends_37 : decode cL_ends 37 = .ok (.iconst 1, 1) := by decide +kernel
theorem dL_ends_38 : decode cL_ends 38 = .ok (.goto 4, 3) := by decide +kernel
theorem dL_ends_41 : decode cL_ends 41 = .ok (.iconst 0, 1) := by decide +kernel
theorem dL_ends_42 : decode cL_ends 42 = .ok (.istore_n 2, 1) := by decide +kernel
theorem dL_ends_43 : decode cL_ends 43 = .ok (.iinc 3 1, 3) := by decide +kernel
theorem dL_ends_46 : decode cL_ends 46 = .ok (.goto (-42), 3) := by decide +kernel
theorem dL_ends_49 : decode cL_ends 49 = .ok (.iconst 0, 1) := by decide +kernel
theorem dL_ends_50 : decode cL_ends 50 = .ok (.istore_n 3, 1) := by decide +kernel
theorem dL_ends_51 : decode cL_ends 51 = .ok (.iconst 0, 1) := by decide +kernel
theorem dL_ends_52 : decode cL_ends 52 = .ok (.istore 4, 2) := by decide +kernel
theorem dL_ends_54 : decode cL_ends 54 = .ok (.iload 4, 2) := by decide +kernel
theorem dL_ends_56 : decode cL_ends 56 = .ok (.bipush 12, 2) := by decide +kernel
theorem dL_ends_58 : decode cL_ends 58 = .ok (.if_icmp .ge 79, 3) := by decide +kernel
theorem dL_ends_61 : decode cL_ends 61 = .ok (.iload_n 2, 1) := by decide +kernel
theorem dL_ends_62 : decode cL_ends 62 = .ok (.ifCond .eq 75, 3) := by decide +kernel
theorem dL_ends_65 : decode cL_ends 65 = .ok (.aload_n 0, 1) := by decide +kernel
theorem dL_ends_66 : decode cL_ends 66 = .ok (.iload 4, 2) := by decide +kernel
theorem dL_ends_68 : decode cL_ends 68 = .ok (.invokestatic 164, 3) := by decide +kernel
theorem dL_ends_71 : decode cL_ends 71 = .ok (.istore 5, 2) := by decide +kernel
theorem dL_ends_73 : decode cL_ends 73 = .ok (.aload_n 0, 1) := by decide +kernel
theorem dL_ends_74 : decode cL_ends 74 = .ok (.iload 4, 2) := by decide +kernel
theorem dL_ends_76 : decode cL_ends 76 = .ok (.invokestatic 175, 3) := by decide +kernel
theorem dL_ends_79 : decode cL_ends 79 = .ok (.iconst (-1), 1) := by decide +kernel
theorem dL_ends_80 : decode cL_ends 80 = .ok (.if_icmp .ne 41, 3) := by decide +kernel
theorem dL_ends_83 : decode cL_ends 83 = .ok (.iload 5, 2) := by decide +kernel
theorem dL_ends_85 : decode cL_ends 85 = .ok (.ifCond .eq 14, 3) := by decide +kernel
theorem dL_ends_88 : decode cL_ends 88 = .ok (.aload_n 0, 1) := by decide +kernel
theorem dL_ends_89 : decode cL_ends 89 = .ok (.iload 4, 2) := by decide +kernel
theorem dL_ends_91 : decode cL_ends 91 = .ok (.iload 5, 2) := by decide +kernel
theorem dL_ends_93 : decode cL_ends 93 = .ok (.invokestatic 161, 3) := by decide +kernel
theorem dL_ends_96 : decode cL_ends 96 = .ok (.ifCond .ne 25, 3) := by decide +kernel
theorem dL_ends_99 : decode cL_ends 99 = .ok (.aload_n 0, 1) := by decide +kernel
theorem dL_ends_100 : decode cL_ends 100 = .ok (.iload 4, 2) := by decide +kernel
theorem dL_ends_102 : decode cL_ends 102 = .ok (.invokestatic 164, 3) := by decide +kernel
theorem dL_ends_105 : decode cL_ends 105 = .ok (.ifCond .ne 16, 3) := by decide +kernel
theorem dL_ends_108 : decode cL_ends 108 = .ok (.aload_n 0, 1) := by decide +kernel
theorem dL_ends_109 : decode cL_ends 109 = .ok (.iload 4, 2) := by decide +kernel
theorem dL_ends_111 : decode cL_ends 111 = .ok (.invokestatic 169, 3) := by decide +kernel
theorem dL_ends_114 : decode cL_ends 114 = .ok (.ifCond .ne 7, 3) := by decide +kernel
theorem dL_ends_117 : decode cL_ends 117 = .ok (.iconst 1, 1) := by decide +kernel
theorem dL_ends_118 : decode cL_ends 118 = .ok (.goto 4, 3) := by decide +kernel
theorem dL_ends_121 : decode cL_ends 121 = .ok (.iconst 0, 1) := by decide +kernel
theorem dL_ends_122 : decode cL_ends 122 = .ok (.istore_n 2, 1) := by decide +kernel
theorem dL_ends_123 : decode cL_ends 123 = .ok (.aload_n 1, 1) := by decide +kernel
theorem dL_ends_124 : decode cL_ends 124 = .ok (.iconst 0, 1) := by decide +kernel
theorem dL_ends_125 : decode cL_ends 125 = .ok (.dup2, 1) := by decide +kernel
theorem dL_ends_126 : decode cL_ends 126 = .ok (.iaload, 1) := by decide +kernel
theorem dL_ends_127 : decode cL_ends 127 = .ok (.iload 5, 2) := by decide +kernel
theorem dL_ends_129 : decode cL_ends 129 = .ok (.iadd, 1) := by decide +kernel
theorem dL_ends_130 : decode cL_ends 130 = .ok (.iastore, 1) := by decide +kernel
theorem dL_ends_131 : decode cL_ends 131 = .ok (.iinc 4 1, 3) := by decide +kernel
theorem dL_ends_134 : decode cL_ends 134 = .ok (.goto (-80), 3) := by decide +kernel
theorem dL_ends_137 : decode cL_ends 137 = .ok (.iconst 0, 1) := by decide +kernel
theorem dL_ends_138 : decode cL_ends 138 = .ok (.istore 4, 2) := by decide +kernel
theorem dL_ends_140 : decode cL_ends 140 = .ok (.iload 4, 2) := by decide +kernel
theorem dL_ends_142 : decode cL_ends 142 = .ok (.iconst 5, 1) := by decide +kernel
theorem dL_ends_143 : decode cL_ends 143 = .ok (.if_icmp .ge 18, 3) := by decide +kernel
theorem dL_ends_146 : decode cL_ends 146 = .ok (.iload_n 3, 1) := by decide +kernel
theorem dL_ends_147 : decode cL_ends 147 = .ok (.aload_n 0, 1) := by decide +kernel
theorem dL_ends_148 : decode cL_ends 148 = .ok (.iload 4, 2) := by decide +kernel
theorem dL_ends_150 : decode cL_ends 150 = .ok (.invokestatic 212, 3) := by decide +kernel
theorem dL_ends_153 : decode cL_ends 153 = .ok (.iadd, 1) := by decide +kernel
theorem dL_ends_154 : decode cL_ends 154 = .ok (.istore_n 3, 1) := by decide +kernel
theorem dL_ends_155 : decode cL_ends 155 = .ok (.iinc 4 1, 3) := by decide +kernel
theorem dL_ends_158 : decode cL_ends 158 = .ok (.goto (-18), 3) := by decide +kernel
theorem dL_ends_161 : decode cL_ends 161 = .ok (.iload_n 2, 1) := by decide +kernel
theorem dL_ends_162 : decode cL_ends 162 = .ok (.ifCond .eq 24, 3) := by decide +kernel
theorem dL_ends_165 : decode cL_ends 165 = .ok (.aload_n 0, 1) := by decide +kernel
theorem dL_ends_166 : decode cL_ends 166 = .ok (.sipush 1000, 3) := by decide +kernel
theorem dL_ends_169 : decode cL_ends 169 = .ok (.invokestatic 180, 3) := by decide +kernel
theorem dL_ends_172 : decode cL_ends 172 = .ok (.ifCond .ne 14, 3) := by decide +kernel
theorem dL_ends_175 : decode cL_ends 175 = .ok (.aload_n 1, 1) := by decide +kernel
theorem dL_ends_176 : decode cL_ends 176 = .ok (.iconst 0, 1) := by decide +kernel
theorem dL_ends_177 : decode cL_ends 177 = .ok (.iaload, 1) := by decide +kernel
theorem dL_ends_178 : decode cL_ends 178 = .ok (.iload_n 3, 1) := by decide +kernel
theorem dL_ends_179 : decode cL_ends 179 = .ok (.if_icmp .ne 7, 3) := by decide +kernel
theorem dL_ends_182 : decode cL_ends 182 = .ok (.iconst 1, 1) := by decide +kernel
theorem dL_ends_183 : decode cL_ends 183 = .ok (.goto 4, 3) := by decide +kernel
theorem dL_ends_186 : decode cL_ends 186 = .ok (.iconst 0, 1) := by decide +kernel
theorem dL_ends_187 : decode cL_ends 187 = .ok (.ireturn, 1) := by decide +kernel
