theorem dX5_init_0 : decode cX5_init 0 = .ok (.aload_n 0, 1) := by decide +kernel
theorem dX5_init_1 : decode cX5_init 1 = .ok (.invokespecial 1, 3) := by decide +kernel
theorem dX5_init_4 : decode cX5_init 4 = .ok (.aload_n 0, 1) := by decide +kernel
theorem dX5_init_5 : decode cX5_init 5 = .ok (.new 7, 3) := by decide +kernel
theorem dX5_init_8 : decode cX5_init 8 = .ok (.dup, 1) := by decide +kernel
theorem dX5_init_9 : decode cX5_init 9 = .ok (.iload_n 1, 1) := by decide +kernel
theorem dX5_init_10 : decode cX5_init 10 = .ok (.invokespecial 9, 3) := by decide +kernel
theorem dX5_init_13 : decode cX5_init 13 = .ok (.putfield 12, 3) := by decide +kernel
theorem dX5_init_16 : decode cX5_init 16 = .ok (.aload_n 0, 1) := by decide +kernel
theorem dX5_init_17 : decode cX5_init 17 = .ok (.new 18, 3) := by decide +kernel
theorem dX5_init_20 : decode cX5_init 20 = .ok (.dup, 1) := by decide +kernel
theorem dX5_init_21 : decode cX5_init 21 = .ok (.invokespecial 20, 3) := by decide +kernel
theorem dX5_init_24 : decode cX5_init 24 = .ok (.putfield 21, 3) := by decide +kernel
theorem dX5_init_27 : decode cX5_init 27 = .ok (.aload_n 0, 1) := by decide +kernel
theorem dX5_init_28 : decode cX5_init 28 = .ok (.new 25, 3) := by decide +kernel
theorem dX5_init_31 : decode cX5_init 31 = .ok (.dup, 1) := by decide +kernel
theorem dX5_init_32 : decode cX5_init 32 = .ok (.invokespecial 27, 3) := by decide +kernel
theorem dX5_init_35 : decode cX5_init 35 = .ok (.putfield 28, 3) := by decide +kernel
theorem dX5_init_38 : decode cX5_init 38 = .ok (.aload_n 0, 1) := by decide +kernel
theorem dX5_init_39 : decode cX5_init 39 = .ok (.iconst 0, 1) := by decide +kernel
theorem dX5_init_40 : decode cX5_init 40 = .ok (.putfield 32, 3) := by decide +kernel
theorem dX5_init_43 : decode cX5_init 43 = .ok (.aload_n 0, 1) := by decide +kernel
theorem dX5_init_44 : decode cX5_init 44 = .ok (.iconst 0, 1) := by decide +kernel
theorem dX5_init_45 : decode cX5_init 45 = .ok (.putfield 36, 3) := by decide +kernel
theorem dX5_init_48 : decode cX5_init 48 = .ok (.return_, 1) := by decide +kernel
theorem dX5_cell_0 : decode cX5_cell 0 = .ok (.aload_n 0, 1) := by decide +kernel
theorem dX5_cell_1 : decode cX5_cell 1 = .ok (.getfield 12, 3) := by decide +kernel
theorem dX5_cell_4 : decode cX5_cell 4 = .ok (.iload_n 1, 1) := by decide +kernel
theorem dX5_cell_5 : decode cX5_cell 5 = .ok (.invokevirtual 39, 3) := by decide +kernel
theorem dX5_cell_8 : decode cX5_cell 8 = .ok (.ifCond .ne 13, 3) := by decide +kernel
theorem dX5_cell_11 : decode cX5_cell 11 = .ok (.new 43, 3) := by decide +kernel
theorem dX5_cell_14 : decode cX5_cell 14 = .ok (.dup, 1) := by decide +kernel
theorem dX5_cell_15 : decode cX5_cell 15 = .ok (.ldc 45, 2) := by decide +kernel
theorem dX5_cell_17 : decode cX5_cell 17 = .ok (.invokespecial 47, 3) := by decide +kernel
theorem dX5_cell_20 : decode cX5_cell 20 = .ok (.athrow, 1) := by decide +kernel
theorem dX5_cell_21 : decode cX5_cell 21 = .ok (.iload_n 2, 1) := by decide +kernel
theorem dX5_cell_22 : decode cX5_cell 22 = .ok (.iconst 1, 1) := by decide +kernel
theorem dX5_cell_23 : decode cX5_cell 23 = .ok (.bipush 10, 2) := by decide +kernel
theorem dX5_cell_25 : decode cX5_cell 25 = .ok (.invokestatic 50, 3) := by decide +kernel
theorem dX5_cell_28 : decode cX5_cell 28 = .ok (.aload_n 0, 1) := by decide +kernel
theorem dX5_cell_29 : decode cX5_cell 29 = .ok (.getfield 12, 3) := by decide +kernel
theorem dX5_cell_32 : decode cX5_cell 32 = .ok (.iload_n 1, 1) := by decide +kernel
theorem dX5_cell_33 : decode cX5_cell 33 = .ok (.invokevirtual 54, 3) := by decide +kernel
theorem dX5_cell_36 : decode cX5_cell 36 = .ok (.ifCond .eq 13, 3) := by decide +kernel
theorem dX5_cell_39 : decode cX5_cell 39 = .ok (.new 57, 3) := by decide +kernel
theorem dX5_cell_42 : decode cX5_cell 42 = .ok (.dup, 1) := by decide +kernel
theorem dX5_cell_43 : decode cX5_cell 43 = .ok (.ldc 59, 2) := by decide +kernel
theorem dX5_cell_45 : decode cX5_cell 45 = .ok (.invokespecial 61, 3) := by decide +kernel
theorem dX5_cell_48 : decode cX5_cell 48 = .ok (.athrow, 1) := by decide +kernel
theorem dX5_cell_49 : decode cX5_cell 49 = .ok (.aload_n 0, 1) := by decide +kernel
theorem dX5_cell_50 : decode cX5_cell 50 = .ok (.getfield 12, 3) := by decide +kernel
theorem dX5_cell_53 : decode cX5_cell 53 = .ok (.getfield 62, 3) := by decide +kernel
theorem dX5_cell_56 : decode cX5_cell 56 = .ok (.iload_n 1, 1) := by decide +kernel
theorem dX5_cell_57 : decode cX5_cell 57 = .ok (.iload_n 2, 1) := by decide +kernel
theorem dX5_cell_58 : decode cX5_cell 58 = .ok (.iastore, 1) := by decide +kernel
theorem dX5_cell_59 : decode cX5_cell 59 = .ok (.aload_n 0, 1) := by decide +kernel
theorem dX5_cell_60 : decode cX5_cell 60 = .ok (.getfield 12, 3) := by decide +kernel
theorem dX5_cell_63 : decode cX5_cell 63 = .ok (.getfield 66, 3) := by decide +kernel
theorem dX5_cell_66 : decode cX5_cell 66 = .ok (.iload_n 1, 1) := by decide +kernel
theorem dX5_cell_67 : decode cX5_cell 67 = .ok (.iload_n 3, 1) := by decide +kernel
theorem dX5_cell_68 : decode cX5_cell 68 = .ok (.bastore, 1) := by decide +kernel
theorem dX5_cell_69 : decode cX5_cell 69 = .ok (.return_, 1) := by decide +kernel
theorem dX5_axles_0 : decode cX5_axles 0 = .ok (.iload_n 1, 1) := by decide +kernel
theorem dX5_axles_1 : decode cX5_axles 1 = .ok (.iconst 0, 1) := by decide +kernel
theorem dX5_axles_2 : decode cX5_axles 2 = .ok (.bipush 100, 2) := by decide +kernel
theorem dX5_axles_4 : decode cX5_axles 4 = .ok (.invokestatic 50, 3) := by decide +kernel
theorem dX5_axles_7 : decode cX5_axles 7 = .ok (.iload_n 2, 1) := by decide +kernel
theorem dX5_axles_8 : decode cX5_axles 8 = .ok (.iconst 0, 1) := by decide +kernel
theorem dX5_axles_9 : decode cX5_axles 9 = .ok (.bipush 100, 2) := by decide +kernel
theorem dX5_axles_11 : decode cX5_axles 11 = .ok (.invokestatic 50, 3) := by decide +kernel
theorem dX5_axles_14 : decode cX5_axles 14 = .ok (.iload_n 3, 1) := by decide +kernel
theorem dX5_axles_15 : decode cX5_axles 15 = .ok (.iconst 0, 1) := by decide +kernel
theorem dX5_axles_16 : decode cX5_axles 16 = .ok (.sipush 10000, 3) := by decide +kernel
theorem dX5_axles_19 : decode cX5_axles 19 = .ok (.invokestatic 50, 3) := by decide +kernel
theorem dX5_axles_22 : decode cX5_axles 22 = .ok (.iload 4, 2) := by decide +kernel
theorem dX5_axles_24 : decode cX5_axles 24 = .ok (.iconst 0, 1) := by decide +kernel
theorem dX5_axles_25 : decode cX5_axles 25 = .ok (.sipush 10000, 3) := by decide +kernel
theorem dX5_axles_28 : decode cX5_axles 28 = .ok (.invokestatic 50, 3) := by decide +kernel
theorem dX5_axles_31 : decode cX5_axles 31 = .ok (.iload_n 2, 1) := by decide +kernel
theorem dX5_axles_32 : decode cX5_axles 32 = .ok (.iload_n 1, 1) := by decide +kernel
theorem dX5_axles_33 : decode cX5_axles 33 = .ok (.if_icmp .gt 13, 3) := by decide +kernel
theorem dX5_axles_36 : decode cX5_axles 36 = .ok (.new 70, 3) := by decide +kernel
theorem dX5_axles_39 : decode cX5_axles 39 = .ok (.dup, 1) := by decide +kernel
theorem dX5_axles_40 : decode cX5_axles 40 = .ok (.ldc 72, 2) := by decide +kernel
theorem dX5_axles_42 : decode cX5_axles 42 = .ok (.invokespecial 74, 3) := by decide +kernel
theorem dX5_axles_45 : decode cX5_axles 45 = .ok (.athrow, 1) := by decide +kernel
theorem dX5_axles_46 : decode cX5_axles 46 = .ok (.aload_n 0, 1) := by decide +kernel
theorem dX5_axles_47 : decode cX5_axles 47 = .ok (.getfield 12, 3) := by decide +kernel
theorem dX5_axles_50 : decode cX5_axles 50 = .ok (.getfield 75, 3) := by decide +kernel
theorem dX5_axles_53 : decode cX5_axles 53 = .ok (.iload_n 1, 1) := by decide +kernel
theorem dX5_axles_54 : decode cX5_axles 54 = .ok (.iload_n 2, 1) := by decide +kernel
theorem dX5_axles_55 : decode cX5_axles 55 = .ok (.iload_n 3, 1) := by decide +kernel
theorem dX5_axles_56 : decode cX5_axles 56 = .ok (.iload 4, 2) := by decide +kernel
theorem dX5_axles_58 : decode cX5_axles 58 = .ok (.invokevirtual 79, 3) := by decide +kernel
theorem dX5_axles_61 : decode cX5_axles 61 = .ok (.return_, 1) := by decide +kernel
theorem dX5_pallet_0 : decode cX5_pallet 0 = .ok (.iload_n 1, 1) := by decide +kernel
theorem dX5_pallet_1 : decode cX5_pallet 1 = .ok (.iconst 1, 1) := by decide +kernel
theorem dX5_pallet_2 : decode cX5_pallet 2 = .ok (.sipush 1000, 3) := by decide +kernel
theorem dX5_pallet_5 : decode cX5_pallet 5 = .ok (.invokestatic 50, 3) := by decide +kernel
theorem dX5_pallet_8 : decode cX5_pallet 8 = .ok (.iload 4, 2) := by decide +kernel
theorem dX5_pallet_10 : decode cX5_pallet 10 = .ok (.iconst 1, 1) := by decide +kernel
theorem dX5_pallet_11 : decode cX5_pallet 11 = .ok (.bipush 9, 2) := by decide +kernel
theorem dX5_pallet_13 : decode cX5_pallet 13 = .ok (.invokestatic 50, 3) := by decide +kernel
theorem dX5_pallet_16 : decode cX5_pallet 16 = .ok (.iload 5, 2) := by decide +kernel
theorem dX5_pallet_18 : decode cX5_pallet 18 = .ok (.iconst 1, 1) := by decide +kernel
theorem dX5_pallet_19 : decode cX5_pallet 19 = .ok (.bipush 10, 2) := by decide +kernel
theorem dX5_pallet_21 : decode cX5_pallet 21 = .ok (.invokestatic 50, 3) := by decide +kernel
theorem dX5_pallet_24 : decode cX5_pallet 24 = .ok (.aload_n 0, 1) := by decide +kernel
theorem dX5_pallet_25 : decode cX5_pallet 25 = .ok (.invokevirtual 85, 3) := by decide +kernel
theorem dX5_pallet_28 : decode cX5_pallet 28 = .ok (.aload_n 0, 1) := by decide +kernel
theorem dX5_pallet_29 : decode cX5_pallet 29 = .ok (.getfield 12, 3) := by decide +kernel
theorem dX5_pallet_32 : decode cX5_pallet 32 = .ok (.getfield 88, 3) := by decide +kernel
theorem dX5_pallet_35 : decode cX5_pallet 35 = .ok (.bipush 8, 2) := by decide +kernel
theorem dX5_pallet_37 : decode cX5_pallet 37 = .ok (.if_icmp .lt 13, 3) := by decide +kernel
theorem dX5_pallet_40 : decode cX5_pallet 40 = .ok (.new 92, 3) := by decide +kernel
theorem dX5_pallet_43 : decode cX5_pallet 43 = .ok (.dup, 1) := by decide +kernel
theorem dX5_pallet_44 : decode cX5_pallet 44 = .ok (.ldc 94, 2) := by decide +kernel
theorem dX5_pallet_46 : decode cX5_pallet 46 = .ok (.invokespecial 96, 3) := by decide +kernel
theorem dX5_pallet_49 : decode cX5_pallet 49 = .ok (.athrow, 1) := by decide +kernel
theorem dX5_pallet_50 : decode cX5_pallet 50 = .ok (.aload_n 0, 1) := by decide +kernel
theorem dX5_pallet_51 : decode cX5_pallet 51 = .ok (.getfield 12, 3) := by decide +kernel
theorem dX5_pallet_54 : decode cX5_pallet 54 = .ok (.getfield 88, 3) := by decide +kernel
theorem dX5_pallet_57 : decode cX5_pallet 57 = .ok (.istore 6, 2) := by decide +kernel
theorem dX5_pallet_59 : decode cX5_pallet 59 = .ok (.aload_n 0, 1) := by decide +kernel
theorem dX5_pallet_60 : decode cX5_pallet 60 = .ok (.getfield 12, 3) := by decide +kernel
theorem dX5_pallet_63 : decode cX5_pallet 63 = .ok (.getfield 97, 3) := by decide +kernel
theorem dX5_pallet_66 : decode cX5_pallet 66 = .ok (.iload 6, 2) := by decide +kernel
theorem dX5_pallet_68 : decode cX5_pallet 68 = .ok (.aaload, 1) := by decide +kernel
theorem dX5_pallet_69 : decode cX5_pallet 69 = .ok (.iload_n 1, 1) := by decide +kernel
theorem dX5_pallet_70 : decode cX5_pallet 70 = .ok (.iload_n 2, 1) := by decide +kernel
theorem dX5_pallet_71 : decode cX5_pallet 71 = .ok (.iload_n 3, 1) := by decide +kernel
theorem dX5_pallet_72 : decode cX5_pallet 72 = .ok (.iload 4, 2) := by decide +kernel
theorem dX5_pallet_74 : decode cX5_pallet 74 = .ok (.iload 5, 2) := by decide +kernel
theorem dX5_pallet_76 : decode cX5_pallet 76 = .ok (.invokevirtual 101, 3) := by decide +kernel
theorem dX5_pallet_79 : decode cX5_pallet 79 = .ok (.aload_n 0, 1) := by decide +kernel
theorem dX5_pallet_80 : decode cX5_pallet 80 = .ok (.getfield 12, 3) := by decide +kernel
theorem dX5_pallet_83 : decode cX5_pallet 83 = .ok (.iload 6, 2) := by decide +kernel
theorem dX5_pallet_85 : decode cX5_pallet 85 = .ok (.iconst 1, 1) := by decide +kernel
theorem dX5_pallet_86 : decode cX5_pallet 86 = .ok (.iadd, 1) := by decide +kernel
theorem dX5_pallet_87 : decode cX5_pallet 87 = .ok (.putfield 88, 3) := by decide +kernel
theorem dX5_pallet_90 : decode cX5_pallet 90 = .ok (.iload 6, 2) := by decide +kernel
theorem dX5_pallet_92 : decode cX5_pallet 92 = .ok (.ireturn, 1) := by decide +kernel
theorem dX5_solve_0 : decode cX5_solve 0 = .ok (.iload_n 1, 1) := by decide +kernel
theorem dX5_solve_1 : decode cX5_solve 1 = .ok (.iconst 0, 1) := by decide +kernel
theorem dX5_solve_2 : decode cX5_solve 2 = .ok (.iconst 5, 1) := by decide +kernel
theorem dX5_solve_3 : decode cX5_solve 3 = .ok (.invokestatic 50, 3) := by decide +kernel
theorem dX5_solve_6 : decode cX5_solve 6 = .ok (.aload_n 0, 1) := by decide +kernel
theorem dX5_solve_7 : decode cX5_solve 7 = .ok (.invokevirtual 85, 3) := by decide +kernel
theorem dX5_solve_10 : decode cX5_solve 10 = .ok (.aload_n 0, 1) := by decide +kernel
theorem dX5_solve_11 : decode cX5_solve 11 = .ok (.invokevirtual 106, 3) := by decide +kernel
theorem dX5_solve_14 : decode cX5_solve 14 = .ok (.aload_n 0, 1) := by decide +kernel
theorem dX5_solve_15 : decode cX5_solve 15 = .ok (.aload_n 0, 1) := by decide +kernel
theorem dX5_solve_16 : decode cX5_solve 16 = .ok (.getfield 12, 3) := by decide +kernel
theorem dX5_solve_19 : decode cX5_solve 19 = .ok (.getfield 88, 3) := by decide +kernel
theorem dX5_solve_22 : decode cX5_solve 22 = .ok (.iload_n 1, 1) := by decide +kernel
theorem dX5_solve_23 : decode cX5_solve 23 = .ok (.if_icmp .gt 7, 3) := by decide +kernel
theorem dX5_solve_26 : decode cX5_solve 26 = .ok (.iconst 1, 1) := by decide +kernel
theorem dX5_solve_27 : decode cX5_solve 27 = .ok (.goto 4, 3) := by decide +kernel
theorem dX5_solve_30 : decode cX5_solve 30 = .ok (.iconst 0, 1) := by decide +kernel
theorem dX5_solve_31 : decode cX5_solve 31 = .ok (.putfield 36, 3) := by decide +kernel
theorem dX5_solve_34 : decode cX5_solve 34 = .ok (.aload_n 0, 1) := by decide +kernel
theorem dX5_solve_35 : decode cX5_solve 35 = .ok (.getfield 36, 3) := by decide +kernel
theorem dX5_solve_38 : decode cX5_solve 38 = .ok (.ifCond .eq 17, 3) := by decide +kernel
theorem dX5_solve_41 : decode cX5_solve 41 = .ok (.aload_n 0, 1) := by decide +kernel
theorem dX5_solve_42 : decode cX5_solve 42 = .ok (.getfield 21, 3) := by decide +kernel
theorem dX5_solve_45 : decode cX5_solve 45 = .ok (.aload_n 0, 1) := by decide +kernel
theorem dX5_solve_46 : decode cX5_solve 46 = .ok (.getfield 12, 3) := by decide +kernel
theorem dX5_solve_49 : decode cX5_solve 49 = .ok (.invokevirtual 109, 3) := by decide +kernel
theorem dX5_solve_52 : decode cX5_solve 52 = .ok (.goto 10, 3) := by decide +kernel
theorem dX5_solve_55 : decode cX5_solve 55 = .ok (.aload_n 0, 1) := by decide +kernel
theorem dX5_solve_56 : decode cX5_solve 56 = .ok (.getfield 12, 3) := by decide +kernel
theorem dX5_solve_59 : decode cX5_solve 59 = .ok (.invokevirtual 113, 3) := by decide +kernel
theorem dX5_solve_62 : decode cX5_solve 62 = .ok (.aload_n 0, 1) := by decide +kernel
theorem dX5_solve_63 : decode cX5_solve 63 = .ok (.getfield 12, 3) := by decide +kernel
theorem dX5_solve_66 : decode cX5_solve 66 = .ok (.invokevirtual 116, 3) := by decide +kernel
theorem dX5_solve_69 : decode cX5_solve 69 = .ok (.ireturn, 1) := by decide +kernel
theorem dX5_exact_0 : decode cX5_exact 0 = .ok (.aload_n 0, 1) := by decide +kernel
theorem dX5_exact_1 : decode cX5_exact 1 = .ok (.getfield 36, 3) := by decide +kernel
theorem dX5_exact_4 : decode cX5_exact 4 = .ok (.ireturn, 1) := by decide +kernel
theorem dX5_bound_0 : decode cX5_bound 0 = .ok (.aload_n 0, 1) := by decide +kernel
theorem dX5_bound_1 : decode cX5_bound 1 = .ok (.getfield 12, 3) := by decide +kernel
theorem dX5_bound_4 : decode cX5_bound 4 = .ok (.invokevirtual 120, 3) := by decide +kernel
theorem dX5_bound_7 : decode cX5_bound 7 = .ok (.aload_n 0, 1) := by decide +kernel
theorem dX5_bound_8 : decode cX5_bound 8 = .ok (.getfield 12, 3) := by decide +kernel
theorem dX5_bound_11 : decode cX5_bound 11 = .ok (.getfield 123, 3) := by decide +kernel
theorem dX5_bound_14 : decode cX5_bound 14 = .ok (.invokestatic 126, 3) := by decide +kernel
theorem dX5_bound_17 : decode cX5_bound 17 = .ok (.ireturn, 1) := by decide +kernel
theorem dX5_place_0 : decode cX5_place 0 = .ok (.aload_n 0, 1) := by decide +kernel
theorem dX5_place_1 : decode cX5_place 1 = .ok (.iload_n 1, 1) := by decide +kernel
theorem dX5_place_2 : decode cX5_place 2 = .ok (.invokevirtual 132, 3) := by decide +kernel
theorem dX5_place_5 : decode cX5_place 5 = .ok (.astore_n 3, 1) := by decide +kernel
theorem dX5_place_6 : decode cX5_place 6 = .ok (.iload_n 2, 1) := by decide +kernel
theorem dX5_place_7 : decode cX5_place 7 = .ok (.iconst (-1), 1) := by decide +kernel
theorem dX5_place_8 : decode cX5_place 8 = .ok (.if_icmp .eq 24, 3) := by decide +kernel
theorem dX5_place_11 : decode cX5_place 11 = .ok (.aload_n 0, 1) := by decide +kernel
theorem dX5_place_12 : decode cX5_place 12 = .ok (.getfield 12, 3) := by decide +kernel
theorem dX5_place_15 : decode cX5_place 15 = .ok (.iload_n 2, 1) := by decide +kernel
theorem dX5_place_16 : decode cX5_place 16 = .ok (.invokevirtual 39, 3) := by decide +kernel
theorem dX5_place_19 : decode cX5_place 19 = .ok (.ifCond .ne 13, 3) := by decide +kernel
theorem dX5_place_22 : decode cX5_place 22 = .ok (.new 70, 3) := by decide +kernel
theorem dX5_place_25 : decode cX5_place 25 = .ok (.dup, 1) := by decide +kernel
theorem dX5_place_26 : decode cX5_place 26 = .ok (.ldc 45, 2) := by decide +kernel
theorem dX5_place_28 : decode cX5_place 28 = .ok (.invokespecial 74, 3) := by decide +kernel
theorem dX5_place_31 : decode cX5_place 31 = .ok (.athrow, 1) := by decide +kernel
theorem dX5_place_32 : decode cX5_place 32 = .ok (.aload_n 0, 1) := by decide +kernel
theorem dX5_place_33 : decode cX5_place 33 = .ok (.getfield 32, 3) := by decide +kernel
theorem dX5_place_36 : decode cX5_place 36 = .ok (.ifCond .ne 13, 3) := by decide +kernel
theorem dX5_place_39 : decode cX5_place 39 = .ok (.new 57, 3) := by decide +kernel
theorem dX5_place_42 : decode cX5_place 42 = .ok (.dup, 1) := by decide +kernel
theorem dX5_place_43 : decode cX5_place 43 = .ok (.ldc 136, 2) := by decide +kernel
theorem dX5_place_45 : decode cX5_place 45 = .ok (.invokespecial 61, 3) := by decide +kernel
theorem dX5_place_48 : decode cX5_place 48 = .ok (.athrow, 1) := by decide +kernel
theorem dX5_place_49 : decode cX5_place 49 = .ok (.aload_n 0, 1) := by decide +kernel
theorem dX5_place_50 : decode cX5_place 50 = .ok (.invokevirtual 106, 3) := by decide +kernel
theorem dX5_place_53 : decode cX5_place 53 = .ok (.iload_n 2, 1) := by decide +kernel
theorem dX5_place_54 : decode cX5_place 54 = .ok (.iconst (-1), 1) := by decide +kernel
theorem dX5_place_55 : decode cX5_place 55 = .ok (.if_icmp .ne 7, 3) := by decide +kernel
theorem dX5_place_58 : decode cX5_place 58 = .ok (.iconst 0, 1) := by decide +kernel
theorem dX5_place_59 : decode cX5_place 59 = .ok (.goto 12, 3) := by decide +kernel
theorem dX5_place_62 : decode cX5_place 62 = .ok (.aload_n 0, 1) := by decide +kernel
theorem dX5_place_63 : decode cX5_place 63 = .ok (.getfield 12, 3) := by decide +kernel
theorem dX5_place_66 : decode cX5_place 66 = .ok (.aload_n 3, 1) := by decide +kernel
theorem dX5_place_67 : decode cX5_place 67 = .ok (.iload_n 2, 1) := by decide +kernel
theorem dX5_place_68 : decode cX5_place 68 = .ok (.invokevirtual 138, 3) := by decide +kernel
theorem dX5_place_71 : decode cX5_place 71 = .ok (.istore 4, 2) := by decide +kernel
theorem dX5_place_73 : decode cX5_place 73 = .ok (.iload 4, 2) := by decide +kernel
theorem dX5_place_75 : decode cX5_place 75 = .ok (.ifCond .ne 8, 3) := by decide +kernel
theorem dX5_place_78 : decode cX5_place 78 = .ok (.aload_n 3, 1) := by decide +kernel
theorem dX5_place_79 : decode cX5_place 79 = .ok (.iload_n 2, 1) := by decide +kernel
theorem dX5_place_80 : decode cX5_place 80 = .ok (.putfield 142, 3) := by decide +kernel
theorem dX5_place_83 : decode cX5_place 83 = .ok (.iload 4, 2) := by decide +kernel
theorem dX5_place_85 : decode cX5_place 85 = .ok (.ireturn, 1) := by decide +kernel
theorem dX5_at_0 : decode cX5_at 0 = .ok (.aload_n 0, 1) := by decide +kernel
theorem dX5_at_1 : decode cX5_at 1 = .ok (.iload_n 1, 1) := by decide +kernel
theorem dX5_at_2 : decode cX5_at 2 = .ok (.invokevirtual 132, 3) := by decide +kernel
theorem dX5_at_5 : decode cX5_at 5 = .ok (.getfield 142, 3) := by decide +kernel
theorem dX5_at_8 : decode cX5_at 8 = .ok (.ireturn, 1) := by decide +kernel
theorem dX5_axle_0 : decode cX5_axle 0 = .ok (.iload_n 1, 1) := by decide +kernel
theorem dX5_axle_1 : decode cX5_axle 1 = .ok (.iconst 0, 1) := by decide +kernel
theorem dX5_axle_2 : decode cX5_axle 2 = .ok (.iconst 1, 1) := by decide +kernel
theorem dX5_axle_3 : decode cX5_axle 3 = .ok (.invokestatic 50, 3) := by decide +kernel
theorem dX5_axle_6 : decode cX5_axle 6 = .ok (.iload_n 2, 1) := by decide +kernel
theorem dX5_axle_7 : decode cX5_axle 7 = .ok (.iconst 0, 1) := by decide +kernel
theorem dX5_axle_8 : decode cX5_axle 8 = .ok (.iconst 1, 1) := by decide +kernel
theorem dX5_axle_9 : decode cX5_axle 9 = .ok (.invokestatic 50, 3) := by decide +kernel
theorem dX5_axle_12 : decode cX5_axle 12 = .ok (.aload_n 0, 1) := by decide +kernel
theorem dX5_axle_13 : decode cX5_axle 13 = .ok (.getfield 12, 3) := by decide +kernel
theorem dX5_axle_16 : decode cX5_axle 16 = .ok (.invokevirtual 116, 3) := by decide +kernel
theorem dX5_axle_19 : decode cX5_axle 19 = .ok (.ifCond .ne 13, 3) := by decide +kernel
theorem dX5_axle_22 : decode cX5_axle 22 = .ok (.new 145, 3) := by decide +kernel
theorem dX5_axle_25 : decode cX5_axle 25 = .ok (.dup, 1) := by decide +kernel
theorem dX5_axle_26 : decode cX5_axle 26 = .ok (.ldc 147, 2) := by decide +kernel
theorem dX5_axle_28 : decode cX5_axle 28 = .ok (.invokespecial 149, 3) := by decide +kernel
theorem dX5_axle_31 : decode cX5_axle 31 = .ok (.athrow, 1) := by decide +kernel
theorem dX5_axle_32 : decode cX5_axle 32 = .ok (.aload_n 0, 1) := by decide +kernel
theorem dX5_axle_33 : decode cX5_axle 33 = .ok (.getfield 12, 3) := by decide +kernel
theorem dX5_axle_36 : decode cX5_axle 36 = .ok (.iload_n 1, 1) := by decide +kernel
theorem dX5_axle_37 : decode cX5_axle 37 = .ok (.invokevirtual 150, 3) := by decide +kernel
theorem dX5_axle_40 : decode cX5_axle 40 = .ok (.aload_n 0, 1) := by decide +kernel
theorem dX5_axle_41 : decode cX5_axle 41 = .ok (.getfield 12, 3) := by decide +kernel
theorem dX5_axle_44 : decode cX5_axle 44 = .ok (.getfield 75, 3) := by decide +kernel
theorem dX5_axle_47 : decode cX5_axle 47 = .ok (.invokevirtual 154, 3) := by decide +kernel
theorem dX5_axle_50 : decode cX5_axle 50 = .ok (.iload_n 2, 1) := by decide +kernel
theorem dX5_axle_51 : decode cX5_axle 51 = .ok (.invokestatic 157, 3) := by decide +kernel
theorem dX5_axle_54 : decode cX5_axle 54 = .ok (.ireturn, 1) := by decide +kernel
theorem dX5_bar_0 : decode cX5_bar 0 = .ok (.aload_n 0, 1) := by decide +kernel
theorem dX5_bar_1 : decode cX5_bar 1 = .ok (.iload_n 1, 1) := by decide +kernel
theorem dX5_bar_2 : decode cX5_bar 2 = .ok (.invokevirtual 132, 3) := by decide +kernel
theorem dX5_bar_5 : decode cX5_bar 5 = .ok (.astore_n 2, 1) := by decide +kernel
theorem dX5_bar_6 : decode cX5_bar 6 = .ok (.aload_n 2, 1) := by decide +kernel
theorem dX5_bar_7 : decode cX5_bar 7 = .ok (.invokevirtual 161, 3) := by decide +kernel
theorem dX5_bar_10 : decode cX5_bar 10 = .ok (.ifCond .eq 13, 3) := by decide +kernel
theorem dX5_bar_13 : decode cX5_bar 13 = .ok (.new 57, 3) := by decide +kernel
theorem dX5_bar_16 : decode cX5_bar 16 = .ok (.dup, 1) := by decide +kernel
theorem dX5_bar_17 : decode cX5_bar 17 = .ok (.ldc 165, 2) := by decide +kernel
theorem dX5_bar_19 : decode cX5_bar 19 = .ok (.invokespecial 61, 3) := by decide +kernel
theorem dX5_bar_22 : decode cX5_bar 22 = .ok (.athrow, 1) := by decide +kernel
theorem dX5_bar_23 : decode cX5_bar 23 = .ok (.aload_n 0, 1) := by decide +kernel
theorem dX5_bar_24 : decode cX5_bar 24 = .ok (.getfield 12, 3) := by decide +kernel
theorem dX5_bar_27 : decode cX5_bar 27 = .ok (.aload_n 2, 1) := by decide +kernel
theorem dX5_bar_28 : decode cX5_bar 28 = .ok (.invokevirtual 167, 3) := by decide +kernel
theorem dX5_bar_31 : decode cX5_bar 31 = .ok (.ireturn, 1) := by decide +kernel
theorem dX5_change_0 : decode cX5_change 0 = .ok (.aload_n 0, 1) := by decide +kernel
theorem dX5_change_1 : decode cX5_change 1 = .ok (.iload_n 1, 1) := by decide +kernel
theorem dX5_change_2 : decode cX5_change 2 = .ok (.invokevirtual 132, 3) := by decide +kernel
theorem dX5_change_5 : decode cX5_change 5 = .ok (.astore_n 3, 1) := by decide +kernel
theorem dX5_change_6 : decode cX5_change 6 = .ok (.iload_n 2, 1) := by decide +kernel
theorem dX5_change_7 : decode cX5_change 7 = .ok (.iconst 1, 1) := by decide +kernel
theorem dX5_change_8 : decode cX5_change 8 = .ok (.bipush 9, 2) := by decide +kernel
theorem dX5_change_10 : decode cX5_change 10 = .ok (.invokestatic 50, 3) := by decide +kernel
theorem dX5_change_13 : decode cX5_change 13 = .ok (.aload_n 0, 1) := by decide +kernel
theorem dX5_change_14 : decode cX5_change 14 = .ok (.invokevirtual 85, 3) := by decide +kernel
theorem dX5_change_17 : decode cX5_change 17 = .ok (.aload_n 3, 1) := by decide +kernel
theorem dX5_change_18 : decode cX5_change 18 = .ok (.invokevirtual 161, 3) := by decide +kernel
theorem dX5_change_21 : decode cX5_change 21 = .ok (.ifCond .eq 21, 3) := by decide +kernel
theorem dX5_change_24 : decode cX5_change 24 = .ok (.aload_n 0, 1) := by decide +kernel
theorem dX5_change_25 : decode cX5_change 25 = .ok (.getfield 12, 3) := by decide +kernel
theorem dX5_change_28 : decode cX5_change 28 = .ok (.aload_n 3, 1) := by decide +kernel
theorem dX5_change_29 : decode cX5_change 29 = .ok (.iload_n 2, 1) := by decide +kernel
theorem dX5_change_30 : decode cX5_change 30 = .ok (.aload_n 3, 1) := by decide +kernel
theorem dX5_change_31 : decode cX5_change 31 = .ok (.getfield 142, 3) := by decide +kernel
theorem dX5_change_34 : decode cX5_change 34 = .ok (.invokevirtual 171, 3) := by decide +kernel
theorem dX5_change_37 : decode cX5_change 37 = .ok (.ifCond .eq 5, 3) := by decide +kernel
theorem dX5_change_40 : decode cX5_change 40 = .ok (.iconst 0, 1) := by decide +kernel
theorem dX5_change_41 : decode cX5_change 41 = .ok (.ireturn, 1) := by decide +kernel
theorem dX5_change_42 : decode cX5_change 42 = .ok (.aload_n 3, 1) := by decide +kernel
theorem dX5_change_43 : decode cX5_change 43 = .ok (.iload_n 2, 1) := by decide +kernel
theorem dX5_change_44 : decode cX5_change 44 = .ok (.putfield 175, 3) := by decide +kernel
theorem dX5_change_47 : decode cX5_change 47 = .ok (.iconst 1, 1) := by decide +kernel
theorem dX5_change_48 : decode cX5_change 48 = .ok (.ireturn, 1) := by decide +kernel
theorem dX5_doors_0 : decode cX5_doors 0 = .ok (.iload_n 1, 1) := by decide +kernel
theorem dX5_doors_1 : decode cX5_doors 1 = .ok (.ifCond .eq 7, 3) := by decide +kernel
theorem dX5_doors_4 : decode cX5_doors 4 = .ok (.aload_n 0, 1) := by decide +kernel
theorem dX5_doors_5 : decode cX5_doors 5 = .ok (.invokevirtual 106, 3) := by decide +kernel
theorem dX5_doors_8 : decode cX5_doors 8 = .ok (.aload_n 0, 1) := by decide +kernel
theorem dX5_doors_9 : decode cX5_doors 9 = .ok (.getfield 32, 3) := by decide +kernel
theorem dX5_doors_12 : decode cX5_doors 12 = .ok (.istore_n 2, 1) := by decide +kernel
theorem dX5_doors_13 : decode cX5_doors 13 = .ok (.aload_n 0, 1) := by decide +kernel
theorem dX5_doors_14 : decode cX5_doors 14 = .ok (.iload_n 1, 1) := by decide +kernel
theorem dX5_doors_15 : decode cX5_doors 15 = .ok (.putfield 32, 3) := by decide +kernel
theorem dX5_doors_18 : decode cX5_doors 18 = .ok (.iload_n 2, 1) := by decide +kernel
theorem dX5_doors_19 : decode cX5_doors 19 = .ok (.ireturn, 1) := by decide +kernel
theorem dX5_seal_0 : decode cX5_seal 0 = .ok (.iload_n 1, 1) := by decide +kernel
theorem dX5_seal_1 : decode cX5_seal 1 = .ok (.iconst 1, 1) := by decide +kernel
theorem dX5_seal_2 : decode cX5_seal 2 = .ok (.ldc 178, 2) := by decide +kernel
theorem dX5_seal_4 : decode cX5_seal 4 = .ok (.invokestatic 50, 3) := by decide +kernel
theorem dX5_seal_7 : decode cX5_seal 7 = .ok (.aload_n 0, 1) := by decide +kernel
theorem dX5_seal_8 : decode cX5_seal 8 = .ok (.invokevirtual 85, 3) := by decide +kernel
theorem dX5_seal_11 : decode cX5_seal 11 = .ok (.aload_n 0, 1) := by decide +kernel
theorem dX5_seal_12 : decode cX5_seal 12 = .ok (.invokevirtual 106, 3) := by decide +kernel
theorem dX5_seal_15 : decode cX5_seal 15 = .ok (.aload_n 0, 1) := by decide +kernel
theorem dX5_seal_16 : decode cX5_seal 16 = .ok (.getfield 28, 3) := by decide +kernel
theorem dX5_seal_19 : decode cX5_seal 19 = .ok (.getfield 179, 3) := by decide +kernel
theorem dX5_seal_22 : decode cX5_seal 22 = .ok (.bipush 10, 2) := by decide +kernel
theorem dX5_seal_24 : decode cX5_seal 24 = .ok (.if_icmp .lt 13, 3) := by decide +kernel
theorem dX5_seal_27 : decode cX5_seal 27 = .ok (.new 92, 3) := by decide +kernel
theorem dX5_seal_30 : decode cX5_seal 30 = .ok (.dup, 1) := by decide +kernel
theorem dX5_seal_31 : decode cX5_seal 31 = .ok (.ldc 182, 2) := by decide +kernel
theorem dX5_seal_33 : decode cX5_seal 33 = .ok (.invokespecial 96, 3) := by decide +kernel
theorem dX5_seal_36 : decode cX5_seal 36 = .ok (.athrow, 1) := by decide +kernel
theorem dX5_seal_37 : decode cX5_seal 37 = .ok (.aload_n 0, 1) := by decide +kernel
theorem dX5_seal_38 : decode cX5_seal 38 = .ok (.getfield 28, 3) := by decide +kernel
theorem dX5_seal_41 : decode cX5_seal 41 = .ok (.iload_n 1, 1) := by decide +kernel
theorem dX5_seal_42 : decode cX5_seal 42 = .ok (.invokevirtual 184, 3) := by decide +kernel
theorem dX5_seal_45 : decode cX5_seal 45 = .ok (.ifCond .eq 5, 3) := by decide +kernel
theorem dX5_seal_48 : decode cX5_seal 48 = .ok (.iconst 0, 1) := by decide +kernel
theorem dX5_seal_49 : decode cX5_seal 49 = .ok (.ireturn, 1) := by decide +kernel
theorem dX5_seal_50 : decode cX5_seal 50 = .ok (.aload_n 0, 1) := by decide +kernel
theorem dX5_seal_51 : decode cX5_seal 51 = .ok (.getfield 28, 3) := by decide +kernel
theorem dX5_seal_54 : decode cX5_seal 54 = .ok (.iload_n 1, 1) := by decide +kernel
theorem dX5_seal_55 : decode cX5_seal 55 = .ok (.invokevirtual 187, 3) := by decide +kernel
theorem dX5_seal_58 : decode cX5_seal 58 = .ok (.iconst 1, 1) := by decide +kernel
theorem dX5_seal_59 : decode cX5_seal 59 = .ok (.ireturn, 1) := by decide +kernel
theorem dX5_broken_0 : decode cX5_broken 0 = .ok (.aload_n 0, 1) := by decide +kernel
theorem dX5_broken_1 : decode cX5_broken 1 = .ok (.getfield 28, 3) := by decide +kernel
theorem dX5_broken_4 : decode cX5_broken 4 = .ok (.invokevirtual 190, 3) := by decide +kernel
theorem dX5_broken_7 : decode cX5_broken 7 = .ok (.ifCond .ne 13, 3) := by decide +kernel
theorem dX5_broken_10 : decode cX5_broken 10 = .ok (.new 57, 3) := by decide +kernel
theorem dX5_broken_13 : decode cX5_broken 13 = .ok (.dup, 1) := by decide +kernel
theorem dX5_broken_14 : decode cX5_broken 14 = .ok (.ldc 193, 2) := by decide +kernel
theorem dX5_broken_16 : decode cX5_broken 16 = .ok (.invokespecial 61, 3) := by decide +kernel
theorem dX5_broken_19 : decode cX5_broken 19 = .ok (.athrow, 1) := by decide +kernel
theorem dX5_broken_20 : decode cX5_broken 20 = .ok (.aload_n 0, 1) := by decide +kernel
theorem dX5_broken_21 : decode cX5_broken 21 = .ok (.getfield 28, 3) := by decide +kernel
theorem dX5_broken_24 : decode cX5_broken 24 = .ok (.invokevirtual 195, 3) := by decide +kernel
theorem dX5_broken_27 : decode cX5_broken 27 = .ok (.ireturn, 1) := by decide +kernel
theorem dX5_order_0 : decode cX5_order 0 = .ok (.iload_n 1, 1) := by decide +kernel
theorem dX5_order_1 : decode cX5_order 1 = .ok (.iconst 1, 1) := by decide +kernel
theorem dX5_order_2 : decode cX5_order 2 = .ok (.bipush 9, 2) := by decide +kernel
theorem dX5_order_4 : decode cX5_order 4 = .ok (.invokestatic 50, 3) := by decide +kernel
theorem dX5_order_7 : decode cX5_order 7 = .ok (.iload_n 2, 1) := by decide +kernel
theorem dX5_order_8 : decode cX5_order 8 = .ok (.ifCond .ge 13, 3) := by decide +kernel
theorem dX5_order_11 : decode cX5_order 11 = .ok (.new 70, 3) := by decide +kernel
theorem dX5_order_14 : decode cX5_order 14 = .ok (.dup, 1) := by decide +kernel
theorem dX5_order_15 : decode cX5_order 15 = .ok (.ldc 198, 2) := by decide +kernel
theorem dX5_order_17 : decode cX5_order 17 = .ok (.invokespecial 74, 3) := by decide +kernel
theorem dX5_order_20 : decode cX5_order 20 = .ok (.athrow, 1) := by decide +kernel
theorem dX5_order_21 : decode cX5_order 21 = .ok (.aload_n 0, 1) := by decide +kernel
theorem dX5_order_22 : decode cX5_order 22 = .ok (.getfield 12, 3) := by decide +kernel
theorem dX5_order_25 : decode cX5_order 25 = .ok (.iload_n 1, 1) := by decide +kernel
theorem dX5_order_26 : decode cX5_order 26 = .ok (.iload_n 2, 1) := by decide +kernel
theorem dX5_order_27 : decode cX5_order 27 = .ok (.invokevirtual 200, 3) := by decide +kernel
theorem dX5_order_30 : decode cX5_order 30 = .ok (.ireturn, 1) := by decide +kernel
theorem dX5_manifest_0 : decode cX5_manifest 0 = .ok (.iload_n 1, 1) := by decide +kernel
theorem dX5_manifest_1 : decode cX5_manifest 1 = .ok (.iconst 0, 1) := by decide +kernel
theorem dX5_manifest_2 : decode cX5_manifest 2 = .ok (.sipush 10000, 3) := by decide +kernel
theorem dX5_manifest_5 : decode cX5_manifest 5 = .ok (.invokestatic 50, 3) := by decide +kernel
theorem dX5_manifest_8 : decode cX5_manifest 8 = .ok (.iload_n 1, 1) := by decide +kernel
theorem dX5_manifest_9 : decode cX5_manifest 9 = .ok (.aload_n 0, 1) := by decide +kernel
theorem dX5_manifest_10 : decode cX5_manifest 10 = .ok (.getfield 12, 3) := by decide +kernel
theorem dX5_manifest_13 : decode cX5_manifest 13 = .ok (.invokevirtual 203, 3) := by decide +kernel
theorem dX5_manifest_16 : decode cX5_manifest 16 = .ok (.isub, 1) := by decide +kernel
theorem dX5_manifest_17 : decode cX5_manifest 17 = .ok (.ireturn, 1) := by decide +kernel
theorem dX5_count_0 : decode cX5_count 0 = .ok (.iload_n 1, 1) := by decide +kernel
theorem dX5_count_1 : decode cX5_count 1 = .ok (.tableswitch 92 0 5 #[39, 47, 55, 63, 76, 84], 39) := by decide +kernel
theorem dX5_count_40 : decode cX5_count 40 = .ok (.aload_n 0, 1) := by decide +kernel
theorem dX5_count_41 : decode cX5_count 41 = .ok (.getfield 12, 3) := by decide +kernel
theorem dX5_count_44 : decode cX5_count 44 = .ok (.getfield 123, 3) := by decide +kernel
theorem dX5_count_47 : decode cX5_count 47 = .ok (.ireturn, 1) := by decide +kernel
theorem dX5_count_48 : decode cX5_count 48 = .ok (.aload_n 0, 1) := by decide +kernel
theorem dX5_count_49 : decode cX5_count 49 = .ok (.getfield 12, 3) := by decide +kernel
theorem dX5_count_52 : decode cX5_count 52 = .ok (.getfield 88, 3) := by decide +kernel
theorem dX5_count_55 : decode cX5_count 55 = .ok (.ireturn, 1) := by decide +kernel
theorem dX5_count_56 : decode cX5_count 56 = .ok (.aload_n 0, 1) := by decide +kernel
theorem dX5_count_57 : decode cX5_count 57 = .ok (.getfield 12, 3) := by decide +kernel
theorem dX5_count_60 : decode cX5_count 60 = .ok (.invokevirtual 116, 3) := by decide +kernel
theorem dX5_count_63 : decode cX5_count 63 = .ok (.ireturn, 1) := by decide +kernel
theorem dX5_count_64 : decode cX5_count 64 = .ok (.aload_n 0, 1) := by decide +kernel
theorem dX5_count_65 : decode cX5_count 65 = .ok (.getfield 32, 3) := by decide +kernel
theorem dX5_count_68 : decode cX5_count 68 = .ok (.ifCond .eq 7, 3) := by decide +kernel
theorem dX5_count_71 : decode cX5_count 71 = .ok (.iconst 1, 1) := by decide +kernel
theorem dX5_count_72 : decode cX5_count 72 = .ok (.goto 4, 3) := by decide +kernel
theorem dX5_count_75 : decode cX5_count 75 = .ok (.iconst 0, 1) := by decide +kernel
theorem dX5_count_76 : decode cX5_count 76 = .ok (.ireturn, 1) := by decide +kernel
theorem dX5_count_77 : decode cX5_count 77 = .ok (.aload_n 0, 1) := by decide +kernel
theorem dX5_count_78 : decode cX5_count 78 = .ok (.getfield 28, 3) := by decide +kernel
theorem dX5_count_81 : decode cX5_count 81 = .ok (.getfield 206, 3) := by decide +kernel
theorem dX5_count_84 : decode cX5_count 84 = .ok (.ireturn, 1) := by decide +kernel
theorem dX5_count_85 : decode cX5_count 85 = .ok (.aload_n 0, 1) := by decide +kernel
theorem dX5_count_86 : decode cX5_count 86 = .ok (.getfield 28, 3) := by decide +kernel
theorem dX5_count_89 : decode cX5_count 89 = .ok (.getfield 179, 3) := by decide +kernel
theorem dX5_count_92 : decode cX5_count 92 = .ok (.ireturn, 1) := by decide +kernel
theorem dX5_count_93 : decode cX5_count 93 = .ok (.iconst (-1), 1) := by decide +kernel
theorem dX5_count_94 : decode cX5_count 94 = .ok (.ireturn, 1) := by decide +kernel
theorem dX5_knownPallet_0 : decode cX5_knownPallet 0 = .ok (.iload_n 1, 1) := by decide +kernel
theorem dX5_knownPallet_1 : decode cX5_knownPallet 1 = .ok (.ifCond .lt 14, 3) := by decide +kernel
theorem dX5_knownPallet_4 : decode cX5_knownPallet 4 = .ok (.iload_n 1, 1) := by decide +kernel
theorem dX5_knownPallet_5 : decode cX5_knownPallet 5 = .ok (.aload_n 0, 1) := by decide +kernel
theorem dX5_knownPallet_6 : decode cX5_knownPallet 6 = .ok (.getfield 12, 3) := by decide +kernel
theorem dX5_knownPallet_9 : decode cX5_knownPallet 9 = .ok (.getfield 88, 3) := by decide +kernel
theorem dX5_knownPallet_12 : decode cX5_knownPallet 12 = .ok (.if_icmp .lt 13, 3) := by decide +kernel
theorem dX5_knownPallet_15 : decode cX5_knownPallet 15 = .ok (.new 209, 3) := by decide +kernel
theorem dX5_knownPallet_18 : decode cX5_knownPallet 18 = .ok (.dup, 1) := by decide +kernel
theorem dX5_knownPallet_19 : decode cX5_knownPallet 19 = .ok (.ldc 211, 2) := by decide +kernel
theorem dX5_knownPallet_21 : decode cX5_knownPallet 21 = .ok (.invokespecial 213, 3) := by decide +kernel
theorem dX5_knownPallet_24 : decode cX5_knownPallet 24 = .ok (.athrow, 1) := by decide +kernel
theorem dX5_knownPallet_25 : decode cX5_knownPallet 25 = .ok (.aload_n 0, 1) := by decide +kernel
theorem dX5_knownPallet_26 : decode cX5_knownPallet 26 = .ok (.getfield 12, 3) := by decide +kernel
theorem dX5_knownPallet_29 : decode cX5_knownPallet 29 = .ok (.getfield 97, 3) := by decide +kernel
theorem dX5_knownPallet_32 : decode cX5_knownPallet 32 = .ok (.iload_n 1, 1) := by decide +kernel
theorem dX5_knownPallet_33 : decode cX5_knownPallet 33 = .ok (.aaload, 1) := by decide +kernel
theorem dX5_knownPallet_34 : decode cX5_knownPallet 34 = .ok (.areturn, 1) := by decide +kernel
theorem dX5_requireWithin_0 : decode cX5_requireWithin 0 = .ok (.iload_n 0, 1) := by decide +kernel
theorem dX5_requireWithin_1 : decode cX5_requireWithin 1 = .ok (.iload_n 1, 1) := by decide +kernel
theorem dX5_requireWithin_2 : decode cX5_requireWithin 2 = .ok (.if_icmp .lt 8, 3) := by decide +kernel
theorem dX5_requireWithin_5 : decode cX5_requireWithin 5 = .ok (.iload_n 0, 1) := by decide +kernel
theorem dX5_requireWithin_6 : decode cX5_requireWithin 6 = .ok (.iload_n 2, 1) := by decide +kernel
theorem dX5_requireWithin_7 : decode cX5_requireWithin 7 = .ok (.if_icmp .le 13, 3) := by decide +kernel
theorem dX5_requireWithin_10 : decode cX5_requireWithin 10 = .ok (.new 70, 3) := by decide +kernel
theorem dX5_requireWithin_13 : decode cX5_requireWithin 13 = .ok (.dup, 1) := by decide +kernel
theorem dX5_requireWithin_14 : decode cX5_requireWithin 14 = .ok (.ldc 214, 2) := by decide +kernel
theorem dX5_requireWithin_16 : decode cX5_requireWithin 16 = .ok (.invokespecial 74, 3) := by decide +kernel
theorem dX5_requireWithin_19 : decode cX5_requireWithin 19 = .ok (.athrow, 1) := by decide +kernel
theorem dX5_requireWithin_20 : decode cX5_requireWithin 20 = .ok (.return_, 1) := by decide +kernel
theorem dX5_requireShut_0 : decode cX5_requireShut 0 = .ok (.aload_n 0, 1) := by decide +kernel
theorem dX5_requireShut_1 : decode cX5_requireShut 1 = .ok (.getfield 32, 3) := by decide +kernel
theorem dX5_requireShut_4 : decode cX5_requireShut 4 = .ok (.ifCond .eq 13, 3) := by decide +kernel
theorem dX5_requireShut_7 : decode cX5_requireShut 7 = .ok (.new 57, 3) := by decide +kernel
theorem dX5_requireShut_10 : decode cX5_requireShut 10 = .ok (.dup, 1) := by decide +kernel
theorem dX5_requireShut_11 : decode cX5_requireShut 11 = .ok (.ldc 216, 2) := by decide +kernel
theorem dX5_requireShut_13 : decode cX5_requireShut 13 = .ok (.invokespecial 61, 3) := by decide +kernel
theorem dX5_requireShut_16 : decode cX5_requireShut 16 = .ok (.athrow, 1) := by decide +kernel
theorem dX5_requireShut_17 : decode cX5_requireShut 17 = .ok (.return_, 1) := by decide +kernel
theorem dX5_requireNoSeal_0 : decode cX5_requireNoSeal 0 = .ok (.aload_n 0, 1) := by decide +kernel
theorem dX5_requireNoSeal_1 : decode cX5_requireNoSeal 1 = .ok (.getfield 28, 3) := by decide +kernel
theorem dX5_requireNoSeal_4 : decode cX5_requireNoSeal 4 = .ok (.invokevirtual 190, 3) := by decide +kernel
theorem dX5_requireNoSeal_7 : decode cX5_requireNoSeal 7 = .ok (.ifCond .eq 13, 3) := by decide +kernel
theorem dX5_requireNoSeal_10 : decode cX5_requireNoSeal 10 = .ok (.new 57, 3) := by decide +kernel
theorem dX5_requireNoSeal_13 : decode cX5_requireNoSeal 13 = .ok (.dup, 1) := by decide +kernel
theorem dX5_requireNoSeal_14 : decode cX5_requireNoSeal 14 = .ok (.ldc 218, 2) := by decide +kernel
theorem dX5_requireNoSeal_16 : decode cX5_requireNoSeal 16 = .ok (.invokespecial 61, 3) := by decide +kernel
theorem dX5_requireNoSeal_19 : decode cX5_requireNoSeal 19 = .ok (.athrow, 1) := by decide +kernel
theorem dX5_requireNoSeal_20 : decode cX5_requireNoSeal 20 = .ok (.return_, 1) := by decide +kernel
theorem dX5_sideInLowestTerms_0 : decode cX5_sideInLowestTerms 0 = .ok (.iload_n 2, 1) := by decide +kernel
theorem dX5_sideInLowestTerms_1 : decode cX5_sideInLowestTerms 1 = .ok (.ifCond .ne 7, 3) := by decide +kernel
theorem dX5_sideInLowestTerms_4 : decode cX5_sideInLowestTerms 4 = .ok (.iload_n 0, 1) := by decide +kernel
theorem dX5_sideInLowestTerms_5 : decode cX5_sideInLowestTerms 5 = .ok (.goto 4, 3) := by decide +kernel
theorem dX5_sideInLowestTerms_8 : decode cX5_sideInLowestTerms 8 = .ok (.iload_n 1, 1) := by decide +kernel
theorem dX5_sideInLowestTerms_9 : decode cX5_sideInLowestTerms 9 = .ok (.istore_n 3, 1) := by decide +kernel
theorem dX5_sideInLowestTerms_10 : decode cX5_sideInLowestTerms 10 = .ok (.iload_n 1, 1) := by decide +kernel
theorem dX5_sideInLowestTerms_11 : decode cX5_sideInLowestTerms 11 = .ok (.istore 4, 2) := by decide +kernel
theorem dX5_sideInLowestTerms_13 : decode cX5_sideInLowestTerms 13 = .ok (.iload 4, 2) := by decide +kernel
theorem dX5_sideInLowestTerms_15 : decode cX5_sideInLowestTerms 15 = .ok (.iconst 1, 1) := by decide +kernel
theorem dX5_sideInLowestTerms_16 : decode cX5_sideInLowestTerms 16 = .ok (.if_icmp .le 28, 3) := by decide +kernel
theorem dX5_sideInLowestTerms_19 : decode cX5_sideInLowestTerms 19 = .ok (.iload_n 0, 1) := by decide +kernel
theorem dX5_sideInLowestTerms_20 : decode cX5_sideInLowestTerms 20 = .ok (.iload 4, 2) := by decide +kernel
theorem dX5_sideInLowestTerms_22 : decode cX5_sideInLowestTerms 22 = .ok (.irem, 1) := by decide +kernel
theorem dX5_sideInLowestTerms_23 : decode cX5_sideInLowestTerms 23 = .ok (.ifCond .ne 15, 3) := by decide +kernel
theorem dX5_sideInLowestTerms_26 : decode cX5_sideInLowestTerms 26 = .ok (.iload_n 1, 1) := by decide +kernel
theorem dX5_sideInLowestTerms_27 : decode cX5_sideInLowestTerms 27 = .ok (.iload 4, 2) := by decide +kernel
theorem dX5_sideInLowestTerms_29 : decode cX5_sideInLowestTerms 29 = .ok (.irem, 1) := by decide +kernel
theorem dX5_sideInLowestTerms_30 : decode cX5_sideInLowestTerms 30 = .ok (.ifCond .ne 8, 3) := by decide +kernel
theorem dX5_sideInLowestTerms_33 : decode cX5_sideInLowestTerms 33 = .ok (.iload_n 3, 1) := by decide +kernel
theorem dX5_sideInLowestTerms_34 : decode cX5_sideInLowestTerms 34 = .ok (.iload 4, 2) := by decide +kernel
theorem dX5_sideInLowestTerms_36 : decode cX5_sideInLowestTerms 36 = .ok (.idiv, 1) := by decide +kernel
theorem dX5_sideInLowestTerms_37 : decode cX5_sideInLowestTerms 37 = .ok (.ireturn, 1) := by decide +kernel
theorem dX5_sideInLowestTerms_38 : decode cX5_sideInLowestTerms 38 = .ok (.iinc 4 (-1), 3) := by decide +kernel
theorem dX5_sideInLowestTerms_41 : decode cX5_sideInLowestTerms 41 = .ok (.goto (-28), 3) := by decide +kernel
theorem dX5_sideInLowestTerms_44 : decode cX5_sideInLowestTerms 44 = .ok (.iload_n 3, 1) := by decide +kernel
theorem dX5_sideInLowestTerms_45 : decode cX5_sideInLowestTerms 45 = .ok (.ireturn, 1) := by decide +kernel
