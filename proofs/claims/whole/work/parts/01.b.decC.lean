theorem dC_init_0 : decode bC_init 0 = .ok (.aload_n 0, 1) := by decide +kernel
theorem dC_init_1 : decode bC_init 1 = .ok (.invokespecial 1, 3) := by decide +kernel
theorem dC_init_4 : decode bC_init 4 = .ok (.aload_n 0, 1) := by decide +kernel
theorem dC_init_5 : decode bC_init 5 = .ok (.bipush 6, 2) := by decide +kernel
theorem dC_init_7 : decode bC_init 7 = .ok (.anewarray 9, 3) := by decide +kernel
theorem dC_init_10 : decode bC_init 10 = .ok (.putfield 11, 3) := by decide +kernel
theorem dC_init_13 : decode bC_init 13 = .ok (.aload_n 0, 1) := by decide +kernel
theorem dC_init_14 : decode bC_init 14 = .ok (.bipush 60, 2) := by decide +kernel
theorem dC_init_16 : decode bC_init 16 = .ok (.anewarray 15, 3) := by decide +kernel
theorem dC_init_19 : decode bC_init 19 = .ok (.putfield 17, 3) := by decide +kernel
theorem dC_init_22 : decode bC_init 22 = .ok (.aload_n 0, 1) := by decide +kernel
theorem dC_init_23 : decode bC_init 23 = .ok (.bipush 100, 2) := by decide +kernel
theorem dC_init_25 : decode bC_init 25 = .ok (.anewarray 21, 3) := by decide +kernel
theorem dC_init_28 : decode bC_init 28 = .ok (.putfield 23, 3) := by decide +kernel
theorem dC_init_31 : decode bC_init 31 = .ok (.aload_n 0, 1) := by decide +kernel
theorem dC_init_32 : decode bC_init 32 = .ok (.iload_n 1, 1) := by decide +kernel
theorem dC_init_33 : decode bC_init 33 = .ok (.iconst 1, 1) := by decide +kernel
theorem dC_init_34 : decode bC_init 34 = .ok (.iconst 4, 1) := by decide +kernel
theorem dC_init_35 : decode bC_init 35 = .ok (.invokestatic 27, 3) := by decide +kernel
theorem dC_init_38 : decode bC_init 38 = .ok (.putfield 31, 3) := by decide +kernel
theorem dC_init_41 : decode bC_init 41 = .ok (.aload_n 0, 1) := by decide +kernel
theorem dC_init_42 : decode bC_init 42 = .ok (.iload_n 2, 1) := by decide +kernel
theorem dC_init_43 : decode bC_init 43 = .ok (.iconst 0, 1) := by decide +kernel
theorem dC_init_44 : decode bC_init 44 = .ok (.ldc 35, 2) := by decide +kernel
theorem dC_init_46 : decode bC_init 46 = .ok (.invokestatic 27, 3) := by decide +kernel
theorem dC_init_49 : decode bC_init 49 = .ok (.putfield 36, 3) := by decide +kernel
theorem dC_init_52 : decode bC_init 52 = .ok (.aload_n 0, 1) := by decide +kernel
theorem dC_init_53 : decode bC_init 53 = .ok (.iload_n 3, 1) := by decide +kernel
theorem dC_init_54 : decode bC_init 54 = .ok (.iconst 1, 1) := by decide +kernel
theorem dC_init_55 : decode bC_init 55 = .ok (.sipush 1000, 3) := by decide +kernel
theorem dC_init_58 : decode bC_init 58 = .ok (.invokestatic 27, 3) := by decide +kernel
theorem dC_init_61 : decode bC_init 61 = .ok (.putfield 39, 3) := by decide +kernel
theorem dC_init_64 : decode bC_init 64 = .ok (.return_, 1) := by decide +kernel
theorem dC_tool_0 : decode bC_tool 0 = .ok (.aload_n 0, 1) := by decide +kernel
theorem dC_tool_1 : decode bC_tool 1 = .ok (.getfield 42, 3) := by decide +kernel
theorem dC_tool_4 : decode bC_tool 4 = .ok (.aload_n 0, 1) := by decide +kernel
theorem dC_tool_5 : decode bC_tool 5 = .ok (.getfield 11, 3) := by decide +kernel
theorem dC_tool_8 : decode bC_tool 8 = .ok (.arraylength, 1) := by decide +kernel
theorem dC_tool_9 : decode bC_tool 9 = .ok (.if_icmp .lt 5, 3) := by decide +kernel
theorem dC_tool_12 : decode bC_tool 12 = .ok (.iconst (-1), 1) := by decide +kernel
theorem dC_tool_13 : decode bC_tool 13 = .ok (.ireturn, 1) := by decide +kernel
theorem dC_tool_14 : decode bC_tool 14 = .ok (.new 9, 3) := by decide +kernel
theorem dC_tool_17 : decode bC_tool 17 = .ok (.dup, 1) := by decide +kernel
theorem dC_tool_18 : decode bC_tool 18 = .ok (.aload_n 0, 1) := by decide +kernel
theorem dC_tool_19 : decode bC_tool 19 = .ok (.getfield 42, 3) := by decide +kernel
theorem dC_tool_22 : decode bC_tool 22 = .ok (.lload_n 1, 1) := by decide +kernel
theorem dC_tool_23 : decode bC_tool 23 = .ok (.iload_n 3, 1) := by decide +kernel
theorem dC_tool_24 : decode bC_tool 24 = .ok (.invokespecial 45, 3) := by decide +kernel
theorem dC_tool_27 : decode bC_tool 27 = .ok (.astore 4, 2) := by decide +kernel
theorem dC_tool_29 : decode bC_tool 29 = .ok (.aload_n 0, 1) := by decide +kernel
theorem dC_tool_30 : decode bC_tool 30 = .ok (.getfield 11, 3) := by decide +kernel
theorem dC_tool_33 : decode bC_tool 33 = .ok (.aload_n 0, 1) := by decide +kernel
theorem dC_tool_34 : decode bC_tool 34 = .ok (.getfield 42, 3) := by decide +kernel
theorem dC_tool_37 : decode bC_tool 37 = .ok (.aload 4, 2) := by decide +kernel
theorem dC_tool_39 : decode bC_tool 39 = .ok (.aastore, 1) := by decide +kernel
theorem dC_tool_40 : decode bC_tool 40 = .ok (.aload_n 0, 1) := by decide +kernel
theorem dC_tool_41 : decode bC_tool 41 = .ok (.dup, 1) := by decide +kernel
theorem dC_tool_42 : decode bC_tool 42 = .ok (.getfield 42, 3) := by decide +kernel
theorem dC_tool_45 : decode bC_tool 45 = .ok (.iconst 1, 1) := by decide +kernel
theorem dC_tool_46 : decode bC_tool 46 = .ok (.iadd, 1) := by decide +kernel
theorem dC_tool_47 : decode bC_tool 47 = .ok (.putfield 42, 3) := by decide +kernel
theorem dC_tool_50 : decode bC_tool 50 = .ok (.aload 4, 2) := by decide +kernel
theorem dC_tool_52 : decode bC_tool 52 = .ok (.getfield 48, 3) := by decide +kernel
theorem dC_tool_55 : decode bC_tool 55 = .ok (.ireturn, 1) := by decide +kernel
theorem dC_edition_0 : decode bC_edition 0 = .ok (.aload_n 0, 1) := by decide +kernel
theorem dC_edition_1 : decode bC_edition 1 = .ok (.iload_n 1, 1) := by decide +kernel
theorem dC_edition_2 : decode bC_edition 2 = .ok (.invokevirtual 51, 3) := by decide +kernel
theorem dC_edition_5 : decode bC_edition 5 = .ok (.astore 4, 2) := by decide +kernel
theorem dC_edition_7 : decode bC_edition 7 = .ok (.aload 4, 2) := by decide +kernel
theorem dC_edition_9 : decode bC_edition 9 = .ok (.ifnonnull 5, 3) := by decide +kernel
theorem dC_edition_12 : decode bC_edition 12 = .ok (.iconst (-1), 1) := by decide +kernel
theorem dC_edition_13 : decode bC_edition 13 = .ok (.ireturn, 1) := by decide +kernel
theorem dC_edition_14 : decode bC_edition 14 = .ok (.aload 4, 2) := by decide +kernel
theorem dC_edition_16 : decode bC_edition 16 = .ok (.lload_n 2, 1) := by decide +kernel
theorem dC_edition_17 : decode bC_edition 17 = .ok (.putfield 55, 3) := by decide +kernel
theorem dC_edition_20 : decode bC_edition 20 = .ok (.iconst 0, 1) := by decide +kernel
theorem dC_edition_21 : decode bC_edition 21 = .ok (.istore 5, 2) := by decide +kernel
theorem dC_edition_23 : decode bC_edition 23 = .ok (.aload_n 0, 1) := by decide +kernel
theorem dC_edition_24 : decode bC_edition 24 = .ok (.getfield 17, 3) := by decide +kernel
theorem dC_edition_27 : decode bC_edition 27 = .ok (.astore 6, 2) := by decide +kernel
theorem dC_edition_29 : decode bC_edition 29 = .ok (.aload 6, 2) := by decide +kernel
theorem dC_edition_31 : decode bC_edition 31 = .ok (.arraylength, 1) := by decide +kernel
theorem dC_edition_32 : decode bC_edition 32 = .ok (.istore 7, 2) := by decide +kernel
theorem dC_edition_34 : decode bC_edition 34 = .ok (.iconst 0, 1) := by decide +kernel
theorem dC_edition_35 : decode bC_edition 35 = .ok (.istore 8, 2) := by decide +kernel
theorem dC_edition_37 : decode bC_edition 37 = .ok (.iload 8, 2) := by decide +kernel
theorem dC_edition_39 : decode bC_edition 39 = .ok (.iload 7, 2) := by decide +kernel
theorem dC_edition_41 : decode bC_edition 41 = .ok (.if_icmp .ge 48, 3) := by decide +kernel
theorem dC_edition_44 : decode bC_edition 44 = .ok (.aload 6, 2) := by decide +kernel
theorem dC_edition_46 : decode bC_edition 46 = .ok (.iload 8, 2) := by decide +kernel
theorem dC_edition_48 : decode bC_edition 48 = .ok (.aaload, 1) := by decide +kernel
theorem dC_edition_49 : decode bC_edition 49 = .ok (.astore 9, 2) := by decide +kernel
theorem dC_edition_51 : decode bC_edition 51 = .ok (.aload 9, 2) := by decide +kernel
theorem dC_edition_53 : decode bC_edition 53 = .ok (.ifnull 30, 3) := by decide +kernel
theorem dC_edition_56 : decode bC_edition 56 = .ok (.aload 9, 2) := by decide +kernel
theorem dC_edition_58 : decode bC_edition 58 = .ok (.getfield 59, 3) := by decide +kernel
theorem dC_edition_61 : decode bC_edition 61 = .ok (.aload 4, 2) := by decide +kernel
theorem dC_edition_63 : decode bC_edition 63 = .ok (.if_acmp .ne 20, 3) := by decide +kernel
theorem dC_edition_66 : decode bC_edition 66 = .ok (.aload 9, 2) := by decide +kernel
theorem dC_edition_68 : decode bC_edition 68 = .ok (.invokestatic 63, 3) := by decide +kernel
theorem dC_edition_71 : decode bC_edition 71 = .ok (.ifCond .ne 12, 3) := by decide +kernel
theorem dC_edition_74 : decode bC_edition 74 = .ok (.aload 9, 2) := by decide +kernel
theorem dC_edition_76 : decode bC_edition 76 = .ok (.iconst 1, 1) := by decide +kernel
theorem dC_edition_77 : decode bC_edition 77 = .ok (.invokestatic 67, 3) := by decide +kernel
theorem dC_edition_80 : decode bC_edition 80 = .ok (.iinc 5 1, 3) := by decide +kernel
theorem dC_edition_83 : decode bC_edition 83 = .ok (.iinc 8 1, 3) := by decide +kernel
theorem dC_edition_86 : decode bC_edition 86 = .ok (.goto (-49), 3) := by decide +kernel
theorem dC_edition_89 : decode bC_edition 89 = .ok (.iload 5, 2) := by decide +kernel
theorem dC_edition_91 : decode bC_edition 91 = .ok (.ireturn, 1) := by decide +kernel
theorem dC_quirk_0 : decode bC_quirk 0 = .ok (.aload_n 0, 1) := by decide +kernel
theorem dC_quirk_1 : decode bC_quirk 1 = .ok (.iload_n 1, 1) := by decide +kernel
theorem dC_quirk_2 : decode bC_quirk 2 = .ok (.invokevirtual 51, 3) := by decide +kernel
theorem dC_quirk_5 : decode bC_quirk 5 = .ok (.astore_n 3, 1) := by decide +kernel
theorem dC_quirk_6 : decode bC_quirk 6 = .ok (.aload_n 3, 1) := by decide +kernel
theorem dC_quirk_7 : decode bC_quirk 7 = .ok (.ifnonnull 5, 3) := by decide +kernel
theorem dC_quirk_10 : decode bC_quirk 10 = .ok (.iconst 0, 1) := by decide +kernel
theorem dC_quirk_11 : decode bC_quirk 11 = .ok (.ireturn, 1) := by decide +kernel
theorem dC_quirk_12 : decode bC_quirk 12 = .ok (.aload_n 3, 1) := by decide +kernel
theorem dC_quirk_13 : decode bC_quirk 13 = .ok (.iload_n 2, 1) := by decide +kernel
theorem dC_quirk_14 : decode bC_quirk 14 = .ok (.putfield 71, 3) := by decide +kernel
theorem dC_quirk_17 : decode bC_quirk 17 = .ok (.iconst 1, 1) := by decide +kernel
theorem dC_quirk_18 : decode bC_quirk 18 = .ok (.ireturn, 1) := by decide +kernel
theorem dC_request_0 : decode bC_request 0 = .ok (.aload_n 0, 1) := by decide +kernel
theorem dC_request_1 : decode bC_request 1 = .ok (.iload_n 1, 1) := by decide +kernel
theorem dC_request_2 : decode bC_request 2 = .ok (.invokevirtual 51, 3) := by decide +kernel
theorem dC_request_5 : decode bC_request 5 = .ok (.astore 5, 2) := by decide +kernel
theorem dC_request_7 : decode bC_request 7 = .ok (.aload 5, 2) := by decide +kernel
theorem dC_request_9 : decode bC_request 9 = .ok (.ifnull 28, 3) := by decide +kernel
theorem dC_request_12 : decode bC_request 12 = .ok (.aload_n 0, 1) := by decide +kernel
theorem dC_request_13 : decode bC_request 13 = .ok (.getfield 74, 3) := by decide +kernel
theorem dC_request_16 : decode bC_request 16 = .ok (.aload_n 0, 1) := by decide +kernel
theorem dC_request_17 : decode bC_request 17 = .ok (.getfield 23, 3) := by decide +kernel
theorem dC_request_20 : decode bC_request 20 = .ok (.arraylength, 1) := by decide +kernel
theorem dC_request_21 : decode bC_request 21 = .ok (.if_icmp .ge 16, 3) := by decide +kernel
theorem dC_request_24 : decode bC_request 24 = .ok (.iload 4, 2) := by decide +kernel
theorem dC_request_26 : decode bC_request 26 = .ok (.ifCond .lt 11, 3) := by decide +kernel
theorem dC_request_29 : decode bC_request 29 = .ok (.iload 4, 2) := by decide +kernel
theorem dC_request_31 : decode bC_request 31 = .ok (.sipush 1000, 3) := by decide +kernel
theorem dC_request_34 : decode bC_request 34 = .ok (.if_icmp .le 5, 3) := by decide +kernel
theorem dC_request_37 : decode bC_request 37 = .ok (.iconst (-1), 1) := by decide +kernel
theorem dC_request_38 : decode bC_request 38 = .ok (.ireturn, 1) := by decide +kernel
theorem dC_request_39 : decode bC_request 39 = .ok (.new 21, 3) := by decide +kernel
theorem dC_request_42 : decode bC_request 42 = .ok (.dup, 1) := by decide +kernel
theorem dC_request_43 : decode bC_request 43 = .ok (.aload_n 0, 1) := by decide +kernel
theorem dC_request_44 : decode bC_request 44 = .ok (.getfield 74, 3) := by decide +kernel
theorem dC_request_47 : decode bC_request 47 = .ok (.aload 5, 2) := by decide +kernel
theorem dC_request_49 : decode bC_request 49 = .ok (.lload_n 2, 1) := by decide +kernel
theorem dC_request_50 : decode bC_request 50 = .ok (.iload 4, 2) := by decide +kernel
theorem dC_request_52 : decode bC_request 52 = .ok (.invokespecial 77, 3) := by decide +kernel
theorem dC_request_55 : decode bC_request 55 = .ok (.astore 6, 2) := by decide +kernel
theorem dC_request_57 : decode bC_request 57 = .ok (.aload_n 0, 1) := by decide +kernel
theorem dC_request_58 : decode bC_request 58 = .ok (.getfield 23, 3) := by decide +kernel
theorem dC_request_61 : decode bC_request 61 = .ok (.aload_n 0, 1) := by decide +kernel
theorem dC_request_62 : decode bC_request 62 = .ok (.getfield 74, 3) := by decide +kernel
theorem dC_request_65 : decode bC_request 65 = .ok (.aload 6, 2) := by decide +kernel
theorem dC_request_67 : decode bC_request 67 = .ok (.aastore, 1) := by decide +kernel
theorem dC_request_68 : decode bC_request 68 = .ok (.aload_n 0, 1) := by decide +kernel
theorem dC_request_69 : decode bC_request 69 = .ok (.dup, 1) := by decide +kernel
theorem dC_request_70 : decode bC_request 70 = .ok (.getfield 74, 3) := by decide +kernel
theorem dC_request_73 : decode bC_request 73 = .ok (.iconst 1, 1) := by decide +kernel
theorem dC_request_74 : decode bC_request 74 = .ok (.iadd, 1) := by decide +kernel
theorem dC_request_75 : decode bC_request 75 = .ok (.putfield 74, 3) := by decide +kernel
theorem dC_request_78 : decode bC_request 78 = .ok (.aload 6, 2) := by decide +kernel
theorem dC_request_80 : decode bC_request 80 = .ok (.getfield 80, 3) := by decide +kernel
theorem dC_request_83 : decode bC_request 83 = .ok (.ireturn, 1) := by decide +kernel
theorem dC_cancel_0 : decode bC_cancel 0 = .ok (.aload_n 0, 1) := by decide +kernel
theorem dC_cancel_1 : decode bC_cancel 1 = .ok (.iload_n 1, 1) := by decide +kernel
theorem dC_cancel_2 : decode bC_cancel 2 = .ok (.invokevirtual 81, 3) := by decide +kernel
theorem dC_cancel_5 : decode bC_cancel 5 = .ok (.astore_n 2, 1) := by decide +kernel
theorem dC_cancel_6 : decode bC_cancel 6 = .ok (.aload_n 2, 1) := by decide +kernel
theorem dC_cancel_7 : decode bC_cancel 7 = .ok (.ifnonnull 5, 3) := by decide +kernel
theorem dC_cancel_10 : decode bC_cancel 10 = .ok (.iconst (-1), 1) := by decide +kernel
theorem dC_cancel_11 : decode bC_cancel 11 = .ok (.ireturn, 1) := by decide +kernel
theorem dC_cancel_12 : decode bC_cancel 12 = .ok (.aload_n 2, 1) := by decide +kernel
theorem dC_cancel_13 : decode bC_cancel 13 = .ok (.getfield 85, 3) := by decide +kernel
theorem dC_cancel_16 : decode bC_cancel 16 = .ok (.ifCond .ne 9, 3) := by decide +kernel
theorem dC_cancel_19 : decode bC_cancel 19 = .ok (.aload_n 2, 1) := by decide +kernel
theorem dC_cancel_20 : decode bC_cancel 20 = .ok (.invokestatic 88, 3) := by decide +kernel
theorem dC_cancel_23 : decode bC_cancel 23 = .ok (.iconst 1, 1) := by decide +kernel
theorem dC_cancel_24 : decode bC_cancel 24 = .ok (.ireturn, 1) := by decide +kernel
theorem dC_cancel_25 : decode bC_cancel 25 = .ok (.aload_n 2, 1) := by decide +kernel
theorem dC_cancel_26 : decode bC_cancel 26 = .ok (.getfield 85, 3) := by decide +kernel
theorem dC_cancel_29 : decode bC_cancel 29 = .ok (.iconst 1, 1) := by decide +kernel
theorem dC_cancel_30 : decode bC_cancel 30 = .ok (.if_icmp .ne 10, 3) := by decide +kernel
theorem dC_cancel_33 : decode bC_cancel 33 = .ok (.aload_n 2, 1) := by decide +kernel
theorem dC_cancel_34 : decode bC_cancel 34 = .ok (.iconst 1, 1) := by decide +kernel
theorem dC_cancel_35 : decode bC_cancel 35 = .ok (.putfield 92, 3) := by decide +kernel
theorem dC_cancel_38 : decode bC_cancel 38 = .ok (.iconst 2, 1) := by decide +kernel
theorem dC_cancel_39 : decode bC_cancel 39 = .ok (.ireturn, 1) := by decide +kernel
theorem dC_cancel_40 : decode bC_cancel 40 = .ok (.iconst 0, 1) := by decide +kernel
theorem dC_cancel_41 : decode bC_cancel 41 = .ok (.ireturn, 1) := by decide +kernel
theorem dC_step_0 : decode bC_step 0 = .ok (.iconst 0, 1) := by decide +kernel
theorem dC_step_1 : decode bC_step 1 = .ok (.istore_n 1, 1) := by decide +kernel
theorem dC_step_2 : decode bC_step 2 = .ok (.aload_n 0, 1) := by decide +kernel
theorem dC_step_3 : decode bC_step 3 = .ok (.getfield 23, 3) := by decide +kernel
theorem dC_step_6 : decode bC_step 6 = .ok (.astore_n 2, 1) := by decide +kernel
theorem dC_step_7 : decode bC_step 7 = .ok (.aload_n 2, 1) := by decide +kernel
theorem dC_step_8 : decode bC_step 8 = .ok (.arraylength, 1) := by decide +kernel
theorem dC_step_9 : decode bC_step 9 = .ok (.istore_n 3, 1) := by decide +kernel
theorem dC_step_10 : decode bC_step 10 = .ok (.iconst 0, 1) := by decide +kernel
theorem dC_step_11 : decode bC_step 11 = .ok (.istore 4, 2) := by decide +kernel
theorem dC_step_13 : decode bC_step 13 = .ok (.iload 4, 2) := by decide +kernel
theorem dC_step_15 : decode bC_step 15 = .ok (.iload_n 3, 1) := by decide +kernel
theorem dC_step_16 : decode bC_step 16 = .ok (.if_icmp .ge 40, 3) := by decide +kernel
theorem dC_step_19 : decode bC_step 19 = .ok (.aload_n 2, 1) := by decide +kernel
theorem dC_step_20 : decode bC_step 20 = .ok (.iload 4, 2) := by decide +kernel
theorem dC_step_22 : decode bC_step 22 = .ok (.aaload, 1) := by decide +kernel
theorem dC_step_23 : decode bC_step 23 = .ok (.astore 5, 2) := by decide +kernel
theorem dC_step_25 : decode bC_step 25 = .ok (.aload 5, 2) := by decide +kernel
theorem dC_step_27 : decode bC_step 27 = .ok (.ifnull 23, 3) := by decide +kernel
theorem dC_step_30 : decode bC_step 30 = .ok (.aload 5, 2) := by decide +kernel
theorem dC_step_32 : decode bC_step 32 = .ok (.getfield 85, 3) := by decide +kernel
theorem dC_step_35 : decode bC_step 35 = .ok (.ifCond .ne 15, 3) := by decide +kernel
theorem dC_step_38 : decode bC_step 38 = .ok (.aload_n 0, 1) := by decide +kernel
theorem dC_step_39 : decode bC_step 39 = .ok (.aload 5, 2) := by decide +kernel
theorem dC_step_41 : decode bC_step 41 = .ok (.invokevirtual 96, 3) := by decide +kernel
theorem dC_step_44 : decode bC_step 44 = .ok (.ifCond .eq 6, 3) := by decide +kernel
theorem dC_step_47 : decode bC_step 47 = .ok (.iinc 1 1, 3) := by decide +kernel
theorem dC_step_50 : decode bC_step 50 = .ok (.iinc 4 1, 3) := by decide +kernel
theorem dC_step_53 : decode bC_step 53 = .ok (.goto (-40), 3) := by decide +kernel
theorem dC_step_56 : decode bC_step 56 = .ok (.iload_n 1, 1) := by decide +kernel
theorem dC_step_57 : decode bC_step 57 = .ok (.ireturn, 1) := by decide +kernel
theorem dC_finish_0 : decode bC_finish 0 = .ok (.aload_n 0, 1) := by decide +kernel
theorem dC_finish_1 : decode bC_finish 1 = .ok (.iload_n 1, 1) := by decide +kernel
theorem dC_finish_2 : decode bC_finish 2 = .ok (.invokevirtual 100, 3) := by decide +kernel
theorem dC_finish_5 : decode bC_finish 5 = .ok (.astore_n 2, 1) := by decide +kernel
theorem dC_finish_6 : decode bC_finish 6 = .ok (.aload_n 2, 1) := by decide +kernel
theorem dC_finish_7 : decode bC_finish 7 = .ok (.ifnull 10, 3) := by decide +kernel
theorem dC_finish_10 : decode bC_finish 10 = .ok (.aload_n 2, 1) := by decide +kernel
theorem dC_finish_11 : decode bC_finish 11 = .ok (.getfield 104, 3) := by decide +kernel
theorem dC_finish_14 : decode bC_finish 14 = .ok (.ifnonnull 5, 3) := by decide +kernel
theorem dC_finish_17 : decode bC_finish 17 = .ok (.iconst (-1), 1) := by decide +kernel
theorem dC_finish_18 : decode bC_finish 18 = .ok (.ireturn, 1) := by decide +kernel
theorem dC_finish_19 : decode bC_finish 19 = .ok (.aload_n 2, 1) := by decide +kernel
theorem dC_finish_20 : decode bC_finish 20 = .ok (.getfield 104, 3) := by decide +kernel
theorem dC_finish_23 : decode bC_finish 23 = .ok (.astore_n 3, 1) := by decide +kernel
theorem dC_finish_24 : decode bC_finish 24 = .ok (.aload_n 2, 1) := by decide +kernel
theorem dC_finish_25 : decode bC_finish 25 = .ok (.aload_n 3, 1) := by decide +kernel
theorem dC_finish_26 : decode bC_finish 26 = .ok (.invokestatic 108, 3) := by decide +kernel
theorem dC_finish_29 : decode bC_finish 29 = .ok (.lstore 4, 2) := by decide +kernel
theorem dC_finish_31 : decode bC_finish 31 = .ok (.aload_n 2, 1) := by decide +kernel
theorem dC_finish_32 : decode bC_finish 32 = .ok (.aconst_null, 1) := by decide +kernel
theorem dC_finish_33 : decode bC_finish 33 = .ok (.putfield 104, 3) := by decide +kernel
theorem dC_finish_36 : decode bC_finish 36 = .ok (.aload_n 2, 1) := by decide +kernel
theorem dC_finish_37 : decode bC_finish 37 = .ok (.dup, 1) := by decide +kernel
theorem dC_finish_38 : decode bC_finish 38 = .ok (.getfield 112, 3) := by decide +kernel
theorem dC_finish_41 : decode bC_finish 41 = .ok (.iconst 1, 1) := by decide +kernel
theorem dC_finish_42 : decode bC_finish 42 = .ok (.iadd, 1) := by decide +kernel
theorem dC_finish_43 : decode bC_finish 43 = .ok (.putfield 112, 3) := by decide +kernel
theorem dC_finish_46 : decode bC_finish 46 = .ok (.aload_n 2, 1) := by decide +kernel
theorem dC_finish_47 : decode bC_finish 47 = .ok (.dup, 1) := by decide +kernel
theorem dC_finish_48 : decode bC_finish 48 = .ok (.getfield 115, 3) := by decide +kernel
theorem dC_finish_51 : decode bC_finish 51 = .ok (.aload_n 3, 1) := by decide +kernel
theorem dC_finish_52 : decode bC_finish 52 = .ok (.getfield 118, 3) := by decide +kernel
theorem dC_finish_55 : decode bC_finish 55 = .ok (.iadd, 1) := by decide +kernel
theorem dC_finish_56 : decode bC_finish 56 = .ok (.putfield 115, 3) := by decide +kernel
theorem dC_finish_59 : decode bC_finish 59 = .ok (.aload_n 3, 1) := by decide +kernel
theorem dC_finish_60 : decode bC_finish 60 = .ok (.aload_n 2, 1) := by decide +kernel
theorem dC_finish_61 : decode bC_finish 61 = .ok (.getfield 112, 3) := by decide +kernel
theorem dC_finish_64 : decode bC_finish 64 = .ok (.putfield 121, 3) := by decide +kernel
theorem dC_finish_67 : decode bC_finish 67 = .ok (.aload_n 3, 1) := by decide +kernel
theorem dC_finish_68 : decode bC_finish 68 = .ok (.aload_n 2, 1) := by decide +kernel
theorem dC_finish_69 : decode bC_finish 69 = .ok (.lload 4, 2) := by decide +kernel
theorem dC_finish_71 : decode bC_finish 71 = .ok (.invokestatic 124, 3) := by decide +kernel
theorem dC_finish_74 : decode bC_finish 74 = .ok (.aload_n 2, 1) := by decide +kernel
theorem dC_finish_75 : decode bC_finish 75 = .ok (.getfield 115, 3) := by decide +kernel
theorem dC_finish_78 : decode bC_finish 78 = .ok (.aload_n 0, 1) := by decide +kernel
theorem dC_finish_79 : decode bC_finish 79 = .ok (.getfield 36, 3) := by decide +kernel
theorem dC_finish_82 : decode bC_finish 82 = .ok (.if_icmp .le 11, 3) := by decide +kernel
theorem dC_finish_85 : decode bC_finish 85 = .ok (.aload_n 2, 1) := by decide +kernel
theorem dC_finish_86 : decode bC_finish 86 = .ok (.iconst 2, 1) := by decide +kernel
theorem dC_finish_87 : decode bC_finish 87 = .ok (.putfield 128, 3) := by decide +kernel
theorem dC_finish_90 : decode bC_finish 90 = .ok (.goto 11, 3) := by decide +kernel
theorem dC_finish_93 : decode bC_finish 93 = .ok (.aload_n 2, 1) := by decide +kernel
theorem dC_finish_94 : decode bC_finish 94 = .ok (.aload_n 0, 1) := by decide +kernel
theorem dC_finish_95 : decode bC_finish 95 = .ok (.getfield 131, 3) := by decide +kernel
theorem dC_finish_98 : decode bC_finish 98 = .ok (.putfield 134, 3) := by decide +kernel
theorem dC_finish_101 : decode bC_finish 101 = .ok (.aload_n 3, 1) := by decide +kernel
theorem dC_finish_102 : decode bC_finish 102 = .ok (.getfield 80, 3) := by decide +kernel
theorem dC_finish_105 : decode bC_finish 105 = .ok (.ireturn, 1) := by decide +kernel
theorem dC_crash_0 : decode bC_crash 0 = .ok (.aload_n 0, 1) := by decide +kernel
theorem dC_crash_1 : decode bC_crash 1 = .ok (.iload_n 1, 1) := by decide +kernel
theorem dC_crash_2 : decode bC_crash 2 = .ok (.invokevirtual 100, 3) := by decide +kernel
theorem dC_crash_5 : decode bC_crash 5 = .ok (.astore_n 2, 1) := by decide +kernel
theorem dC_crash_6 : decode bC_crash 6 = .ok (.aload_n 2, 1) := by decide +kernel
theorem dC_crash_7 : decode bC_crash 7 = .ok (.ifnull 10, 3) := by decide +kernel
theorem dC_crash_10 : decode bC_crash 10 = .ok (.aload_n 2, 1) := by decide +kernel
theorem dC_crash_11 : decode bC_crash 11 = .ok (.invokestatic 63, 3) := by decide +kernel
theorem dC_crash_14 : decode bC_crash 14 = .ok (.ifCond .eq 5, 3) := by decide +kernel
theorem dC_crash_17 : decode bC_crash 17 = .ok (.iconst (-1), 1) := by decide +kernel
theorem dC_crash_18 : decode bC_crash 18 = .ok (.ireturn, 1) := by decide +kernel
theorem dC_crash_19 : decode bC_crash 19 = .ok (.aload_n 2, 1) := by decide +kernel
theorem dC_crash_20 : decode bC_crash 20 = .ok (.getfield 104, 3) := by decide +kernel
theorem dC_crash_23 : decode bC_crash 23 = .ok (.astore_n 3, 1) := by decide +kernel
theorem dC_crash_24 : decode bC_crash 24 = .ok (.aload_n 2, 1) := by decide +kernel
theorem dC_crash_25 : decode bC_crash 25 = .ok (.aconst_null, 1) := by decide +kernel
theorem dC_crash_26 : decode bC_crash 26 = .ok (.putfield 104, 3) := by decide +kernel
theorem dC_crash_29 : decode bC_crash 29 = .ok (.aload_n 2, 1) := by decide +kernel
theorem dC_crash_30 : decode bC_crash 30 = .ok (.iconst 3, 1) := by decide +kernel
theorem dC_crash_31 : decode bC_crash 31 = .ok (.putfield 128, 3) := by decide +kernel
theorem dC_crash_34 : decode bC_crash 34 = .ok (.aload_n 3, 1) := by decide +kernel
theorem dC_crash_35 : decode bC_crash 35 = .ok (.ifnull 19, 3) := by decide +kernel
theorem dC_crash_38 : decode bC_crash 38 = .ok (.aload_n 3, 1) := by decide +kernel
theorem dC_crash_39 : decode bC_crash 39 = .ok (.aconst_null, 1) := by decide +kernel
theorem dC_crash_40 : decode bC_crash 40 = .ok (.aload_n 2, 1) := by decide +kernel
theorem dC_crash_41 : decode bC_crash 41 = .ok (.getfield 137, 3) := by decide +kernel
theorem dC_crash_44 : decode bC_crash 44 = .ok (.aload_n 3, 1) := by decide +kernel
theorem dC_crash_45 : decode bC_crash 45 = .ok (.getfield 138, 3) := by decide +kernel
theorem dC_crash_48 : decode bC_crash 48 = .ok (.invokestatic 141, 3) := by decide +kernel
theorem dC_crash_51 : decode bC_crash 51 = .ok (.invokestatic 124, 3) := by decide +kernel
theorem dC_crash_54 : decode bC_crash 54 = .ok (.iconst 1, 1) := by decide +kernel
theorem dC_crash_55 : decode bC_crash 55 = .ok (.ireturn, 1) := by decide +kernel
theorem dC_tick_0 : decode bC_tick 0 = .ok (.iload_n 1, 1) := by decide +kernel
theorem dC_tick_1 : decode bC_tick 1 = .ok (.ifCond .lt 21, 3) := by decide +kernel
theorem dC_tick_4 : decode bC_tick 4 = .ok (.iload_n 1, 1) := by decide +kernel
theorem dC_tick_5 : decode bC_tick 5 = .ok (.sipush 10000, 3) := by decide +kernel
theorem dC_tick_8 : decode bC_tick 8 = .ok (.if_icmp .gt 14, 3) := by decide +kernel
theorem dC_tick_11 : decode bC_tick 11 = .ok (.aload_n 0, 1) := by decide +kernel
theorem dC_tick_12 : decode bC_tick 12 = .ok (.getfield 131, 3) := by decide +kernel
theorem dC_tick_15 : decode bC_tick 15 = .ok (.ldc 145, 2) := by decide +kernel
theorem dC_tick_17 : decode bC_tick 17 = .ok (.iload_n 1, 1) := by decide +kernel
theorem dC_tick_18 : decode bC_tick 18 = .ok (.isub, 1) := by decide +kernel
theorem dC_tick_19 : decode bC_tick 19 = .ok (.if_icmp .le 5, 3) := by decide +kernel
theorem dC_tick_22 : decode bC_tick 22 = .ok (.iconst (-1), 1) := by decide +kernel
theorem dC_tick_23 : decode bC_tick 23 = .ok (.ireturn, 1) := by decide +kernel
theorem dC_tick_24 : decode bC_tick 24 = .ok (.aload_n 0, 1) := by decide +kernel
theorem dC_tick_25 : decode bC_tick 25 = .ok (.dup, 1) := by decide +kernel
theorem dC_tick_26 : decode bC_tick 26 = .ok (.getfield 131, 3) := by decide +kernel
theorem dC_tick_29 : decode bC_tick 29 = .ok (.iload_n 1, 1) := by decide +kernel
theorem dC_tick_30 : decode bC_tick 30 = .ok (.iadd, 1) := by decide +kernel
theorem dC_tick_31 : decode bC_tick 31 = .ok (.putfield 131, 3) := by decide +kernel
theorem dC_tick_34 : decode bC_tick 34 = .ok (.iconst 0, 1) := by decide +kernel
theorem dC_tick_35 : decode bC_tick 35 = .ok (.istore_n 2, 1) := by decide +kernel
theorem dC_tick_36 : decode bC_tick 36 = .ok (.aload_n 0, 1) := by decide +kernel
theorem dC_tick_37 : decode bC_tick 37 = .ok (.getfield 17, 3) := by decide +kernel
theorem dC_tick_40 : decode bC_tick 40 = .ok (.astore_n 3, 1) := by decide +kernel
theorem dC_tick_41 : decode bC_tick 41 = .ok (.aload_n 3, 1) := by decide +kernel
theorem dC_tick_42 : decode bC_tick 42 = .ok (.arraylength, 1) := by decide +kernel
theorem dC_tick_43 : decode bC_tick 43 = .ok (.istore 4, 2) := by decide +kernel
theorem dC_tick_45 : decode bC_tick 45 = .ok (.iconst 0, 1) := by decide +kernel
theorem dC_tick_46 : decode bC_tick 46 = .ok (.istore 5, 2) := by decide +kernel
theorem dC_tick_48 : decode bC_tick 48 = .ok (.iload 5, 2) := by decide +kernel
theorem dC_tick_50 : decode bC_tick 50 = .ok (.iload 4, 2) := by decide +kernel
theorem dC_tick_52 : decode bC_tick 52 = .ok (.if_icmp .ge 54, 3) := by decide +kernel
theorem dC_tick_55 : decode bC_tick 55 = .ok (.aload_n 3, 1) := by decide +kernel
theorem dC_tick_56 : decode bC_tick 56 = .ok (.iload 5, 2) := by decide +kernel
theorem dC_tick_58 : decode bC_tick 58 = .ok (.aaload, 1) := by decide +kernel
theorem dC_tick_59 : decode bC_tick 59 = .ok (.astore 6, 2) := by decide +kernel
theorem dC_tick_61 : decode bC_tick 61 = .ok (.aload 6, 2) := by decide +kernel
theorem dC_tick_63 : decode bC_tick 63 = .ok (.ifnull 37, 3) := by decide +kernel
theorem dC_tick_66 : decode bC_tick 66 = .ok (.aload 6, 2) := by decide +kernel
theorem dC_tick_68 : decode bC_tick 68 = .ok (.invokestatic 146, 3) := by decide +kernel
theorem dC_tick_71 : decode bC_tick 71 = .ok (.ifCond .ne 29, 3) := by decide +kernel
theorem dC_tick_74 : decode bC_tick 74 = .ok (.aload_n 0, 1) := by decide +kernel
theorem dC_tick_75 : decode bC_tick 75 = .ok (.getfield 131, 3) := by decide +kernel
theorem dC_tick_78 : decode bC_tick 78 = .ok (.aload 6, 2) := by decide +kernel
theorem dC_tick_80 : decode bC_tick 80 = .ok (.getfield 134, 3) := by decide +kernel
theorem dC_tick_83 : decode bC_tick 83 = .ok (.isub, 1) := by decide +kernel
theorem dC_tick_84 : decode bC_tick 84 = .ok (.aload_n 0, 1) := by decide +kernel
theorem dC_tick_85 : decode bC_tick 85 = .ok (.getfield 39, 3) := by decide +kernel
theorem dC_tick_88 : decode bC_tick 88 = .ok (.if_icmp .lt 12, 3) := by decide +kernel
theorem dC_tick_91 : decode bC_tick 91 = .ok (.aload 6, 2) := by decide +kernel
theorem dC_tick_93 : decode bC_tick 93 = .ok (.iconst 4, 1) := by decide +kernel
theorem dC_tick_94 : decode bC_tick 94 = .ok (.putfield 128, 3) := by decide +kernel
theorem dC_tick_97 : decode bC_tick 97 = .ok (.iinc 2 1, 3) := by decide +kernel
theorem dC_tick_100 : decode bC_tick 100 = .ok (.iinc 5 1, 3) := by decide +kernel
theorem dC_tick_103 : decode bC_tick 103 = .ok (.goto (-55), 3) := by decide +kernel
theorem dC_tick_106 : decode bC_tick 106 = .ok (.iload_n 2, 1) := by decide +kernel
theorem dC_tick_107 : decode bC_tick 107 = .ok (.ireturn, 1) := by decide +kernel
theorem dC_sample_0 : decode bC_sample 0 = .ok (.aload_n 0, 1) := by decide +kernel
theorem dC_sample_1 : decode bC_sample 1 = .ok (.iload_n 1, 1) := by decide +kernel
theorem dC_sample_2 : decode bC_sample 2 = .ok (.invokevirtual 81, 3) := by decide +kernel
theorem dC_sample_5 : decode bC_sample 5 = .ok (.astore_n 2, 1) := by decide +kernel
theorem dC_sample_6 : decode bC_sample 6 = .ok (.aload_n 2, 1) := by decide +kernel
theorem dC_sample_7 : decode bC_sample 7 = .ok (.ifnull 18, 3) := by decide +kernel
theorem dC_sample_10 : decode bC_sample 10 = .ok (.aload_n 2, 1) := by decide +kernel
theorem dC_sample_11 : decode bC_sample 11 = .ok (.getfield 85, 3) := by decide +kernel
theorem dC_sample_14 : decode bC_sample 14 = .ok (.iconst 2, 1) := by decide +kernel
theorem dC_sample_15 : decode bC_sample 15 = .ok (.if_icmp .ne 10, 3) := by decide +kernel
theorem dC_sample_18 : decode bC_sample 18 = .ok (.aload_n 2, 1) := by decide +kernel
theorem dC_sample_19 : decode bC_sample 19 = .ok (.getfield 150, 3) := by decide +kernel
theorem dC_sample_22 : decode bC_sample 22 = .ok (.ifnonnull 5, 3) := by decide +kernel
theorem dC_sample_25 : decode bC_sample 25 = .ok (.iconst (-1), 1) := by decide +kernel
theorem dC_sample_26 : decode bC_sample 26 = .ok (.ireturn, 1) := by decide +kernel
theorem dC_sample_27 : decode bC_sample 27 = .ok (.aload_n 2, 1) := by decide +kernel
theorem dC_sample_28 : decode bC_sample 28 = .ok (.getfield 150, 3) := by decide +kernel
theorem dC_sample_31 : decode bC_sample 31 = .ok (.astore_n 3, 1) := by decide +kernel
theorem dC_sample_32 : decode bC_sample 32 = .ok (.aload_n 2, 1) := by decide +kernel
theorem dC_sample_33 : decode bC_sample 33 = .ok (.getfield 154, 3) := by decide +kernel
theorem dC_sample_36 : decode bC_sample 36 = .ok (.aload_n 3, 1) := by decide +kernel
theorem dC_sample_37 : decode bC_sample 37 = .ok (.getfield 137, 3) := by decide +kernel
theorem dC_sample_40 : decode bC_sample 40 = .ok (.aload_n 2, 1) := by decide +kernel
theorem dC_sample_41 : decode bC_sample 41 = .ok (.getfield 138, 3) := by decide +kernel
theorem dC_sample_44 : decode bC_sample 44 = .ok (.invokestatic 141, 3) := by decide +kernel
theorem dC_sample_47 : decode bC_sample 47 = .ok (.lcmp, 1) := by decide +kernel
theorem dC_sample_48 : decode bC_sample 48 = .ok (.ifCond .ne 20, 3) := by decide +kernel
theorem dC_sample_51 : decode bC_sample 51 = .ok (.aload_n 3, 1) := by decide +kernel
theorem dC_sample_52 : decode bC_sample 52 = .ok (.aload_n 3, 1) := by decide +kernel
theorem dC_sample_53 : decode bC_sample 53 = .ok (.getfield 157, 3) := by decide +kernel
theorem dC_sample_56 : decode bC_sample 56 = .ok (.aload_n 2, 1) := by decide +kernel
theorem dC_sample_57 : decode bC_sample 57 = .ok (.getfield 121, 3) := by decide +kernel
theorem dC_sample_60 : decode bC_sample 60 = .ok (.invokestatic 160, 3) := by decide +kernel
theorem dC_sample_63 : decode bC_sample 63 = .ok (.putfield 157, 3) := by decide +kernel
theorem dC_sample_66 : decode bC_sample 66 = .ok (.iconst 0, 1) := by decide +kernel
theorem dC_sample_67 : decode bC_sample 67 = .ok (.ireturn, 1) := by decide +kernel
theorem dC_sample_68 : decode bC_sample 68 = .ok (.aload_n 0, 1) := by decide +kernel
theorem dC_sample_69 : decode bC_sample 69 = .ok (.aload_n 2, 1) := by decide +kernel
theorem dC_sample_70 : decode bC_sample 70 = .ok (.aload_n 3, 1) := by decide +kernel
theorem dC_sample_71 : decode bC_sample 71 = .ok (.invokevirtual 166, 3) := by decide +kernel
theorem dC_sample_74 : decode bC_sample 74 = .ok (.istore 4, 2) := by decide +kernel
theorem dC_sample_76 : decode bC_sample 76 = .ok (.aload_n 3, 1) := by decide +kernel
theorem dC_sample_77 : decode bC_sample 77 = .ok (.invokestatic 63, 3) := by decide +kernel
theorem dC_sample_80 : decode bC_sample 80 = .ok (.ifCond .ne 8, 3) := by decide +kernel
theorem dC_sample_83 : decode bC_sample 83 = .ok (.aload_n 3, 1) := by decide +kernel
theorem dC_sample_84 : decode bC_sample 84 = .ok (.iconst 5, 1) := by decide +kernel
theorem dC_sample_85 : decode bC_sample 85 = .ok (.invokestatic 67, 3) := by decide +kernel
theorem dC_sample_88 : decode bC_sample 88 = .ok (.aload_n 3, 1) := by decide +kernel
theorem dC_sample_89 : decode bC_sample 89 = .ok (.getfield 59, 3) := by decide +kernel
theorem dC_sample_92 : decode bC_sample 92 = .ok (.dup, 1) := by decide +kernel
theorem dC_sample_93 : decode bC_sample 93 = .ok (.getfield 170, 3) := by decide +kernel
theorem dC_sample_96 : decode bC_sample 96 = .ok (.iconst 1, 1) := by decide +kernel
theorem dC_sample_97 : decode bC_sample 97 = .ok (.iadd, 1) := by decide +kernel
theorem dC_sample_98 : decode bC_sample 98 = .ok (.putfield 170, 3) := by decide +kernel
theorem dC_sample_101 : decode bC_sample 101 = .ok (.iload 4, 2) := by decide +kernel
theorem dC_sample_103 : decode bC_sample 103 = .ok (.ireturn, 1) := by decide +kernel
theorem dC_about_0 : decode bC_about 0 = .ok (.aload_n 0, 1) := by decide +kernel
theorem dC_about_1 : decode bC_about 1 = .ok (.iload_n 1, 1) := by decide +kernel
theorem dC_about_2 : decode bC_about 2 = .ok (.invokevirtual 81, 3) := by decide +kernel
theorem dC_about_5 : decode bC_about 5 = .ok (.astore_n 3, 1) := by decide +kernel
theorem dC_about_6 : decode bC_about 6 = .ok (.aload_n 3, 1) := by decide +kernel
theorem dC_about_7 : decode bC_about 7 = .ok (.ifnonnull 5, 3) := by decide +kernel
theorem dC_about_10 : decode bC_about 10 = .ok (.iconst (-1), 1) := by decide +kernel
theorem dC_about_11 : decode bC_about 11 = .ok (.ireturn, 1) := by decide +kernel
theorem dC_about_12 : decode bC_about 12 = .ok (.iload_n 2, 1) := by decide +kernel
theorem dC_about_13 : decode bC_about 13 = .ok (.tableswitch 90 0 4 #[35, 40, 59, 64, 77], 35) := by decide +kernel
theorem dC_about_48 : decode bC_about 48 = .ok (.aload_n 3, 1) := by decide +kernel
theorem dC_about_49 : decode bC_about 49 = .ok (.getfield 85, 3) := by decide +kernel
theorem dC_about_52 : decode bC_about 52 = .ok (.ireturn, 1) := by decide +kernel
theorem dC_about_53 : decode bC_about 53 = .ok (.aload_n 3, 1) := by decide +kernel
theorem dC_about_54 : decode bC_about 54 = .ok (.getfield 150, 3) := by decide +kernel
theorem dC_about_57 : decode bC_about 57 = .ok (.ifnonnull 7, 3) := by decide +kernel
theorem dC_about_60 : decode bC_about 60 = .ok (.iconst (-1), 1) := by decide +kernel
theorem dC_about_61 : decode bC_about 61 = .ok (.goto 10, 3) := by decide +kernel
theorem dC_about_64 : decode bC_about 64 = .ok (.aload_n 3, 1) := by decide +kernel
theorem dC_about_65 : decode bC_about 65 = .ok (.getfield 150, 3) := by decide +kernel
theorem dC_about_68 : decode bC_about 68 = .ok (.getfield 173, 3) := by decide +kernel
theorem dC_about_71 : decode bC_about 71 = .ok (.ireturn, 1) := by decide +kernel
theorem dC_about_72 : decode bC_about 72 = .ok (.aload_n 3, 1) := by decide +kernel
theorem dC_about_73 : decode bC_about 73 = .ok (.getfield 174, 3) := by decide +kernel
theorem dC_about_76 : decode bC_about 76 = .ok (.ireturn, 1) := by decide +kernel
theorem dC_about_77 : decode bC_about 77 = .ok (.aload_n 3, 1) := by decide +kernel
theorem dC_about_78 : decode bC_about 78 = .ok (.getfield 92, 3) := by decide +kernel
theorem dC_about_81 : decode bC_about 81 = .ok (.ifCond .eq 7, 3) := by decide +kernel
theorem dC_about_84 : decode bC_about 84 = .ok (.iconst 1, 1) := by decide +kernel
theorem dC_about_85 : decode bC_about 85 = .ok (.goto 4, 3) := by decide +kernel
theorem dC_about_88 : decode bC_about 88 = .ok (.iconst 0, 1) := by decide +kernel
theorem dC_about_89 : decode bC_about 89 = .ok (.ireturn, 1) := by decide +kernel
theorem dC_about_90 : decode bC_about 90 = .ok (.aload_n 3, 1) := by decide +kernel
theorem dC_about_91 : decode bC_about 91 = .ok (.getfield 177, 3) := by decide +kernel
theorem dC_about_94 : decode bC_about 94 = .ok (.ifCond .eq 7, 3) := by decide +kernel
theorem dC_about_97 : decode bC_about 97 = .ok (.iconst 1, 1) := by decide +kernel
theorem dC_about_98 : decode bC_about 98 = .ok (.goto 4, 3) := by decide +kernel
theorem dC_about_101 : decode bC_about 101 = .ok (.iconst 0, 1) := by decide +kernel
theorem dC_about_102 : decode bC_about 102 = .ok (.ireturn, 1) := by decide +kernel
theorem dC_about_103 : decode bC_about 103 = .ok (.iconst (-1), 1) := by decide +kernel
theorem dC_about_104 : decode bC_about 104 = .ok (.ireturn, 1) := by decide +kernel
theorem dC_result_0 : decode bC_result 0 = .ok (.aload_n 0, 1) := by decide +kernel
theorem dC_result_1 : decode bC_result 1 = .ok (.iload_n 1, 1) := by decide +kernel
theorem dC_result_2 : decode bC_result 2 = .ok (.invokevirtual 81, 3) := by decide +kernel
theorem dC_result_5 : decode bC_result 5 = .ok (.astore_n 2, 1) := by decide +kernel
theorem dC_result_6 : decode bC_result 6 = .ok (.aload_n 2, 1) := by decide +kernel
theorem dC_result_7 : decode bC_result 7 = .ok (.ifnull 11, 3) := by decide +kernel
theorem dC_result_10 : decode bC_result 10 = .ok (.aload_n 2, 1) := by decide +kernel
theorem dC_result_11 : decode bC_result 11 = .ok (.getfield 85, 3) := by decide +kernel
theorem dC_result_14 : decode bC_result 14 = .ok (.iconst 2, 1) := by decide +kernel
theorem dC_result_15 : decode bC_result 15 = .ok (.if_icmp .eq 5, 3) := by decide +kernel
theorem dC_result_18 : decode bC_result 18 = .ok (.lconst 0, 1) := by decide +kernel
theorem dC_result_19 : decode bC_result 19 = .ok (.lreturn, 1) := by decide +kernel
theorem dC_result_20 : decode bC_result 20 = .ok (.aload_n 2, 1) := by decide +kernel
theorem dC_result_21 : decode bC_result 21 = .ok (.getfield 154, 3) := by decide +kernel
theorem dC_result_24 : decode bC_result 24 = .ok (.lreturn, 1) := by decide +kernel
theorem dC_worker_0 : decode bC_worker 0 = .ok (.aload_n 0, 1) := by decide +kernel
theorem dC_worker_1 : decode bC_worker 1 = .ok (.iload_n 1, 1) := by decide +kernel
theorem dC_worker_2 : decode bC_worker 2 = .ok (.invokevirtual 100, 3) := by decide +kernel
theorem dC_worker_5 : decode bC_worker 5 = .ok (.astore_n 3, 1) := by decide +kernel
theorem dC_worker_6 : decode bC_worker 6 = .ok (.aload_n 3, 1) := by decide +kernel
theorem dC_worker_7 : decode bC_worker 7 = .ok (.ifnonnull 5, 3) := by decide +kernel
theorem dC_worker_10 : decode bC_worker 10 = .ok (.iconst (-1), 1) := by decide +kernel
theorem dC_worker_11 : decode bC_worker 11 = .ok (.ireturn, 1) := by decide +kernel
theorem dC_worker_12 : decode bC_worker 12 = .ok (.iload_n 2, 1) := by decide +kernel
theorem dC_worker_13 : decode bC_worker 13 = .ok (.tableswitch 95 0 6 #[43, 51, 56, 61, 66, 85, 90], 43) := by decide +kernel
theorem dC_worker_56 : decode bC_worker 56 = .ok (.aload_n 3, 1) := by decide +kernel
theorem dC_worker_57 : decode bC_worker 57 = .ok (.getfield 59, 3) := by decide +kernel
theorem dC_worker_60 : decode bC_worker 60 = .ok (.getfield 48, 3) := by decide +kernel
theorem dC_worker_63 : decode bC_worker 63 = .ok (.ireturn, 1) := by decide +kernel
theorem dC_worker_64 : decode bC_worker 64 = .ok (.aload_n 3, 1) := by decide +kernel
theorem dC_worker_65 : decode bC_worker 65 = .ok (.invokestatic 146, 3) := by decide +kernel
theorem dC_worker_68 : decode bC_worker 68 = .ok (.ireturn, 1) := by decide +kernel
theorem dC_worker_69 : decode bC_worker 69 = .ok (.aload_n 3, 1) := by decide +kernel
theorem dC_worker_70 : decode bC_worker 70 = .ok (.getfield 112, 3) := by decide +kernel
theorem dC_worker_73 : decode bC_worker 73 = .ok (.ireturn, 1) := by decide +kernel
theorem dC_worker_74 : decode bC_worker 74 = .ok (.aload_n 3, 1) := by decide +kernel
theorem dC_worker_75 : decode bC_worker 75 = .ok (.getfield 115, 3) := by decide +kernel
theorem dC_worker_78 : decode bC_worker 78 = .ok (.ireturn, 1) := by decide +kernel
theorem dC_worker_79 : decode bC_worker 79 = .ok (.aload_n 3, 1) := by decide +kernel
theorem dC_worker_80 : decode bC_worker 80 = .ok (.getfield 104, 3) := by decide +kernel
theorem dC_worker_83 : decode bC_worker 83 = .ok (.ifnonnull 7, 3) := by decide +kernel
theorem dC_worker_86 : decode bC_worker 86 = .ok (.iconst (-1), 1) := by decide +kernel
theorem dC_worker_87 : decode bC_worker 87 = .ok (.goto 10, 3) := by decide +kernel
theorem dC_worker_90 : decode bC_worker 90 = .ok (.aload_n 3, 1) := by decide +kernel
theorem dC_worker_91 : decode bC_worker 91 = .ok (.getfield 104, 3) := by decide +kernel
theorem dC_worker_94 : decode bC_worker 94 = .ok (.getfield 80, 3) := by decide +kernel
theorem dC_worker_97 : decode bC_worker 97 = .ok (.ireturn, 1) := by decide +kernel
theorem dC_worker_98 : decode bC_worker 98 = .ok (.aload_n 3, 1) := by decide +kernel
theorem dC_worker_99 : decode bC_worker 99 = .ok (.getfield 128, 3) := by decide +kernel
theorem dC_worker_102 : decode bC_worker 102 = .ok (.ireturn, 1) := by decide +kernel
theorem dC_worker_103 : decode bC_worker 103 = .ok (.aload_n 3, 1) := by decide +kernel
theorem dC_worker_104 : decode bC_worker 104 = .ok (.getfield 157, 3) := by decide +kernel
theorem dC_worker_107 : decode bC_worker 107 = .ok (.ireturn, 1) := by decide +kernel
theorem dC_worker_108 : decode bC_worker 108 = .ok (.iconst (-1), 1) := by decide +kernel
theorem dC_worker_109 : decode bC_worker 109 = .ok (.ireturn, 1) := by decide +kernel
theorem dC_bars_0 : decode bC_bars 0 = .ok (.aload_n 0, 1) := by decide +kernel
theorem dC_bars_1 : decode bC_bars 1 = .ok (.iload_n 1, 1) := by decide +kernel
theorem dC_bars_2 : decode bC_bars 2 = .ok (.invokevirtual 51, 3) := by decide +kernel
theorem dC_bars_5 : decode bC_bars 5 = .ok (.astore_n 2, 1) := by decide +kernel
theorem dC_bars_6 : decode bC_bars 6 = .ok (.aload_n 2, 1) := by decide +kernel
theorem dC_bars_7 : decode bC_bars 7 = .ok (.ifnonnull 7, 3) := by decide +kernel
theorem dC_bars_10 : decode bC_bars 10 = .ok (.iconst (-1), 1) := by decide +kernel
theorem dC_bars_11 : decode bC_bars 11 = .ok (.goto 7, 3) := by decide +kernel
theorem dC_bars_14 : decode bC_bars 14 = .ok (.aload_n 2, 1) := by decide +kernel
theorem dC_bars_15 : decode bC_bars 15 = .ok (.getfield 170, 3) := by decide +kernel
theorem dC_bars_18 : decode bC_bars 18 = .ok (.ireturn, 1) := by decide +kernel
theorem dC_oneShot_0 : decode bC_oneShot 0 = .ok (.lload_n 1, 1) := by decide +kernel
theorem dC_oneShot_1 : decode bC_oneShot 1 = .ok (.lload_n 3, 1) := by decide +kernel
theorem dC_oneShot_2 : decode bC_oneShot 2 = .ok (.invokestatic 141, 3) := by decide +kernel
theorem dC_oneShot_5 : decode bC_oneShot 5 = .ok (.lreturn, 1) := by decide +kernel
theorem dC_nearest_0 : decode bC_nearest 0 = .ok (.iload_n 1, 1) := by decide +kernel
theorem dC_nearest_1 : decode bC_nearest 1 = .ok (.iload_n 2, 1) := by decide +kernel
theorem dC_nearest_2 : decode bC_nearest 2 = .ok (.iload_n 0, 1) := by decide +kernel
theorem dC_nearest_3 : decode bC_nearest 3 = .ok (.invokestatic 180, 3) := by decide +kernel
theorem dC_nearest_6 : decode bC_nearest 6 = .ok (.invokestatic 160, 3) := by decide +kernel
theorem dC_nearest_9 : decode bC_nearest 9 = .ok (.ireturn, 1) := by decide +kernel
theorem dC_freshRun_0 : decode bC_freshRun 0 = .ok (.lload_n 0, 1) := by decide +kernel
theorem dC_freshRun_1 : decode bC_freshRun 1 = .ok (.lload_n 2, 1) := by decide +kernel
theorem dC_freshRun_2 : decode bC_freshRun 2 = .ok (.lxor, 1) := by decide +kernel
theorem dC_freshRun_3 : decode bC_freshRun 3 = .ok (.lstore 4, 2) := by decide +kernel
theorem dC_freshRun_5 : decode bC_freshRun 5 = .ok (.iconst 0, 1) := by decide +kernel
theorem dC_freshRun_6 : decode bC_freshRun 6 = .ok (.istore 6, 2) := by decide +kernel
theorem dC_freshRun_8 : decode bC_freshRun 8 = .ok (.iload 6, 2) := by decide +kernel
theorem dC_freshRun_10 : decode bC_freshRun 10 = .ok (.iconst 2, 1) := by decide +kernel
theorem dC_freshRun_11 : decode bC_freshRun 11 = .ok (.if_icmp .ge 23, 3) := by decide +kernel
theorem dC_freshRun_14 : decode bC_freshRun 14 = .ok (.lload 4, 2) := by decide +kernel
theorem dC_freshRun_16 : decode bC_freshRun 16 = .ok (.lload 4, 2) := by decide +kernel
theorem dC_freshRun_18 : decode bC_freshRun 18 = .ok (.bipush 31, 2) := by decide +kernel
theorem dC_freshRun_20 : decode bC_freshRun 20 = .ok (.lushr, 1) := by decide +kernel
theorem dC_freshRun_21 : decode bC_freshRun 21 = .ok (.lxor, 1) := by decide +kernel
theorem dC_freshRun_22 : decode bC_freshRun 22 = .ok (.ldc2_w 183, 3) := by decide +kernel
theorem dC_freshRun_25 : decode bC_freshRun 25 = .ok (.lmul, 1) := by decide +kernel
theorem dC_freshRun_26 : decode bC_freshRun 26 = .ok (.lstore 4, 2) := by decide +kernel
theorem dC_freshRun_28 : decode bC_freshRun 28 = .ok (.iinc 6 1, 3) := by decide +kernel
theorem dC_freshRun_31 : decode bC_freshRun 31 = .ok (.goto (-23), 3) := by decide +kernel
theorem dC_freshRun_34 : decode bC_freshRun 34 = .ok (.lload 4, 2) := by decide +kernel
theorem dC_freshRun_36 : decode bC_freshRun 36 = .ok (.lload_n 2, 1) := by decide +kernel
theorem dC_freshRun_37 : decode bC_freshRun 37 = .ok (.ladd, 1) := by decide +kernel
theorem dC_freshRun_38 : decode bC_freshRun 38 = .ok (.lreturn, 1) := by decide +kernel
theorem dC_whatItGives_0 : decode bC_whatItGives 0 = .ok (.aload_n 0, 1) := by decide +kernel
theorem dC_whatItGives_1 : decode bC_whatItGives 1 = .ok (.getfield 59, 3) := by decide +kernel
theorem dC_whatItGives_4 : decode bC_whatItGives 4 = .ok (.getfield 71, 3) := by decide +kernel
theorem dC_whatItGives_7 : decode bC_whatItGives 7 = .ok (.i2l, 1) := by decide +kernel
theorem dC_whatItGives_8 : decode bC_whatItGives 8 = .ok (.aload_n 0, 1) := by decide +kernel
theorem dC_whatItGives_9 : decode bC_whatItGives 9 = .ok (.getfield 112, 3) := by decide +kernel
theorem dC_whatItGives_12 : decode bC_whatItGives 12 = .ok (.i2l, 1) := by decide +kernel
theorem dC_whatItGives_13 : decode bC_whatItGives 13 = .ok (.lmul, 1) := by decide +kernel
theorem dC_whatItGives_14 : decode bC_whatItGives 14 = .ok (.lstore_n 2, 1) := by decide +kernel
theorem dC_whatItGives_15 : decode bC_whatItGives 15 = .ok (.aload_n 0, 1) := by decide +kernel
theorem dC_whatItGives_16 : decode bC_whatItGives 16 = .ok (.getfield 137, 3) := by decide +kernel
theorem dC_whatItGives_19 : decode bC_whatItGives 19 = .ok (.aload_n 1, 1) := by decide +kernel
theorem dC_whatItGives_20 : decode bC_whatItGives 20 = .ok (.getfield 138, 3) := by decide +kernel
theorem dC_whatItGives_23 : decode bC_whatItGives 23 = .ok (.invokestatic 141, 3) := by decide +kernel
theorem dC_whatItGives_26 : decode bC_whatItGives 26 = .ok (.lload_n 2, 1) := by decide +kernel
theorem dC_whatItGives_27 : decode bC_whatItGives 27 = .ok (.ladd, 1) := by decide +kernel
theorem dC_whatItGives_28 : decode bC_whatItGives 28 = .ok (.lreturn, 1) := by decide +kernel
theorem dC_toolAt_0 : decode bC_toolAt 0 = .ok (.iload_n 1, 1) := by decide +kernel
theorem dC_toolAt_1 : decode bC_toolAt 1 = .ok (.ifCond .lt 12, 3) := by decide +kernel
theorem dC_toolAt_4 : decode bC_toolAt 4 = .ok (.iload_n 1, 1) := by decide +kernel
theorem dC_toolAt_5 : decode bC_toolAt 5 = .ok (.aload_n 0, 1) := by decide +kernel
theorem dC_toolAt_6 : decode bC_toolAt 6 = .ok (.getfield 11, 3) := by decide +kernel
theorem dC_toolAt_9 : decode bC_toolAt 9 = .ok (.arraylength, 1) := by decide +kernel
theorem dC_toolAt_10 : decode bC_toolAt 10 = .ok (.if_icmp .lt 7, 3) := by decide +kernel
theorem dC_toolAt_13 : decode bC_toolAt 13 = .ok (.aconst_null, 1) := by decide +kernel
theorem dC_toolAt_14 : decode bC_toolAt 14 = .ok (.goto 9, 3) := by decide +kernel
theorem dC_toolAt_17 : decode bC_toolAt 17 = .ok (.aload_n 0, 1) := by decide +kernel
theorem dC_toolAt_18 : decode bC_toolAt 18 = .ok (.getfield 11, 3) := by decide +kernel
theorem dC_toolAt_21 : decode bC_toolAt 21 = .ok (.iload_n 1, 1) := by decide +kernel
theorem dC_toolAt_22 : decode bC_toolAt 22 = .ok (.aaload, 1) := by decide +kernel
theorem dC_toolAt_23 : decode bC_toolAt 23 = .ok (.areturn, 1) := by decide +kernel
theorem dC_workerAt_0 : decode bC_workerAt 0 = .ok (.iload_n 1, 1) := by decide +kernel
theorem dC_workerAt_1 : decode bC_workerAt 1 = .ok (.ifCond .lt 12, 3) := by decide +kernel
theorem dC_workerAt_4 : decode bC_workerAt 4 = .ok (.iload_n 1, 1) := by decide +kernel
theorem dC_workerAt_5 : decode bC_workerAt 5 = .ok (.aload_n 0, 1) := by decide +kernel
theorem dC_workerAt_6 : decode bC_workerAt 6 = .ok (.getfield 17, 3) := by decide +kernel
theorem dC_workerAt_9 : decode bC_workerAt 9 = .ok (.arraylength, 1) := by decide +kernel
theorem dC_workerAt_10 : decode bC_workerAt 10 = .ok (.if_icmp .lt 7, 3) := by decide +kernel
theorem dC_workerAt_13 : decode bC_workerAt 13 = .ok (.aconst_null, 1) := by decide +kernel
theorem dC_workerAt_14 : decode bC_workerAt 14 = .ok (.goto 9, 3) := by decide +kernel
theorem dC_workerAt_17 : decode bC_workerAt 17 = .ok (.aload_n 0, 1) := by decide +kernel
theorem dC_workerAt_18 : decode bC_workerAt 18 = .ok (.getfield 17, 3) := by decide +kernel
theorem dC_workerAt_21 : decode bC_workerAt 21 = .ok (.iload_n 1, 1) := by decide +kernel
theorem dC_workerAt_22 : decode bC_workerAt 22 = .ok (.aaload, 1) := by decide +kernel
theorem dC_workerAt_23 : decode bC_workerAt 23 = .ok (.areturn, 1) := by decide +kernel
theorem dC_requestAt_0 : decode bC_requestAt 0 = .ok (.iload_n 1, 1) := by decide +kernel
theorem dC_requestAt_1 : decode bC_requestAt 1 = .ok (.ifCond .lt 12, 3) := by decide +kernel
theorem dC_requestAt_4 : decode bC_requestAt 4 = .ok (.iload_n 1, 1) := by decide +kernel
theorem dC_requestAt_5 : decode bC_requestAt 5 = .ok (.aload_n 0, 1) := by decide +kernel
theorem dC_requestAt_6 : decode bC_requestAt 6 = .ok (.getfield 23, 3) := by decide +kernel
theorem dC_requestAt_9 : decode bC_requestAt 9 = .ok (.arraylength, 1) := by decide +kernel
theorem dC_requestAt_10 : decode bC_requestAt 10 = .ok (.if_icmp .lt 7, 3) := by decide +kernel
theorem dC_requestAt_13 : decode bC_requestAt 13 = .ok (.aconst_null, 1) := by decide +kernel
theorem dC_requestAt_14 : decode bC_requestAt 14 = .ok (.goto 9, 3) := by decide +kernel
theorem dC_requestAt_17 : decode bC_requestAt 17 = .ok (.aload_n 0, 1) := by decide +kernel
theorem dC_requestAt_18 : decode bC_requestAt 18 = .ok (.getfield 23, 3) := by decide +kernel
theorem dC_requestAt_21 : decode bC_requestAt 21 = .ok (.iload_n 1, 1) := by decide +kernel
theorem dC_requestAt_22 : decode bC_requestAt 22 = .ok (.aaload, 1) := by decide +kernel
theorem dC_requestAt_23 : decode bC_requestAt 23 = .ok (.areturn, 1) := by decide +kernel
theorem dC_isEnded_0 : decode bC_isEnded 0 = .ok (.aload_n 0, 1) := by decide +kernel
theorem dC_isEnded_1 : decode bC_isEnded 1 = .ok (.getfield 128, 3) := by decide +kernel
theorem dC_isEnded_4 : decode bC_isEnded 4 = .ok (.ifCond .eq 7, 3) := by decide +kernel
theorem dC_isEnded_7 : decode bC_isEnded 7 = .ok (.iconst 1, 1) := by decide +kernel
theorem dC_isEnded_8 : decode bC_isEnded 8 = .ok (.goto 4, 3) := by decide +kernel
theorem dC_isEnded_11 : decode bC_isEnded 11 = .ok (.iconst 0, 1) := by decide +kernel
theorem dC_isEnded_12 : decode bC_isEnded 12 = .ok (.ireturn, 1) := by decide +kernel
theorem dC_stateOf_0 : decode bC_stateOf 0 = .ok (.aload_n 0, 1) := by decide +kernel
theorem dC_stateOf_1 : decode bC_stateOf 1 = .ok (.invokestatic 63, 3) := by decide +kernel
theorem dC_stateOf_4 : decode bC_stateOf 4 = .ok (.ifCond .eq 5, 3) := by decide +kernel
theorem dC_stateOf_7 : decode bC_stateOf 7 = .ok (.iconst 2, 1) := by decide +kernel
theorem dC_stateOf_8 : decode bC_stateOf 8 = .ok (.ireturn, 1) := by decide +kernel
theorem dC_stateOf_9 : decode bC_stateOf 9 = .ok (.aload_n 0, 1) := by decide +kernel
theorem dC_stateOf_10 : decode bC_stateOf 10 = .ok (.getfield 104, 3) := by decide +kernel
theorem dC_stateOf_13 : decode bC_stateOf 13 = .ok (.ifnonnull 7, 3) := by decide +kernel
theorem dC_stateOf_16 : decode bC_stateOf 16 = .ok (.iconst 0, 1) := by decide +kernel
theorem dC_stateOf_17 : decode bC_stateOf 17 = .ok (.goto 4, 3) := by decide +kernel
theorem dC_stateOf_20 : decode bC_stateOf 20 = .ok (.iconst 1, 1) := by decide +kernel
theorem dC_stateOf_21 : decode bC_stateOf 21 = .ok (.ireturn, 1) := by decide +kernel
theorem dC_moveOn_0 : decode bC_moveOn 0 = .ok (.aload_n 1, 1) := by decide +kernel
theorem dC_moveOn_1 : decode bC_moveOn 1 = .ok (.getfield 185, 3) := by decide +kernel
theorem dC_moveOn_4 : decode bC_moveOn 4 = .ok (.astore_n 2, 1) := by decide +kernel
theorem dC_moveOn_5 : decode bC_moveOn 5 = .ok (.aload_n 2, 1) := by decide +kernel
theorem dC_moveOn_6 : decode bC_moveOn 6 = .ok (.getfield 170, 3) := by decide +kernel
theorem dC_moveOn_9 : decode bC_moveOn 9 = .ok (.iconst 3, 1) := by decide +kernel
theorem dC_moveOn_10 : decode bC_moveOn 10 = .ok (.if_icmp .lt 21, 3) := by decide +kernel
theorem dC_moveOn_13 : decode bC_moveOn 13 = .ok (.aload_n 1, 1) := by decide +kernel
theorem dC_moveOn_14 : decode bC_moveOn 14 = .ok (.aconst_null, 1) := by decide +kernel
theorem dC_moveOn_15 : decode bC_moveOn 15 = .ok (.aload_n 2, 1) := by decide +kernel
theorem dC_moveOn_16 : decode bC_moveOn 16 = .ok (.getfield 55, 3) := by decide +kernel
theorem dC_moveOn_19 : decode bC_moveOn 19 = .ok (.aload_n 1, 1) := by decide +kernel
theorem dC_moveOn_20 : decode bC_moveOn 20 = .ok (.getfield 138, 3) := by decide +kernel
theorem dC_moveOn_23 : decode bC_moveOn 23 = .ok (.invokestatic 141, 3) := by decide +kernel
theorem dC_moveOn_26 : decode bC_moveOn 26 = .ok (.invokestatic 124, 3) := by decide +kernel
theorem dC_moveOn_29 : decode bC_moveOn 29 = .ok (.iconst 1, 1) := by decide +kernel
theorem dC_moveOn_30 : decode bC_moveOn 30 = .ok (.ireturn, 1) := by decide +kernel
theorem dC_moveOn_31 : decode bC_moveOn 31 = .ok (.aload_n 0, 1) := by decide +kernel
theorem dC_moveOn_32 : decode bC_moveOn 32 = .ok (.aload_n 2, 1) := by decide +kernel
theorem dC_moveOn_33 : decode bC_moveOn 33 = .ok (.invokevirtual 186, 3) := by decide +kernel
theorem dC_moveOn_36 : decode bC_moveOn 36 = .ok (.astore_n 3, 1) := by decide +kernel
theorem dC_moveOn_37 : decode bC_moveOn 37 = .ok (.aload_n 3, 1) := by decide +kernel
theorem dC_moveOn_38 : decode bC_moveOn 38 = .ok (.ifnonnull 9, 3) := by decide +kernel
theorem dC_moveOn_41 : decode bC_moveOn 41 = .ok (.aload_n 0, 1) := by decide +kernel
theorem dC_moveOn_42 : decode bC_moveOn 42 = .ok (.aload_n 2, 1) := by decide +kernel
theorem dC_moveOn_43 : decode bC_moveOn 43 = .ok (.invokevirtual 190, 3) := by decide +kernel
theorem dC_moveOn_46 : decode bC_moveOn 46 = .ok (.astore_n 3, 1) := by decide +kernel
theorem dC_moveOn_47 : decode bC_moveOn 47 = .ok (.aload_n 3, 1) := by decide +kernel
theorem dC_moveOn_48 : decode bC_moveOn 48 = .ok (.ifnonnull 5, 3) := by decide +kernel
theorem dC_moveOn_51 : decode bC_moveOn 51 = .ok (.iconst 0, 1) := by decide +kernel
theorem dC_moveOn_52 : decode bC_moveOn 52 = .ok (.ireturn, 1) := by decide +kernel
theorem dC_moveOn_53 : decode bC_moveOn 53 = .ok (.aload_n 1, 1) := by decide +kernel
theorem dC_moveOn_54 : decode bC_moveOn 54 = .ok (.aload_n 3, 1) := by decide +kernel
theorem dC_moveOn_55 : decode bC_moveOn 55 = .ok (.invokestatic 193, 3) := by decide +kernel
theorem dC_moveOn_58 : decode bC_moveOn 58 = .ok (.iconst 1, 1) := by decide +kernel
theorem dC_moveOn_59 : decode bC_moveOn 59 = .ok (.ireturn, 1) := by decide +kernel
theorem dC_firstFree_0 : decode bC_firstFree 0 = .ok (.aload_n 0, 1) := by decide +kernel
theorem dC_firstFree_1 : decode bC_firstFree 1 = .ok (.getfield 17, 3) := by decide +kernel
theorem dC_firstFree_4 : decode bC_firstFree 4 = .ok (.astore_n 2, 1) := by decide +kernel
theorem dC_firstFree_5 : decode bC_firstFree 5 = .ok (.aload_n 2, 1) := by decide +kernel
theorem dC_firstFree_6 : decode bC_firstFree 6 = .ok (.arraylength, 1) := by decide +kernel
theorem dC_firstFree_7 : decode bC_firstFree 7 = .ok (.istore_n 3, 1) := by decide +kernel
theorem dC_firstFree_8 : decode bC_firstFree 8 = .ok (.iconst 0, 1) := by decide +kernel
theorem dC_firstFree_9 : decode bC_firstFree 9 = .ok (.istore 4, 2) := by decide +kernel
theorem dC_firstFree_11 : decode bC_firstFree 11 = .ok (.iload 4, 2) := by decide +kernel
theorem dC_firstFree_13 : decode bC_firstFree 13 = .ok (.iload_n 3, 1) := by decide +kernel
theorem dC_firstFree_14 : decode bC_firstFree 14 = .ok (.if_icmp .ge 40, 3) := by decide +kernel
theorem dC_firstFree_17 : decode bC_firstFree 17 = .ok (.aload_n 2, 1) := by decide +kernel
theorem dC_firstFree_18 : decode bC_firstFree 18 = .ok (.iload 4, 2) := by decide +kernel
theorem dC_firstFree_20 : decode bC_firstFree 20 = .ok (.aaload, 1) := by decide +kernel
theorem dC_firstFree_21 : decode bC_firstFree 21 = .ok (.astore 5, 2) := by decide +kernel
theorem dC_firstFree_23 : decode bC_firstFree 23 = .ok (.aload 5, 2) := by decide +kernel
theorem dC_firstFree_25 : decode bC_firstFree 25 = .ok (.ifnull 23, 3) := by decide +kernel
theorem dC_firstFree_28 : decode bC_firstFree 28 = .ok (.aload 5, 2) := by decide +kernel
theorem dC_firstFree_30 : decode bC_firstFree 30 = .ok (.getfield 59, 3) := by decide +kernel
theorem dC_firstFree_33 : decode bC_firstFree 33 = .ok (.aload_n 1, 1) := by decide +kernel
theorem dC_firstFree_34 : decode bC_firstFree 34 = .ok (.if_acmp .ne 14, 3) := by decide +kernel
theorem dC_firstFree_37 : decode bC_firstFree 37 = .ok (.aload 5, 2) := by decide +kernel
theorem dC_firstFree_39 : decode bC_firstFree 39 = .ok (.invokestatic 146, 3) := by decide +kernel
theorem dC_firstFree_42 : decode bC_firstFree 42 = .ok (.ifCond .ne 6, 3) := by decide +kernel
theorem dC_firstFree_45 : decode bC_firstFree 45 = .ok (.aload 5, 2) := by decide +kernel
theorem dC_firstFree_47 : decode bC_firstFree 47 = .ok (.areturn, 1) := by decide +kernel
theorem dC_firstFree_48 : decode bC_firstFree 48 = .ok (.iinc 4 1, 3) := by decide +kernel
theorem dC_firstFree_51 : decode bC_firstFree 51 = .ok (.goto (-40), 3) := by decide +kernel
theorem dC_firstFree_54 : decode bC_firstFree 54 = .ok (.aconst_null, 1) := by decide +kernel
theorem dC_firstFree_55 : decode bC_firstFree 55 = .ok (.areturn, 1) := by decide +kernel
theorem dC_startWorker_0 : decode bC_startWorker 0 = .ok (.aload_n 0, 1) := by decide +kernel
theorem dC_startWorker_1 : decode bC_startWorker 1 = .ok (.getfield 197, 3) := by decide +kernel
theorem dC_startWorker_4 : decode bC_startWorker 4 = .ok (.aload_n 0, 1) := by decide +kernel
theorem dC_startWorker_5 : decode bC_startWorker 5 = .ok (.getfield 17, 3) := by decide +kernel
theorem dC_startWorker_8 : decode bC_startWorker 8 = .ok (.arraylength, 1) := by decide +kernel
theorem dC_startWorker_9 : decode bC_startWorker 9 = .ok (.if_icmp .ge 15, 3) := by decide +kernel
theorem dC_startWorker_12 : decode bC_startWorker 12 = .ok (.aload_n 0, 1) := by decide +kernel
theorem dC_startWorker_13 : decode bC_startWorker 13 = .ok (.aload_n 1, 1) := by decide +kernel
theorem dC_startWorker_14 : decode bC_startWorker 14 = .ok (.invokevirtual 200, 3) := by decide +kernel
theorem dC_startWorker_17 : decode bC_startWorker 17 = .ok (.aload_n 0, 1) := by decide +kernel
theorem dC_startWorker_18 : decode bC_startWorker 18 = .ok (.getfield 31, 3) := by decide +kernel
theorem dC_startWorker_21 : decode bC_startWorker 21 = .ok (.if_icmp .lt 5, 3) := by decide +kernel
theorem dC_startWorker_24 : decode bC_startWorker 24 = .ok (.aconst_null, 1) := by decide +kernel
theorem dC_startWorker_25 : decode bC_startWorker 25 = .ok (.areturn, 1) := by decide +kernel
theorem dC_startWorker_26 : decode bC_startWorker 26 = .ok (.new 15, 3) := by decide +kernel
theorem dC_startWorker_29 : decode bC_startWorker 29 = .ok (.dup, 1) := by decide +kernel
theorem dC_startWorker_30 : decode bC_startWorker 30 = .ok (.aload_n 0, 1) := by decide +kernel
theorem dC_startWorker_31 : decode bC_startWorker 31 = .ok (.getfield 197, 3) := by decide +kernel
theorem dC_startWorker_34 : decode bC_startWorker 34 = .ok (.aload_n 1, 1) := by decide +kernel
theorem dC_startWorker_35 : decode bC_startWorker 35 = .ok (.invokespecial 204, 3) := by decide +kernel
theorem dC_startWorker_38 : decode bC_startWorker 38 = .ok (.astore_n 2, 1) := by decide +kernel
theorem dC_startWorker_39 : decode bC_startWorker 39 = .ok (.aload_n 0, 1) := by decide +kernel
theorem dC_startWorker_40 : decode bC_startWorker 40 = .ok (.getfield 17, 3) := by decide +kernel
theorem dC_startWorker_43 : decode bC_startWorker 43 = .ok (.aload_n 0, 1) := by decide +kernel
theorem dC_startWorker_44 : decode bC_startWorker 44 = .ok (.getfield 197, 3) := by decide +kernel
theorem dC_startWorker_47 : decode bC_startWorker 47 = .ok (.aload_n 2, 1) := by decide +kernel
theorem dC_startWorker_48 : decode bC_startWorker 48 = .ok (.aastore, 1) := by decide +kernel
theorem dC_startWorker_49 : decode bC_startWorker 49 = .ok (.aload_n 0, 1) := by decide +kernel
theorem dC_startWorker_50 : decode bC_startWorker 50 = .ok (.dup, 1) := by decide +kernel
theorem dC_startWorker_51 : decode bC_startWorker 51 = .ok (.getfield 197, 3) := by decide +kernel
theorem dC_startWorker_54 : decode bC_startWorker 54 = .ok (.iconst 1, 1) := by decide +kernel
theorem dC_startWorker_55 : decode bC_startWorker 55 = .ok (.iadd, 1) := by decide +kernel
theorem dC_startWorker_56 : decode bC_startWorker 56 = .ok (.putfield 197, 3) := by decide +kernel
theorem dC_startWorker_59 : decode bC_startWorker 59 = .ok (.aload_n 2, 1) := by decide +kernel
theorem dC_startWorker_60 : decode bC_startWorker 60 = .ok (.areturn, 1) := by decide +kernel
theorem dC_countStaying_0 : decode bC_countStaying 0 = .ok (.iconst 0, 1) := by decide +kernel
theorem dC_countStaying_1 : decode bC_countStaying 1 = .ok (.istore_n 2, 1) := by decide +kernel
theorem dC_countStaying_2 : decode bC_countStaying 2 = .ok (.aload_n 0, 1) := by decide +kernel
theorem dC_countStaying_3 : decode bC_countStaying 3 = .ok (.getfield 17, 3) := by decide +kernel
theorem dC_countStaying_6 : decode bC_countStaying 6 = .ok (.astore_n 3, 1) := by decide +kernel
theorem dC_countStaying_7 : decode bC_countStaying 7 = .ok (.aload_n 3, 1) := by decide +kernel
theorem dC_countStaying_8 : decode bC_countStaying 8 = .ok (.arraylength, 1) := by decide +kernel
theorem dC_countStaying_9 : decode bC_countStaying 9 = .ok (.istore 4, 2) := by decide +kernel
theorem dC_countStaying_11 : decode bC_countStaying 11 = .ok (.iconst 0, 1) := by decide +kernel
theorem dC_countStaying_12 : decode bC_countStaying 12 = .ok (.istore 5, 2) := by decide +kernel
theorem dC_countStaying_14 : decode bC_countStaying 14 = .ok (.iload 5, 2) := by decide +kernel
theorem dC_countStaying_16 : decode bC_countStaying 16 = .ok (.iload 4, 2) := by decide +kernel
theorem dC_countStaying_18 : decode bC_countStaying 18 = .ok (.if_icmp .ge 40, 3) := by decide +kernel
theorem dC_countStaying_21 : decode bC_countStaying 21 = .ok (.aload_n 3, 1) := by decide +kernel
theorem dC_countStaying_22 : decode bC_countStaying 22 = .ok (.iload 5, 2) := by decide +kernel
theorem dC_countStaying_24 : decode bC_countStaying 24 = .ok (.aaload, 1) := by decide +kernel
theorem dC_countStaying_25 : decode bC_countStaying 25 = .ok (.astore 6, 2) := by decide +kernel
theorem dC_countStaying_27 : decode bC_countStaying 27 = .ok (.aload 6, 2) := by decide +kernel
theorem dC_countStaying_29 : decode bC_countStaying 29 = .ok (.ifnull 23, 3) := by decide +kernel
theorem dC_countStaying_32 : decode bC_countStaying 32 = .ok (.aload 6, 2) := by decide +kernel
theorem dC_countStaying_34 : decode bC_countStaying 34 = .ok (.getfield 59, 3) := by decide +kernel
theorem dC_countStaying_37 : decode bC_countStaying 37 = .ok (.aload_n 1, 1) := by decide +kernel
theorem dC_countStaying_38 : decode bC_countStaying 38 = .ok (.if_acmp .ne 14, 3) := by decide +kernel
theorem dC_countStaying_41 : decode bC_countStaying 41 = .ok (.aload 6, 2) := by decide +kernel
theorem dC_countStaying_43 : decode bC_countStaying 43 = .ok (.invokestatic 63, 3) := by decide +kernel
theorem dC_countStaying_46 : decode bC_countStaying 46 = .ok (.ifCond .ne 6, 3) := by decide +kernel
theorem dC_countStaying_49 : decode bC_countStaying 49 = .ok (.iinc 2 1, 3) := by decide +kernel
theorem dC_countStaying_52 : decode bC_countStaying 52 = .ok (.iinc 5 1, 3) := by decide +kernel
theorem dC_countStaying_55 : decode bC_countStaying 55 = .ok (.goto (-41), 3) := by decide +kernel
theorem dC_countStaying_58 : decode bC_countStaying 58 = .ok (.iload_n 2, 1) := by decide +kernel
theorem dC_countStaying_59 : decode bC_countStaying 59 = .ok (.ireturn, 1) := by decide +kernel
theorem dC_beginWith_0 : decode bC_beginWith 0 = .ok (.aload_n 1, 1) := by decide +kernel
theorem dC_beginWith_1 : decode bC_beginWith 1 = .ok (.aload_n 0, 1) := by decide +kernel
theorem dC_beginWith_2 : decode bC_beginWith 2 = .ok (.putfield 104, 3) := by decide +kernel
theorem dC_beginWith_5 : decode bC_beginWith 5 = .ok (.aload_n 0, 1) := by decide +kernel
theorem dC_beginWith_6 : decode bC_beginWith 6 = .ok (.aload_n 1, 1) := by decide +kernel
theorem dC_beginWith_7 : decode bC_beginWith 7 = .ok (.putfield 150, 3) := by decide +kernel
theorem dC_beginWith_10 : decode bC_beginWith 10 = .ok (.aload_n 0, 1) := by decide +kernel
theorem dC_beginWith_11 : decode bC_beginWith 11 = .ok (.iconst 1, 1) := by decide +kernel
theorem dC_beginWith_12 : decode bC_beginWith 12 = .ok (.putfield 85, 3) := by decide +kernel
theorem dC_beginWith_15 : decode bC_beginWith 15 = .ok (.aload_n 0, 1) := by decide +kernel
theorem dC_beginWith_16 : decode bC_beginWith 16 = .ok (.dup, 1) := by decide +kernel
theorem dC_beginWith_17 : decode bC_beginWith 17 = .ok (.getfield 174, 3) := by decide +kernel
theorem dC_beginWith_20 : decode bC_beginWith 20 = .ok (.iconst 1, 1) := by decide +kernel
theorem dC_beginWith_21 : decode bC_beginWith 21 = .ok (.iadd, 1) := by decide +kernel
theorem dC_beginWith_22 : decode bC_beginWith 22 = .ok (.putfield 174, 3) := by decide +kernel
theorem dC_beginWith_25 : decode bC_beginWith 25 = .ok (.return_, 1) := by decide +kernel
theorem dC_leaveDone_0 : decode bC_leaveDone 0 = .ok (.aload_n 0, 1) := by decide +kernel
theorem dC_leaveDone_1 : decode bC_leaveDone 1 = .ok (.getfield 92, 3) := by decide +kernel
theorem dC_leaveDone_4 : decode bC_leaveDone 4 = .ok (.ifCond .eq 8, 3) := by decide +kernel
theorem dC_leaveDone_7 : decode bC_leaveDone 7 = .ok (.aload_n 0, 1) := by decide +kernel
theorem dC_leaveDone_8 : decode bC_leaveDone 8 = .ok (.invokestatic 88, 3) := by decide +kernel
theorem dC_leaveDone_11 : decode bC_leaveDone 11 = .ok (.return_, 1) := by decide +kernel
theorem dC_leaveDone_12 : decode bC_leaveDone 12 = .ok (.aload_n 0, 1) := by decide +kernel
theorem dC_leaveDone_13 : decode bC_leaveDone 13 = .ok (.iconst 2, 1) := by decide +kernel
theorem dC_leaveDone_14 : decode bC_leaveDone 14 = .ok (.putfield 85, 3) := by decide +kernel
theorem dC_leaveDone_17 : decode bC_leaveDone 17 = .ok (.aload_n 0, 1) := by decide +kernel
theorem dC_leaveDone_18 : decode bC_leaveDone 18 = .ok (.aload_n 1, 1) := by decide +kernel
theorem dC_leaveDone_19 : decode bC_leaveDone 19 = .ok (.putfield 150, 3) := by decide +kernel
theorem dC_leaveDone_22 : decode bC_leaveDone 22 = .ok (.aload_n 0, 1) := by decide +kernel
theorem dC_leaveDone_23 : decode bC_leaveDone 23 = .ok (.lload_n 2, 1) := by decide +kernel
theorem dC_leaveDone_24 : decode bC_leaveDone 24 = .ok (.putfield 154, 3) := by decide +kernel
theorem dC_leaveDone_27 : decode bC_leaveDone 27 = .ok (.return_, 1) := by decide +kernel
theorem dC_waitAgain_0 : decode bC_waitAgain 0 = .ok (.aload_n 0, 1) := by decide +kernel
theorem dC_waitAgain_1 : decode bC_waitAgain 1 = .ok (.getfield 92, 3) := by decide +kernel
theorem dC_waitAgain_4 : decode bC_waitAgain 4 = .ok (.ifCond .eq 8, 3) := by decide +kernel
theorem dC_waitAgain_7 : decode bC_waitAgain 7 = .ok (.aload_n 0, 1) := by decide +kernel
theorem dC_waitAgain_8 : decode bC_waitAgain 8 = .ok (.invokestatic 88, 3) := by decide +kernel
theorem dC_waitAgain_11 : decode bC_waitAgain 11 = .ok (.return_, 1) := by decide +kernel
theorem dC_waitAgain_12 : decode bC_waitAgain 12 = .ok (.aload_n 0, 1) := by decide +kernel
theorem dC_waitAgain_13 : decode bC_waitAgain 13 = .ok (.iconst 0, 1) := by decide +kernel
theorem dC_waitAgain_14 : decode bC_waitAgain 14 = .ok (.putfield 85, 3) := by decide +kernel
theorem dC_waitAgain_17 : decode bC_waitAgain 17 = .ok (.aload_n 0, 1) := by decide +kernel
theorem dC_waitAgain_18 : decode bC_waitAgain 18 = .ok (.aconst_null, 1) := by decide +kernel
theorem dC_waitAgain_19 : decode bC_waitAgain 19 = .ok (.putfield 150, 3) := by decide +kernel
theorem dC_waitAgain_22 : decode bC_waitAgain 22 = .ok (.return_, 1) := by decide +kernel
theorem dC_becomeCancelled_0 : decode bC_becomeCancelled 0 = .ok (.aload_n 0, 1) := by decide +kernel
theorem dC_becomeCancelled_1 : decode bC_becomeCancelled 1 = .ok (.iconst 3, 1) := by decide +kernel
theorem dC_becomeCancelled_2 : decode bC_becomeCancelled 2 = .ok (.putfield 85, 3) := by decide +kernel
theorem dC_becomeCancelled_5 : decode bC_becomeCancelled 5 = .ok (.aload_n 0, 1) := by decide +kernel
theorem dC_becomeCancelled_6 : decode bC_becomeCancelled 6 = .ok (.aconst_null, 1) := by decide +kernel
theorem dC_becomeCancelled_7 : decode bC_becomeCancelled 7 = .ok (.putfield 150, 3) := by decide +kernel
theorem dC_becomeCancelled_10 : decode bC_becomeCancelled 10 = .ok (.aload_n 0, 1) := by decide +kernel
theorem dC_becomeCancelled_11 : decode bC_becomeCancelled 11 = .ok (.iconst 0, 1) := by decide +kernel
theorem dC_becomeCancelled_12 : decode bC_becomeCancelled 12 = .ok (.putfield 92, 3) := by decide +kernel
theorem dC_becomeCancelled_15 : decode bC_becomeCancelled 15 = .ok (.return_, 1) := by decide +kernel
theorem dC_endAndRequeue_0 : decode bC_endAndRequeue 0 = .ok (.aload_n 0, 1) := by decide +kernel
theorem dC_endAndRequeue_1 : decode bC_endAndRequeue 1 = .ok (.getfield 104, 3) := by decide +kernel
theorem dC_endAndRequeue_4 : decode bC_endAndRequeue 4 = .ok (.astore_n 2, 1) := by decide +kernel
theorem dC_endAndRequeue_5 : decode bC_endAndRequeue 5 = .ok (.aload_n 0, 1) := by decide +kernel
theorem dC_endAndRequeue_6 : decode bC_endAndRequeue 6 = .ok (.aconst_null, 1) := by decide +kernel
theorem dC_endAndRequeue_7 : decode bC_endAndRequeue 7 = .ok (.putfield 104, 3) := by decide +kernel
theorem dC_endAndRequeue_10 : decode bC_endAndRequeue 10 = .ok (.aload_n 0, 1) := by decide +kernel
theorem dC_endAndRequeue_11 : decode bC_endAndRequeue 11 = .ok (.iload_n 1, 1) := by decide +kernel
theorem dC_endAndRequeue_12 : decode bC_endAndRequeue 12 = .ok (.putfield 128, 3) := by decide +kernel
theorem dC_endAndRequeue_15 : decode bC_endAndRequeue 15 = .ok (.aload_n 2, 1) := by decide +kernel
theorem dC_endAndRequeue_16 : decode bC_endAndRequeue 16 = .ok (.ifnull 7, 3) := by decide +kernel
theorem dC_endAndRequeue_19 : decode bC_endAndRequeue 19 = .ok (.aload_n 2, 1) := by decide +kernel
theorem dC_endAndRequeue_20 : decode bC_endAndRequeue 20 = .ok (.invokestatic 207, 3) := by decide +kernel
theorem dC_endAndRequeue_23 : decode bC_endAndRequeue 23 = .ok (.return_, 1) := by decide +kernel
theorem dC_redoUntrusted_0 : decode bC_redoUntrusted 0 = .ok (.iconst 0, 1) := by decide +kernel
theorem dC_redoUntrusted_1 : decode bC_redoUntrusted 1 = .ok (.istore_n 3, 1) := by decide +kernel
theorem dC_redoUntrusted_2 : decode bC_redoUntrusted 2 = .ok (.aload_n 0, 1) := by decide +kernel
theorem dC_redoUntrusted_3 : decode bC_redoUntrusted 3 = .ok (.getfield 23, 3) := by decide +kernel
theorem dC_redoUntrusted_6 : decode bC_redoUntrusted 6 = .ok (.astore 4, 2) := by decide +kernel
theorem dC_redoUntrusted_8 : decode bC_redoUntrusted 8 = .ok (.aload 4, 2) := by decide +kernel
theorem dC_redoUntrusted_10 : decode bC_redoUntrusted 10 = .ok (.arraylength, 1) := by decide +kernel
theorem dC_redoUntrusted_11 : decode bC_redoUntrusted 11 = .ok (.istore 5, 2) := by decide +kernel
theorem dC_redoUntrusted_13 : decode bC_redoUntrusted 13 = .ok (.iconst 0, 1) := by decide +kernel
theorem dC_redoUntrusted_14 : decode bC_redoUntrusted 14 = .ok (.istore 6, 2) := by decide +kernel
theorem dC_redoUntrusted_16 : decode bC_redoUntrusted 16 = .ok (.iload 6, 2) := by decide +kernel
theorem dC_redoUntrusted_18 : decode bC_redoUntrusted 18 = .ok (.iload 5, 2) := by decide +kernel
theorem dC_redoUntrusted_20 : decode bC_redoUntrusted 20 = .ok (.if_icmp .ge 89, 3) := by decide +kernel
theorem dC_redoUntrusted_23 : decode bC_redoUntrusted 23 = .ok (.aload 4, 2) := by decide +kernel
theorem dC_redoUntrusted_25 : decode bC_redoUntrusted 25 = .ok (.iload 6, 2) := by decide +kernel
theorem dC_redoUntrusted_27 : decode bC_redoUntrusted 27 = .ok (.aaload, 1) := by decide +kernel
theorem dC_redoUntrusted_28 : decode bC_redoUntrusted 28 = .ok (.astore 7, 2) := by decide +kernel
theorem dC_redoUntrusted_30 : decode bC_redoUntrusted 30 = .ok (.aload 7, 2) := by decide +kernel
theorem dC_redoUntrusted_32 : decode bC_redoUntrusted 32 = .ok (.ifnull 71, 3) := by decide +kernel
theorem dC_redoUntrusted_35 : decode bC_redoUntrusted 35 = .ok (.aload 7, 2) := by decide +kernel
theorem dC_redoUntrusted_37 : decode bC_redoUntrusted 37 = .ok (.getfield 85, 3) := by decide +kernel
theorem dC_redoUntrusted_40 : decode bC_redoUntrusted 40 = .ok (.iconst 2, 1) := by decide +kernel
theorem dC_redoUntrusted_41 : decode bC_redoUntrusted 41 = .ok (.if_icmp .ne 62, 3) := by decide +kernel
theorem dC_redoUntrusted_44 : decode bC_redoUntrusted 44 = .ok (.aload 7, 2) := by decide +kernel
theorem dC_redoUntrusted_46 : decode bC_redoUntrusted 46 = .ok (.getfield 150, 3) := by decide +kernel
theorem dC_redoUntrusted_49 : decode bC_redoUntrusted 49 = .ok (.aload_n 2, 1) := by decide +kernel
theorem dC_redoUntrusted_50 : decode bC_redoUntrusted 50 = .ok (.if_acmp .ne 53, 3) := by decide +kernel
theorem dC_redoUntrusted_53 : decode bC_redoUntrusted 53 = .ok (.aload 7, 2) := by decide +kernel
theorem dC_redoUntrusted_55 : decode bC_redoUntrusted 55 = .ok (.aload_n 1, 1) := by decide +kernel
theorem dC_redoUntrusted_56 : decode bC_redoUntrusted 56 = .ok (.if_acmp .eq 15, 3) := by decide +kernel
theorem dC_redoUntrusted_59 : decode bC_redoUntrusted 59 = .ok (.aload 7, 2) := by decide +kernel
theorem dC_redoUntrusted_61 : decode bC_redoUntrusted 61 = .ok (.getfield 121, 3) := by decide +kernel
theorem dC_redoUntrusted_64 : decode bC_redoUntrusted 64 = .ok (.aload_n 2, 1) := by decide +kernel
theorem dC_redoUntrusted_65 : decode bC_redoUntrusted 65 = .ok (.getfield 157, 3) := by decide +kernel
theorem dC_redoUntrusted_68 : decode bC_redoUntrusted 68 = .ok (.if_icmp .le 35, 3) := by decide +kernel
theorem dC_redoUntrusted_71 : decode bC_redoUntrusted 71 = .ok (.aload 7, 2) := by decide +kernel
theorem dC_redoUntrusted_73 : decode bC_redoUntrusted 73 = .ok (.aload_n 2, 1) := by decide +kernel
theorem dC_redoUntrusted_74 : decode bC_redoUntrusted 74 = .ok (.getfield 137, 3) := by decide +kernel
theorem dC_redoUntrusted_77 : decode bC_redoUntrusted 77 = .ok (.aload 7, 2) := by decide +kernel
theorem dC_redoUntrusted_79 : decode bC_redoUntrusted 79 = .ok (.getfield 138, 3) := by decide +kernel
theorem dC_redoUntrusted_82 : decode bC_redoUntrusted 82 = .ok (.invokestatic 141, 3) := by decide +kernel
theorem dC_redoUntrusted_85 : decode bC_redoUntrusted 85 = .ok (.putfield 154, 3) := by decide +kernel
theorem dC_redoUntrusted_88 : decode bC_redoUntrusted 88 = .ok (.aload 7, 2) := by decide +kernel
theorem dC_redoUntrusted_90 : decode bC_redoUntrusted 90 = .ok (.aconst_null, 1) := by decide +kernel
theorem dC_redoUntrusted_91 : decode bC_redoUntrusted 91 = .ok (.putfield 150, 3) := by decide +kernel
theorem dC_redoUntrusted_94 : decode bC_redoUntrusted 94 = .ok (.aload 7, 2) := by decide +kernel
theorem dC_redoUntrusted_96 : decode bC_redoUntrusted 96 = .ok (.iconst 1, 1) := by decide +kernel
theorem dC_redoUntrusted_97 : decode bC_redoUntrusted 97 = .ok (.putfield 177, 3) := by decide +kernel
theorem dC_redoUntrusted_100 : decode bC_redoUntrusted 100 = .ok (.iinc 3 1, 3) := by decide +kernel
theorem dC_redoUntrusted_103 : decode bC_redoUntrusted 103 = .ok (.iinc 6 1, 3) := by decide +kernel
theorem dC_redoUntrusted_106 : decode bC_redoUntrusted 106 = .ok (.goto (-90), 3) := by decide +kernel
theorem dC_redoUntrusted_109 : decode bC_redoUntrusted 109 = .ok (.iload_n 3, 1) := by decide +kernel
theorem dC_redoUntrusted_110 : decode bC_redoUntrusted 110 = .ok (.ireturn, 1) := by decide +kernel
theorem dR_init_0 : decode bR_init 0 = .ok (.aload_n 0, 1) := by decide +kernel
theorem dR_init_1 : decode bR_init 1 = .ok (.invokespecial 1, 3) := by decide +kernel
theorem dR_init_4 : decode bR_init 4 = .ok (.aload_n 0, 1) := by decide +kernel
theorem dR_init_5 : decode bR_init 5 = .ok (.iload_n 1, 1) := by decide +kernel
theorem dR_init_6 : decode bR_init 6 = .ok (.putfield 7, 3) := by decide +kernel
theorem dR_init_9 : decode bR_init 9 = .ok (.aload_n 0, 1) := by decide +kernel
theorem dR_init_10 : decode bR_init 10 = .ok (.aload_n 2, 1) := by decide +kernel
theorem dR_init_11 : decode bR_init 11 = .ok (.putfield 13, 3) := by decide +kernel
theorem dR_init_14 : decode bR_init 14 = .ok (.aload_n 0, 1) := by decide +kernel
theorem dR_init_15 : decode bR_init 15 = .ok (.lload_n 3, 1) := by decide +kernel
theorem dR_init_16 : decode bR_init 16 = .ok (.putfield 17, 3) := by decide +kernel
theorem dR_init_19 : decode bR_init 19 = .ok (.aload_n 0, 1) := by decide +kernel
theorem dR_init_20 : decode bR_init 20 = .ok (.iload 5, 2) := by decide +kernel
theorem dR_init_22 : decode bR_init 22 = .ok (.putfield 21, 3) := by decide +kernel
theorem dR_init_25 : decode bR_init 25 = .ok (.return_, 1) := by decide +kernel
theorem dT_init_0 : decode bT_init 0 = .ok (.aload_n 0, 1) := by decide +kernel
theorem dT_init_1 : decode bT_init 1 = .ok (.invokespecial 1, 3) := by decide +kernel
theorem dT_init_4 : decode bT_init 4 = .ok (.aload_n 0, 1) := by decide +kernel
theorem dT_init_5 : decode bT_init 5 = .ok (.iload_n 1, 1) := by decide +kernel
theorem dT_init_6 : decode bT_init 6 = .ok (.putfield 7, 3) := by decide +kernel
theorem dT_init_9 : decode bT_init 9 = .ok (.aload_n 0, 1) := by decide +kernel
theorem dT_init_10 : decode bT_init 10 = .ok (.lload_n 2, 1) := by decide +kernel
theorem dT_init_11 : decode bT_init 11 = .ok (.putfield 13, 3) := by decide +kernel
theorem dT_init_14 : decode bT_init 14 = .ok (.aload_n 0, 1) := by decide +kernel
theorem dT_init_15 : decode bT_init 15 = .ok (.iload 4, 2) := by decide +kernel
theorem dT_init_17 : decode bT_init 17 = .ok (.putfield 17, 3) := by decide +kernel
theorem dT_init_20 : decode bT_init 20 = .ok (.return_, 1) := by decide +kernel
theorem dW_init_0 : decode bW_init 0 = .ok (.aload_n 0, 1) := by decide +kernel
theorem dW_init_1 : decode bW_init 1 = .ok (.invokespecial 1, 3) := by decide +kernel
theorem dW_init_4 : decode bW_init 4 = .ok (.aload_n 0, 1) := by decide +kernel
theorem dW_init_5 : decode bW_init 5 = .ok (.iload_n 1, 1) := by decide +kernel
theorem dW_init_6 : decode bW_init 6 = .ok (.putfield 7, 3) := by decide +kernel
theorem dW_init_9 : decode bW_init 9 = .ok (.aload_n 0, 1) := by decide +kernel
theorem dW_init_10 : decode bW_init 10 = .ok (.aload_n 2, 1) := by decide +kernel
theorem dW_init_11 : decode bW_init 11 = .ok (.putfield 13, 3) := by decide +kernel
theorem dW_init_14 : decode bW_init 14 = .ok (.aload_n 0, 1) := by decide +kernel
theorem dW_init_15 : decode bW_init 15 = .ok (.aload_n 2, 1) := by decide +kernel
theorem dW_init_16 : decode bW_init 16 = .ok (.getfield 17, 3) := by decide +kernel
theorem dW_init_19 : decode bW_init 19 = .ok (.putfield 23, 3) := by decide +kernel
theorem dW_init_22 : decode bW_init 22 = .ok (.return_, 1) := by decide +kernel
