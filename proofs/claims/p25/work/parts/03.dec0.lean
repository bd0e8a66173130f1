theorem dX0_init_0 : decode cX0_init 0 = .ok (.aload_n 0, 1) := by decide +kernel
theorem dX0_init_1 : decode cX0_init 1 = .ok (.invokespecial 3, 3) := by decide +kernel
theorem dX0_init_4 : decode cX0_init 4 = .ok (.aload_n 0, 1) := by decide +kernel
theorem dX0_init_5 : decode cX0_init 5 = .ok (.bipush 40, 2) := by decide +kernel
theorem dX0_init_7 : decode cX0_init 7 = .ok (.newarray .int, 2) := by decide +kernel
theorem dX0_init_9 : decode cX0_init 9 = .ok (.putfield 9, 3) := by decide +kernel
theorem dX0_init_12 : decode cX0_init 12 = .ok (.aload_n 0, 1) := by decide +kernel
theorem dX0_init_13 : decode cX0_init 13 = .ok (.bipush 25, 2) := by decide +kernel
theorem dX0_init_15 : decode cX0_init 15 = .ok (.newarray .boolean, 2) := by decide +kernel
theorem dX0_init_17 : decode cX0_init 17 = .ok (.putfield 15, 3) := by decide +kernel
theorem dX0_init_20 : decode cX0_init 20 = .ok (.aload_n 0, 1) := by decide +kernel
theorem dX0_init_21 : decode cX0_init 21 = .ok (.bipush 6, 2) := by decide +kernel
theorem dX0_init_23 : decode cX0_init 23 = .ok (.anewarray 10, 3) := by decide +kernel
theorem dX0_init_26 : decode cX0_init 26 = .ok (.putfield 19, 3) := by decide +kernel
theorem dX0_init_29 : decode cX0_init 29 = .ok (.aload_n 0, 1) := by decide +kernel
theorem dX0_init_30 : decode cX0_init 30 = .ok (.iconst (-1), 1) := by decide +kernel
theorem dX0_init_31 : decode cX0_init 31 = .ok (.putfield 23, 3) := by decide +kernel
theorem dX0_init_34 : decode cX0_init 34 = .ok (.aload_n 0, 1) := by decide +kernel
theorem dX0_init_35 : decode cX0_init 35 = .ok (.iconst (-1), 1) := by decide +kernel
theorem dX0_init_36 : decode cX0_init 36 = .ok (.putfield 27, 3) := by decide +kernel
theorem dX0_init_39 : decode cX0_init 39 = .ok (.aload_n 0, 1) := by decide +kernel
theorem dX0_init_40 : decode cX0_init 40 = .ok (.getfield 9, 3) := by decide +kernel
theorem dX0_init_43 : decode cX0_init 43 = .ok (.iconst (-1), 1) := by decide +kernel
theorem dX0_init_44 : decode cX0_init 44 = .ok (.invokestatic 30, 3) := by decide +kernel
theorem dX0_init_47 : decode cX0_init 47 = .ok (.return_, 1) := by decide +kernel
theorem dX0_changer_0 : decode cX0_changer 0 = .ok (.aload_n 0, 1) := by decide +kernel
theorem dX0_changer_1 : decode cX0_changer 1 = .ok (.getfield 27, 3) := by decide +kernel
theorem dX0_changer_4 : decode cX0_changer 4 = .ok (.iconst (-1), 1) := by decide +kernel
theorem dX0_changer_5 : decode cX0_changer 5 = .ok (.if_icmp .eq 10, 3) := by decide +kernel
theorem dX0_changer_8 : decode cX0_changer 8 = .ok (.aload_n 0, 1) := by decide +kernel
theorem dX0_changer_9 : decode cX0_changer 9 = .ok (.getfield 27, 3) := by decide +kernel
theorem dX0_changer_12 : decode cX0_changer 12 = .ok (.goto 7, 3) := by decide +kernel
theorem dX0_changer_15 : decode cX0_changer 15 = .ok (.aload_n 0, 1) := by decide +kernel
theorem dX0_changer_16 : decode cX0_changer 16 = .ok (.getfield 23, 3) := by decide +kernel
theorem dX0_changer_19 : decode cX0_changer 19 = .ok (.ireturn, 1) := by decide +kernel
theorem dX0_sideNow_0 : decode cX0_sideNow 0 = .ok (.aload_n 0, 1) := by decide +kernel
theorem dX0_sideNow_1 : decode cX0_sideNow 1 = .ok (.iload_n 1, 1) := by decide +kernel
theorem dX0_sideNow_2 : decode cX0_sideNow 2 = .ok (.iconst 0, 1) := by decide +kernel
theorem dX0_sideNow_3 : decode cX0_sideNow 3 = .ok (.invokestatic 36, 3) := by decide +kernel
theorem dX0_sideNow_6 : decode cX0_sideNow 6 = .ok (.ireturn, 1) := by decide +kernel
theorem dX0_exitNow_0 : decode cX0_exitNow 0 = .ok (.aload_n 0, 1) := by decide +kernel
theorem dX0_exitNow_1 : decode cX0_exitNow 1 = .ok (.iload_n 1, 1) := by decide +kernel
theorem dX0_exitNow_2 : decode cX0_exitNow 2 = .ok (.iconst 0, 1) := by decide +kernel
theorem dX0_exitNow_3 : decode cX0_exitNow 3 = .ok (.invokestatic 40, 3) := by decide +kernel
theorem dX0_exitNow_6 : decode cX0_exitNow 6 = .ok (.ireturn, 1) := by decide +kernel
theorem dX0_leadsTo_0 : decode cX0_leadsTo 0 = .ok (.aload_n 0, 1) := by decide +kernel
theorem dX0_leadsTo_1 : decode cX0_leadsTo 1 = .ok (.aload_n 1, 1) := by decide +kernel
theorem dX0_leadsTo_2 : decode cX0_leadsTo 2 = .ok (.iconst 0, 1) := by decide +kernel
theorem dX0_leadsTo_3 : decode cX0_leadsTo 3 = .ok (.invokestatic 44, 3) := by decide +kernel
theorem dX0_leadsTo_6 : decode cX0_leadsTo 6 = .ok (.ireturn, 1) := by decide +kernel
theorem dX0_sideIn_0 : decode cX0_sideIn 0 = .ok (.aload_n 0, 1) := by decide +kernel
theorem dX0_sideIn_1 : decode cX0_sideIn 1 = .ok (.getfield 9, 3) := by decide +kernel
theorem dX0_sideIn_4 : decode cX0_sideIn 4 = .ok (.iload_n 1, 1) := by decide +kernel
theorem dX0_sideIn_5 : decode cX0_sideIn 5 = .ok (.iaload, 1) := by decide +kernel
theorem dX0_sideIn_6 : decode cX0_sideIn 6 = .ok (.iconst (-1), 1) := by decide +kernel
theorem dX0_sideIn_7 : decode cX0_sideIn 7 = .ok (.if_icmp .ne 9, 3) := by decide +kernel
theorem dX0_sideIn_10 : decode cX0_sideIn 10 = .ok (.iload_n 2, 1) := by decide +kernel
theorem dX0_sideIn_11 : decode cX0_sideIn 11 = .ok (.bipush 6, 2) := by decide +kernel
theorem dX0_sideIn_13 : decode cX0_sideIn 13 = .ok (.if_icmp .lt 10, 3) := by decide +kernel
theorem dX0_sideIn_16 : decode cX0_sideIn 16 = .ok (.aload_n 0, 1) := by decide +kernel
theorem dX0_sideIn_17 : decode cX0_sideIn 17 = .ok (.getfield 9, 3) := by decide +kernel
theorem dX0_sideIn_20 : decode cX0_sideIn 20 = .ok (.iload_n 1, 1) := by decide +kernel
theorem dX0_sideIn_21 : decode cX0_sideIn 21 = .ok (.iaload, 1) := by decide +kernel
theorem dX0_sideIn_22 : decode cX0_sideIn 22 = .ok (.ireturn, 1) := by decide +kernel
theorem dX0_sideIn_23 : decode cX0_sideIn 23 = .ok (.aload_n 0, 1) := by decide +kernel
theorem dX0_sideIn_24 : decode cX0_sideIn 24 = .ok (.getfield 19, 3) := by decide +kernel
theorem dX0_sideIn_27 : decode cX0_sideIn 27 = .ok (.astore_n 3, 1) := by decide +kernel
theorem dX0_sideIn_28 : decode cX0_sideIn 28 = .ok (.aload_n 3, 1) := by decide +kernel
theorem dX0_sideIn_29 : decode cX0_sideIn 29 = .ok (.arraylength, 1) := by decide +kernel
theorem dX0_sideIn_30 : decode cX0_sideIn 30 = .ok (.istore 4, 2) := by decide +kernel
theorem dX0_sideIn_32 : decode cX0_sideIn 32 = .ok (.iconst 0, 1) := by decide +kernel
theorem dX0_sideIn_33 : decode cX0_sideIn 33 = .ok (.istore 5, 2) := by decide +kernel
theorem dX0_sideIn_35 : decode cX0_sideIn 35 = .ok (.iload 5, 2) := by decide +kernel
theorem dX0_sideIn_37 : decode cX0_sideIn 37 = .ok (.iload 4, 2) := by decide +kernel
theorem dX0_sideIn_39 : decode cX0_sideIn 39 = .ok (.if_icmp .ge 44, 3) := by decide +kernel
theorem dX0_sideIn_42 : decode cX0_sideIn 42 = .ok (.aload_n 3, 1) := by decide +kernel
theorem dX0_sideIn_43 : decode cX0_sideIn 43 = .ok (.iload 5, 2) := by decide +kernel
theorem dX0_sideIn_45 : decode cX0_sideIn 45 = .ok (.aaload, 1) := by decide +kernel
theorem dX0_sideIn_46 : decode cX0_sideIn 46 = .ok (.astore 6, 2) := by decide +kernel
theorem dX0_sideIn_48 : decode cX0_sideIn 48 = .ok (.aload 6, 2) := by decide +kernel
theorem dX0_sideIn_50 : decode cX0_sideIn 50 = .ok (.ifnonnull 7, 3) := by decide +kernel
theorem dX0_sideIn_53 : decode cX0_sideIn 53 = .ok (.iconst (-1), 1) := by decide +kernel
theorem dX0_sideIn_54 : decode cX0_sideIn 54 = .ok (.goto 12, 3) := by decide +kernel
theorem dX0_sideIn_57 : decode cX0_sideIn 57 = .ok (.aload 6, 2) := by decide +kernel
theorem dX0_sideIn_59 : decode cX0_sideIn 59 = .ok (.iload_n 1, 1) := by decide +kernel
theorem dX0_sideIn_60 : decode cX0_sideIn 60 = .ok (.iload_n 2, 1) := by decide +kernel
theorem dX0_sideIn_61 : decode cX0_sideIn 61 = .ok (.iconst 1, 1) := by decide +kernel
theorem dX0_sideIn_62 : decode cX0_sideIn 62 = .ok (.iadd, 1) := by decide +kernel
theorem dX0_sideIn_63 : decode cX0_sideIn 63 = .ok (.invokestatic 36, 3) := by decide +kernel
theorem dX0_sideIn_66 : decode cX0_sideIn 66 = .ok (.istore 7, 2) := by decide +kernel
theorem dX0_sideIn_68 : decode cX0_sideIn 68 = .ok (.iload 7, 2) := by decide +kernel
theorem dX0_sideIn_70 : decode cX0_sideIn 70 = .ok (.iconst (-1), 1) := by decide +kernel
theorem dX0_sideIn_71 : decode cX0_sideIn 71 = .ok (.if_icmp .eq 6, 3) := by decide +kernel
theorem dX0_sideIn_74 : decode cX0_sideIn 74 = .ok (.iload 7, 2) := by decide +kernel
theorem dX0_sideIn_76 : decode cX0_sideIn 76 = .ok (.ireturn, 1) := by decide +kernel
theorem dX0_sideIn_77 : decode cX0_sideIn 77 = .ok (.iinc 5 1, 3) := by decide +kernel
theorem dX0_sideIn_80 : decode cX0_sideIn 80 = .ok (.goto (-45), 3) := by decide +kernel
theorem dX0_sideIn_83 : decode cX0_sideIn 83 = .ok (.iconst (-1), 1) := by decide +kernel
theorem dX0_sideIn_84 : decode cX0_sideIn 84 = .ok (.ireturn, 1) := by decide +kernel
theorem dX0_exitIn_0 : decode cX0_exitIn 0 = .ok (.aload_n 0, 1) := by decide +kernel
theorem dX0_exitIn_1 : decode cX0_exitIn 1 = .ok (.getfield 15, 3) := by decide +kernel
theorem dX0_exitIn_4 : decode cX0_exitIn 4 = .ok (.iload_n 1, 1) := by decide +kernel
theorem dX0_exitIn_5 : decode cX0_exitIn 5 = .ok (.baload, 1) := by decide +kernel
theorem dX0_exitIn_6 : decode cX0_exitIn 6 = .ok (.ifCond .ne 9, 3) := by decide +kernel
theorem dX0_exitIn_9 : decode cX0_exitIn 9 = .ok (.iload_n 2, 1) := by decide +kernel
theorem dX0_exitIn_10 : decode cX0_exitIn 10 = .ok (.bipush 6, 2) := by decide +kernel
theorem dX0_exitIn_12 : decode cX0_exitIn 12 = .ok (.if_icmp .lt 10, 3) := by decide +kernel
theorem dX0_exitIn_15 : decode cX0_exitIn 15 = .ok (.aload_n 0, 1) := by decide +kernel
theorem dX0_exitIn_16 : decode cX0_exitIn 16 = .ok (.getfield 15, 3) := by decide +kernel
theorem dX0_exitIn_19 : decode cX0_exitIn 19 = .ok (.iload_n 1, 1) := by decide +kernel
theorem dX0_exitIn_20 : decode cX0_exitIn 20 = .ok (.baload, 1) := by decide +kernel
theorem dX0_exitIn_21 : decode cX0_exitIn 21 = .ok (.ireturn, 1) := by decide +kernel
theorem dX0_exitIn_22 : decode cX0_exitIn 22 = .ok (.aload_n 0, 1) := by decide +kernel
theorem dX0_exitIn_23 : decode cX0_exitIn 23 = .ok (.getfield 19, 3) := by decide +kernel
theorem dX0_exitIn_26 : decode cX0_exitIn 26 = .ok (.astore_n 3, 1) := by decide +kernel
theorem dX0_exitIn_27 : decode cX0_exitIn 27 = .ok (.aload_n 3, 1) := by decide +kernel
theorem dX0_exitIn_28 : decode cX0_exitIn 28 = .ok (.arraylength, 1) := by decide +kernel
theorem dX0_exitIn_29 : decode cX0_exitIn 29 = .ok (.istore 4, 2) := by decide +kernel
theorem dX0_exitIn_31 : decode cX0_exitIn 31 = .ok (.iconst 0, 1) := by decide +kernel
theorem dX0_exitIn_32 : decode cX0_exitIn 32 = .ok (.istore 5, 2) := by decide +kernel
theorem dX0_exitIn_34 : decode cX0_exitIn 34 = .ok (.iload 5, 2) := by decide +kernel
theorem dX0_exitIn_36 : decode cX0_exitIn 36 = .ok (.iload 4, 2) := by decide +kernel
theorem dX0_exitIn_38 : decode cX0_exitIn 38 = .ok (.if_icmp .ge 34, 3) := by decide +kernel
theorem dX0_exitIn_41 : decode cX0_exitIn 41 = .ok (.aload_n 3, 1) := by decide +kernel
theorem dX0_exitIn_42 : decode cX0_exitIn 42 = .ok (.iload 5, 2) := by decide +kernel
theorem dX0_exitIn_44 : decode cX0_exitIn 44 = .ok (.aaload, 1) := by decide +kernel
theorem dX0_exitIn_45 : decode cX0_exitIn 45 = .ok (.astore 6, 2) := by decide +kernel
theorem dX0_exitIn_47 : decode cX0_exitIn 47 = .ok (.aload 6, 2) := by decide +kernel
theorem dX0_exitIn_49 : decode cX0_exitIn 49 = .ok (.ifnull 17, 3) := by decide +kernel
theorem dX0_exitIn_52 : decode cX0_exitIn 52 = .ok (.aload 6, 2) := by decide +kernel
theorem dX0_exitIn_54 : decode cX0_exitIn 54 = .ok (.iload_n 1, 1) := by decide +kernel
theorem dX0_exitIn_55 : decode cX0_exitIn 55 = .ok (.iload_n 2, 1) := by decide +kernel
theorem dX0_exitIn_56 : decode cX0_exitIn 56 = .ok (.iconst 1, 1) := by decide +kernel
theorem dX0_exitIn_57 : decode cX0_exitIn 57 = .ok (.iadd, 1) := by decide +kernel
theorem dX0_exitIn_58 : decode cX0_exitIn 58 = .ok (.invokestatic 40, 3) := by decide +kernel
theorem dX0_exitIn_61 : decode cX0_exitIn 61 = .ok (.ifCond .eq 5, 3) := by decide +kernel
theorem dX0_exitIn_64 : decode cX0_exitIn 64 = .ok (.iconst 1, 1) := by decide +kernel
theorem dX0_exitIn_65 : decode cX0_exitIn 65 = .ok (.ireturn, 1) := by decide +kernel
theorem dX0_exitIn_66 : decode cX0_exitIn 66 = .ok (.iinc 5 1, 3) := by decide +kernel
theorem dX0_exitIn_69 : decode cX0_exitIn 69 = .ok (.goto (-35), 3) := by decide +kernel
theorem dX0_exitIn_72 : decode cX0_exitIn 72 = .ok (.iconst 0, 1) := by decide +kernel
theorem dX0_exitIn_73 : decode cX0_exitIn 73 = .ok (.ireturn, 1) := by decide +kernel
theorem dX0_leads_0 : decode cX0_leads 0 = .ok (.aload_n 0, 1) := by decide +kernel
theorem dX0_leads_1 : decode cX0_leads 1 = .ok (.aload_n 1, 1) := by decide +kernel
theorem dX0_leads_2 : decode cX0_leads 2 = .ok (.if_acmp .eq 9, 3) := by decide +kernel
theorem dX0_leads_5 : decode cX0_leads 5 = .ok (.iload_n 2, 1) := by decide +kernel
theorem dX0_leads_6 : decode cX0_leads 6 = .ok (.bipush 6, 2) := by decide +kernel
theorem dX0_leads_8 : decode cX0_leads 8 = .ok (.if_icmp .lt 14, 3) := by decide +kernel
theorem dX0_leads_11 : decode cX0_leads 11 = .ok (.aload_n 0, 1) := by decide +kernel
theorem dX0_leads_12 : decode cX0_leads 12 = .ok (.aload_n 1, 1) := by decide +kernel
theorem dX0_leads_13 : decode cX0_leads 13 = .ok (.if_acmp .ne 7, 3) := by decide +kernel
theorem dX0_leads_16 : decode cX0_leads 16 = .ok (.iconst 1, 1) := by decide +kernel
theorem dX0_leads_17 : decode cX0_leads 17 = .ok (.goto 4, 3) := by decide +kernel
theorem dX0_leads_20 : decode cX0_leads 20 = .ok (.iconst 0, 1) := by decide +kernel
theorem dX0_leads_21 : decode cX0_leads 21 = .ok (.ireturn, 1) := by decide +kernel
theorem dX0_leads_22 : decode cX0_leads 22 = .ok (.aload_n 0, 1) := by decide +kernel
theorem dX0_leads_23 : decode cX0_leads 23 = .ok (.getfield 19, 3) := by decide +kernel
theorem dX0_leads_26 : decode cX0_leads 26 = .ok (.astore_n 3, 1) := by decide +kernel
theorem dX0_leads_27 : decode cX0_leads 27 = .ok (.aload_n 3, 1) := by decide +kernel
theorem dX0_leads_28 : decode cX0_leads 28 = .ok (.arraylength, 1) := by decide +kernel
theorem dX0_leads_29 : decode cX0_leads 29 = .ok (.istore 4, 2) := by decide +kernel
theorem dX0_leads_31 : decode cX0_leads 31 = .ok (.iconst 0, 1) := by decide +kernel
theorem dX0_leads_32 : decode cX0_leads 32 = .ok (.istore 5, 2) := by decide +kernel
theorem dX0_leads_34 : decode cX0_leads 34 = .ok (.iload 5, 2) := by decide +kernel
theorem dX0_leads_36 : decode cX0_leads 36 = .ok (.iload 4, 2) := by decide +kernel
theorem dX0_leads_38 : decode cX0_leads 38 = .ok (.if_icmp .ge 34, 3) := by decide +kernel
theorem dX0_leads_41 : decode cX0_leads 41 = .ok (.aload_n 3, 1) := by decide +kernel
theorem dX0_leads_42 : decode cX0_leads 42 = .ok (.iload 5, 2) := by decide +kernel
theorem dX0_leads_44 : decode cX0_leads 44 = .ok (.aaload, 1) := by decide +kernel
theorem dX0_leads_45 : decode cX0_leads 45 = .ok (.astore 6, 2) := by decide +kernel
theorem dX0_leads_47 : decode cX0_leads 47 = .ok (.aload 6, 2) := by decide +kernel
theorem dX0_leads_49 : decode cX0_leads 49 = .ok (.ifnull 17, 3) := by decide +kernel
theorem dX0_leads_52 : decode cX0_leads 52 = .ok (.aload 6, 2) := by decide +kernel
theorem dX0_leads_54 : decode cX0_leads 54 = .ok (.aload_n 1, 1) := by decide +kernel
theorem dX0_leads_55 : decode cX0_leads 55 = .ok (.iload_n 2, 1) := by decide +kernel
theorem dX0_leads_56 : decode cX0_leads 56 = .ok (.iconst 1, 1) := by decide +kernel
theorem dX0_leads_57 : decode cX0_leads 57 = .ok (.iadd, 1) := by decide +kernel
theorem dX0_leads_58 : decode cX0_leads 58 = .ok (.invokestatic 44, 3) := by decide +kernel
theorem dX0_leads_61 : decode cX0_leads 61 = .ok (.ifCond .eq 5, 3) := by decide +kernel
theorem dX0_leads_64 : decode cX0_leads 64 = .ok (.iconst 1, 1) := by decide +kernel
theorem dX0_leads_65 : decode cX0_leads 65 = .ok (.ireturn, 1) := by decide +kernel
theorem dX0_leads_66 : decode cX0_leads 66 = .ok (.iinc 5 1, 3) := by decide +kernel
theorem dX0_leads_69 : decode cX0_leads 69 = .ok (.goto (-35), 3) := by decide +kernel
theorem dX0_leads_72 : decode cX0_leads 72 = .ok (.iconst 0, 1) := by decide +kernel
theorem dX0_leads_73 : decode cX0_leads 73 = .ok (.ireturn, 1) := by decide +kernel
theorem dX1_init_0 : decode cX1_init 0 = .ok (.aload_n 0, 1) := by decide +kernel
theorem dX1_init_1 : decode cX1_init 1 = .ok (.invokespecial 3, 3) := by decide +kernel
theorem dX1_init_4 : decode cX1_init 4 = .ok (.aload_n 0, 1) := by decide +kernel
theorem dX1_init_5 : decode cX1_init 5 = .ok (.new 9, 3) := by decide +kernel
theorem dX1_init_8 : decode cX1_init 8 = .ok (.dup, 1) := by decide +kernel
theorem dX1_init_9 : decode cX1_init 9 = .ok (.invokespecial 11, 3) := by decide +kernel
theorem dX1_init_12 : decode cX1_init 12 = .ok (.putfield 12, 3) := by decide +kernel
theorem dX1_init_15 : decode cX1_init 15 = .ok (.aload_n 0, 1) := by decide +kernel
theorem dX1_init_16 : decode cX1_init 16 = .ok (.bipush 25, 2) := by decide +kernel
theorem dX1_init_18 : decode cX1_init 18 = .ok (.newarray .int, 2) := by decide +kernel
theorem dX1_init_20 : decode cX1_init 20 = .ok (.putfield 18, 3) := by decide +kernel
theorem dX1_init_23 : decode cX1_init 23 = .ok (.aload_n 0, 1) := by decide +kernel
theorem dX1_init_24 : decode cX1_init 24 = .ok (.bipush 25, 2) := by decide +kernel
theorem dX1_init_26 : decode cX1_init 26 = .ok (.newarray .int, 2) := by decide +kernel
theorem dX1_init_28 : decode cX1_init 28 = .ok (.putfield 22, 3) := by decide +kernel
theorem dX1_init_31 : decode cX1_init 31 = .ok (.aload_n 0, 1) := by decide +kernel
theorem dX1_init_32 : decode cX1_init 32 = .ok (.bipush 25, 2) := by decide +kernel
theorem dX1_init_34 : decode cX1_init 34 = .ok (.newarray .int, 2) := by decide +kernel
theorem dX1_init_36 : decode cX1_init 36 = .ok (.putfield 25, 3) := by decide +kernel
theorem dX1_init_39 : decode cX1_init 39 = .ok (.return_, 1) := by decide +kernel
theorem dX1_lookAt_0 : decode cX1_lookAt 0 = .ok (.aload_n 0, 1) := by decide +kernel
theorem dX1_lookAt_1 : decode cX1_lookAt 1 = .ok (.getfield 12, 3) := by decide +kernel
theorem dX1_lookAt_4 : decode cX1_lookAt 4 = .ok (.aload_n 1, 1) := by decide +kernel
theorem dX1_lookAt_5 : decode cX1_lookAt 5 = .ok (.invokevirtual 28, 3) := by decide +kernel
theorem dX1_lookAt_8 : decode cX1_lookAt 8 = .ok (.aload_n 0, 1) := by decide +kernel
theorem dX1_lookAt_9 : decode cX1_lookAt 9 = .ok (.invokevirtual 32, 3) := by decide +kernel
theorem dX1_lookAt_12 : decode cX1_lookAt 12 = .ok (.aload_n 0, 1) := by decide +kernel
theorem dX1_lookAt_13 : decode cX1_lookAt 13 = .ok (.invokevirtual 35, 3) := by decide +kernel
theorem dX1_lookAt_16 : decode cX1_lookAt 16 = .ok (.return_, 1) := by decide +kernel
theorem dX1_findRooms_0 : decode cX1_findRooms 0 = .ok (.iconst 0, 1) := by decide +kernel
theorem dX1_findRooms_1 : decode cX1_findRooms 1 = .ok (.istore_n 1, 1) := by decide +kernel
theorem dX1_findRooms_2 : decode cX1_findRooms 2 = .ok (.iload_n 1, 1) := by decide +kernel
theorem dX1_findRooms_3 : decode cX1_findRooms 3 = .ok (.bipush 25, 2) := by decide +kernel
theorem dX1_findRooms_5 : decode cX1_findRooms 5 = .ok (.if_icmp .ge 16, 3) := by decide +kernel
theorem dX1_findRooms_8 : decode cX1_findRooms 8 = .ok (.aload_n 0, 1) := by decide +kernel
theorem dX1_findRooms_9 : decode cX1_findRooms 9 = .ok (.getfield 18, 3) := by decide +kernel
theorem dX1_findRooms_12 : decode cX1_findRooms 12 = .ok (.iload_n 1, 1) := by decide +kernel
theorem dX1_findRooms_13 : decode cX1_findRooms 13 = .ok (.iload_n 1, 1) := by decide +kernel
theorem dX1_findRooms_14 : decode cX1_findRooms 14 = .ok (.iastore, 1) := by decide +kernel
theorem dX1_findRooms_15 : decode cX1_findRooms 15 = .ok (.iinc 1 1, 3) := by decide +kernel
theorem dX1_findRooms_18 : decode cX1_findRooms 18 = .ok (.goto (-16), 3) := by decide +kernel
theorem dX1_findRooms_21 : decode cX1_findRooms 21 = .ok (.iconst 0, 1) := by decide +kernel
theorem dX1_findRooms_22 : decode cX1_findRooms 22 = .ok (.istore_n 1, 1) := by decide +kernel
theorem dX1_findRooms_23 : decode cX1_findRooms 23 = .ok (.iload_n 1, 1) := by decide +kernel
theorem dX1_findRooms_24 : decode cX1_findRooms 24 = .ok (.bipush 40, 2) := by decide +kernel
theorem dX1_findRooms_26 : decode cX1_findRooms 26 = .ok (.if_icmp .ge 56, 3) := by decide +kernel
theorem dX1_findRooms_29 : decode cX1_findRooms 29 = .ok (.aload_n 0, 1) := by decide +kernel
theorem dX1_findRooms_30 : decode cX1_findRooms 30 = .ok (.getfield 12, 3) := by decide +kernel
theorem dX1_findRooms_33 : decode cX1_findRooms 33 = .ok (.getfield 38, 3) := by decide +kernel
theorem dX1_findRooms_36 : decode cX1_findRooms 36 = .ok (.iload_n 1, 1) := by decide +kernel
theorem dX1_findRooms_37 : decode cX1_findRooms 37 = .ok (.iaload, 1) := by decide +kernel
theorem dX1_findRooms_38 : decode cX1_findRooms 38 = .ok (.iconst (-1), 1) := by decide +kernel
theorem dX1_findRooms_39 : decode cX1_findRooms 39 = .ok (.if_icmp .eq 15, 3) := by decide +kernel
theorem dX1_findRooms_42 : decode cX1_findRooms 42 = .ok (.aload_n 0, 1) := by decide +kernel
theorem dX1_findRooms_43 : decode cX1_findRooms 43 = .ok (.getfield 12, 3) := by decide +kernel
theorem dX1_findRooms_46 : decode cX1_findRooms 46 = .ok (.getfield 38, 3) := by decide +kernel
theorem dX1_findRooms_49 : decode cX1_findRooms 49 = .ok (.iload_n 1, 1) := by decide +kernel
theorem dX1_findRooms_50 : decode cX1_findRooms 50 = .ok (.iaload, 1) := by decide +kernel
theorem dX1_findRooms_51 : decode cX1_findRooms 51 = .ok (.ifCond .ne 25, 3) := by decide +kernel
theorem dX1_findRooms_54 : decode cX1_findRooms 54 = .ok (.aload_n 0, 1) := by decide +kernel
theorem dX1_findRooms_55 : decode cX1_findRooms 55 = .ok (.aload_n 0, 1) := by decide +kernel
theorem dX1_findRooms_56 : decode cX1_findRooms 56 = .ok (.getfield 18, 3) := by decide +kernel
theorem dX1_findRooms_59 : decode cX1_findRooms 59 = .ok (.iload_n 1, 1) := by decide +kernel
theorem dX1_findRooms_60 : decode cX1_findRooms 60 = .ok (.invokestatic 41, 3) := by decide +kernel
theorem dX1_findRooms_63 : decode cX1_findRooms 63 = .ok (.iaload, 1) := by decide +kernel
theorem dX1_findRooms_64 : decode cX1_findRooms 64 = .ok (.aload_n 0, 1) := by decide +kernel
theorem dX1_findRooms_65 : decode cX1_findRooms 65 = .ok (.getfield 18, 3) := by decide +kernel
theorem dX1_findRooms_68 : decode cX1_findRooms 68 = .ok (.iload_n 1, 1) := by decide +kernel
theorem dX1_findRooms_69 : decode cX1_findRooms 69 = .ok (.invokestatic 45, 3) := by decide +kernel
theorem dX1_findRooms_72 : decode cX1_findRooms 72 = .ok (.iaload, 1) := by decide +kernel
theorem dX1_findRooms_73 : decode cX1_findRooms 73 = .ok (.invokevirtual 48, 3) := by decide +kernel
theorem dX1_findRooms_76 : decode cX1_findRooms 76 = .ok (.iinc 1 1, 3) := by decide +kernel
theorem dX1_findRooms_79 : decode cX1_findRooms 79 = .ok (.goto (-56), 3) := by decide +kernel
theorem dX1_findRooms_82 : decode cX1_findRooms 82 = .ok (.return_, 1) := by decide +kernel
theorem dX1_join_0 : decode cX1_join 0 = .ok (.iload_n 1, 1) := by decide +kernel
theorem dX1_join_1 : decode cX1_join 1 = .ok (.iload_n 2, 1) := by decide +kernel
theorem dX1_join_2 : decode cX1_join 2 = .ok (.invokestatic 52, 3) := by decide +kernel
theorem dX1_join_5 : decode cX1_join 5 = .ok (.istore_n 3, 1) := by decide +kernel
theorem dX1_join_6 : decode cX1_join 6 = .ok (.iload_n 1, 1) := by decide +kernel
theorem dX1_join_7 : decode cX1_join 7 = .ok (.iload_n 2, 1) := by decide +kernel
theorem dX1_join_8 : decode cX1_join 8 = .ok (.invokestatic 58, 3) := by decide +kernel
theorem dX1_join_11 : decode cX1_join 11 = .ok (.istore 4, 2) := by decide +kernel
theorem dX1_join_13 : decode cX1_join 13 = .ok (.iconst 0, 1) := by decide +kernel
theorem dX1_join_14 : decode cX1_join 14 = .ok (.istore 5, 2) := by decide +kernel
theorem dX1_join_16 : decode cX1_join 16 = .ok (.iload 5, 2) := by decide +kernel
theorem dX1_join_18 : decode cX1_join 18 = .ok (.bipush 25, 2) := by decide +kernel
theorem dX1_join_20 : decode cX1_join 20 = .ok (.if_icmp .ge 29, 3) := by decide +kernel
theorem dX1_join_23 : decode cX1_join 23 = .ok (.aload_n 0, 1) := by decide +kernel
theorem dX1_join_24 : decode cX1_join 24 = .ok (.getfield 18, 3) := by decide +kernel
theorem dX1_join_27 : decode cX1_join 27 = .ok (.iload 5, 2) := by decide +kernel
theorem dX1_join_29 : decode cX1_join 29 = .ok (.iaload, 1) := by decide +kernel
theorem dX1_join_30 : decode cX1_join 30 = .ok (.iload 4, 2) := by decide +kernel
theorem dX1_join_32 : decode cX1_join 32 = .ok (.if_icmp .ne 11, 3) := by decide +kernel
theorem dX1_join_35 : decode cX1_join 35 = .ok (.aload_n 0, 1) := by decide +kernel
theorem dX1_join_36 : decode cX1_join 36 = .ok (.getfield 18, 3) := by decide +kernel
theorem dX1_join_39 : decode cX1_join 39 = .ok (.iload 5, 2) := by decide +kernel
theorem dX1_join_41 : decode cX1_join 41 = .ok (.iload_n 3, 1) := by decide +kernel
theorem dX1_join_42 : decode cX1_join 42 = .ok (.iastore, 1) := by decide +kernel
theorem dX1_join_43 : decode cX1_join 43 = .ok (.iinc 5 1, 3) := by decide +kernel
theorem dX1_join_46 : decode cX1_join 46 = .ok (.goto (-30), 3) := by decide +kernel
theorem dX1_join_49 : decode cX1_join 49 = .ok (.return_, 1) := by decide +kernel
theorem dX1_findWaysOut_0 : decode cX1_findWaysOut 0 = .ok (.aload_n 0, 1) := by decide +kernel
theorem dX1_findWaysOut_1 : decode cX1_findWaysOut 1 = .ok (.getfield 22, 3) := by decide +kernel
theorem dX1_findWaysOut_4 : decode cX1_findWaysOut 4 = .ok (.iconst (-1), 1) := by decide +kernel
theorem dX1_findWaysOut_5 : decode cX1_findWaysOut 5 = .ok (.invokestatic 61, 3) := by decide +kernel
theorem dX1_findWaysOut_8 : decode cX1_findWaysOut 8 = .ok (.iconst 0, 1) := by decide +kernel
theorem dX1_findWaysOut_9 : decode cX1_findWaysOut 9 = .ok (.istore_n 1, 1) := by decide +kernel
theorem dX1_findWaysOut_10 : decode cX1_findWaysOut 10 = .ok (.iload_n 1, 1) := by decide +kernel
theorem dX1_findWaysOut_11 : decode cX1_findWaysOut 11 = .ok (.bipush 25, 2) := by decide +kernel
theorem dX1_findWaysOut_13 : decode cX1_findWaysOut 13 = .ok (.if_icmp .ge 33, 3) := by decide +kernel
theorem dX1_findWaysOut_16 : decode cX1_findWaysOut 16 = .ok (.aload_n 0, 1) := by decide +kernel
theorem dX1_findWaysOut_17 : decode cX1_findWaysOut 17 = .ok (.getfield 12, 3) := by decide +kernel
theorem dX1_findWaysOut_20 : decode cX1_findWaysOut 20 = .ok (.getfield 67, 3) := by decide +kernel
theorem dX1_findWaysOut_23 : decode cX1_findWaysOut 23 = .ok (.iload_n 1, 1) := by decide +kernel
theorem dX1_findWaysOut_24 : decode cX1_findWaysOut 24 = .ok (.baload, 1) := by decide +kernel
theorem dX1_findWaysOut_25 : decode cX1_findWaysOut 25 = .ok (.ifCond .eq 15, 3) := by decide +kernel
theorem dX1_findWaysOut_28 : decode cX1_findWaysOut 28 = .ok (.aload_n 0, 1) := by decide +kernel
theorem dX1_findWaysOut_29 : decode cX1_findWaysOut 29 = .ok (.getfield 22, 3) := by decide +kernel
theorem dX1_findWaysOut_32 : decode cX1_findWaysOut 32 = .ok (.aload_n 0, 1) := by decide +kernel
theorem dX1_findWaysOut_33 : decode cX1_findWaysOut 33 = .ok (.getfield 18, 3) := by decide +kernel
theorem dX1_findWaysOut_36 : decode cX1_findWaysOut 36 = .ok (.iload_n 1, 1) := by decide +kernel
theorem dX1_findWaysOut_37 : decode cX1_findWaysOut 37 = .ok (.iaload, 1) := by decide +kernel
theorem dX1_findWaysOut_38 : decode cX1_findWaysOut 38 = .ok (.iconst 0, 1) := by decide +kernel
theorem dX1_findWaysOut_39 : decode cX1_findWaysOut 39 = .ok (.iastore, 1) := by decide +kernel
theorem dX1_findWaysOut_40 : decode cX1_findWaysOut 40 = .ok (.iinc 1 1, 3) := by decide +kernel
theorem dX1_findWaysOut_43 : decode cX1_findWaysOut 43 = .ok (.goto (-33), 3) := by decide +kernel
theorem dX1_findWaysOut_46 : decode cX1_findWaysOut 46 = .ok (.aload_n 0, 1) := by decide +kernel
theorem dX1_findWaysOut_47 : decode cX1_findWaysOut 47 = .ok (.aload_n 0, 1) := by decide +kernel
theorem dX1_findWaysOut_48 : decode cX1_findWaysOut 48 = .ok (.getfield 22, 3) := by decide +kernel
theorem dX1_findWaysOut_51 : decode cX1_findWaysOut 51 = .ok (.invokevirtual 71, 3) := by decide +kernel
theorem dX1_findWaysOut_54 : decode cX1_findWaysOut 54 = .ok (.return_, 1) := by decide +kernel
theorem dX1_goThroughDoors_0 : decode cX1_goThroughDoors 0 = .ok (.iconst 1, 1) := by decide +kernel
theorem dX1_goThroughDoors_1 : decode cX1_goThroughDoors 1 = .ok (.istore_n 2, 1) := by decide +kernel
theorem dX1_goThroughDoors_2 : decode cX1_goThroughDoors 2 = .ok (.iconst 0, 1) := by decide +kernel
theorem dX1_goThroughDoors_3 : decode cX1_goThroughDoors 3 = .ok (.istore_n 3, 1) := by decide +kernel
theorem dX1_goThroughDoors_4 : decode cX1_goThroughDoors 4 = .ok (.iload_n 2, 1) := by decide +kernel
theorem dX1_goThroughDoors_5 : decode cX1_goThroughDoors 5 = .ok (.ifCond .eq 97, 3) := by decide +kernel
theorem dX1_goThroughDoors_8 : decode cX1_goThroughDoors 8 = .ok (.iload_n 3, 1) := by decide +kernel
theorem dX1_goThroughDoors_9 : decode cX1_goThroughDoors 9 = .ok (.bipush 25, 2) := by decide +kernel
theorem dX1_goThroughDoors_11 : decode cX1_goThroughDoors 11 = .ok (.if_icmp .ge 91, 3) := by decide +kernel
theorem dX1_goThroughDoors_14 : decode cX1_goThroughDoors 14 = .ok (.iconst 0, 1) := by decide +kernel
theorem dX1_goThroughDoors_15 : decode cX1_goThroughDoors 15 = .ok (.istore_n 2, 1) := by decide +kernel
theorem dX1_goThroughDoors_16 : decode cX1_goThroughDoors 16 = .ok (.iconst 0, 1) := by decide +kernel
theorem dX1_goThroughDoors_17 : decode cX1_goThroughDoors 17 = .ok (.istore 4, 2) := by decide +kernel
theorem dX1_goThroughDoors_19 : decode cX1_goThroughDoors 19 = .ok (.iload 4, 2) := by decide +kernel
theorem dX1_goThroughDoors_21 : decode cX1_goThroughDoors 21 = .ok (.bipush 40, 2) := by decide +kernel
theorem dX1_goThroughDoors_23 : decode cX1_goThroughDoors 23 = .ok (.if_icmp .ge 73, 3) := by decide +kernel
theorem dX1_goThroughDoors_26 : decode cX1_goThroughDoors 26 = .ok (.aload_n 0, 1) := by decide +kernel
theorem dX1_goThroughDoors_27 : decode cX1_goThroughDoors 27 = .ok (.getfield 12, 3) := by decide +kernel
theorem dX1_goThroughDoors_30 : decode cX1_goThroughDoors 30 = .ok (.getfield 38, 3) := by decide +kernel
theorem dX1_goThroughDoors_33 : decode cX1_goThroughDoors 33 = .ok (.iload 4, 2) := by decide +kernel
theorem dX1_goThroughDoors_35 : decode cX1_goThroughDoors 35 = .ok (.iaload, 1) := by decide +kernel
theorem dX1_goThroughDoors_36 : decode cX1_goThroughDoors 36 = .ok (.iconst 2, 1) := by decide +kernel
theorem dX1_goThroughDoors_37 : decode cX1_goThroughDoors 37 = .ok (.if_icmp .ne 53, 3) := by decide +kernel
theorem dX1_goThroughDoors_40 : decode cX1_goThroughDoors 40 = .ok (.aload_n 0, 1) := by decide +kernel
theorem dX1_goThroughDoors_41 : decode cX1_goThroughDoors 41 = .ok (.getfield 18, 3) := by decide +kernel
theorem dX1_goThroughDoors_44 : decode cX1_goThroughDoors 44 = .ok (.iload 4, 2) := by decide +kernel
theorem dX1_goThroughDoors_46 : decode cX1_goThroughDoors 46 = .ok (.invokestatic 41, 3) := by decide +kernel
theorem dX1_goThroughDoors_49 : decode cX1_goThroughDoors 49 = .ok (.iaload, 1) := by decide +kernel
theorem dX1_goThroughDoors_50 : decode cX1_goThroughDoors 50 = .ok (.istore 5, 2) := by decide +kernel
theorem dX1_goThroughDoors_52 : decode cX1_goThroughDoors 52 = .ok (.aload_n 0, 1) := by decide +kernel
theorem dX1_goThroughDoors_53 : decode cX1_goThroughDoors 53 = .ok (.getfield 18, 3) := by decide +kernel
theorem dX1_goThroughDoors_56 : decode cX1_goThroughDoors 56 = .ok (.iload 4, 2) := by decide +kernel
theorem dX1_goThroughDoors_58 : decode cX1_goThroughDoors 58 = .ok (.invokestatic 45, 3) := by decide +kernel
theorem dX1_goThroughDoors_61 : decode cX1_goThroughDoors 61 = .ok (.iaload, 1) := by decide +kernel
theorem dX1_goThroughDoors_62 : decode cX1_goThroughDoors 62 = .ok (.istore 6, 2) := by decide +kernel
theorem dX1_goThroughDoors_64 : decode cX1_goThroughDoors 64 = .ok (.aload_n 1, 1) := by decide +kernel
theorem dX1_goThroughDoors_65 : decode cX1_goThroughDoors 65 = .ok (.iload 5, 2) := by decide +kernel
theorem dX1_goThroughDoors_67 : decode cX1_goThroughDoors 67 = .ok (.iload 6, 2) := by decide +kernel
theorem dX1_goThroughDoors_69 : decode cX1_goThroughDoors 69 = .ok (.iload_n 3, 1) := by decide +kernel
theorem dX1_goThroughDoors_70 : decode cX1_goThroughDoors 70 = .ok (.invokestatic 75, 3) := by decide +kernel
theorem dX1_goThroughDoors_73 : decode cX1_goThroughDoors 73 = .ok (.ifCond .ne 15, 3) := by decide +kernel
theorem dX1_goThroughDoors_76 : decode cX1_goThroughDoors 76 = .ok (.aload_n 1, 1) := by decide +kernel
theorem dX1_goThroughDoors_77 : decode cX1_goThroughDoors 77 = .ok (.iload 6, 2) := by decide +kernel
theorem dX1_goThroughDoors_79 : decode cX1_goThroughDoors 79 = .ok (.iload 5, 2) := by decide +kernel
theorem dX1_goThroughDoors_81 : decode cX1_goThroughDoors 81 = .ok (.iload_n 3, 1) := by decide +kernel
theorem dX1_goThroughDoors_82 : decode cX1_goThroughDoors 82 = .ok (.invokestatic 75, 3) := by decide +kernel
theorem dX1_goThroughDoors_85 : decode cX1_goThroughDoors 85 = .ok (.ifCond .eq 5, 3) := by decide +kernel
theorem dX1_goThroughDoors_88 : decode cX1_goThroughDoors 88 = .ok (.iconst 1, 1) := by decide +kernel
theorem dX1_goThroughDoors_89 : decode cX1_goThroughDoors 89 = .ok (.istore_n 2, 1) := by decide +kernel
theorem dX1_goThroughDoors_90 : decode cX1_goThroughDoors 90 = .ok (.iinc 4 1, 3) := by decide +kernel
theorem dX1_goThroughDoors_93 : decode cX1_goThroughDoors 93 = .ok (.goto (-74), 3) := by decide +kernel
theorem dX1_goThroughDoors_96 : decode cX1_goThroughDoors 96 = .ok (.iinc 3 1, 3) := by decide +kernel
theorem dX1_goThroughDoors_99 : decode cX1_goThroughDoors 99 = .ok (.goto (-95), 3) := by decide +kernel
theorem dX1_goThroughDoors_102 : decode cX1_goThroughDoors 102 = .ok (.return_, 1) := by decide +kernel
theorem dX1_goThrough_0 : decode cX1_goThrough 0 = .ok (.aload_n 0, 1) := by decide +kernel
theorem dX1_goThrough_1 : decode cX1_goThrough 1 = .ok (.iload_n 1, 1) := by decide +kernel
theorem dX1_goThrough_2 : decode cX1_goThrough 2 = .ok (.iaload, 1) := by decide +kernel
theorem dX1_goThrough_3 : decode cX1_goThrough 3 = .ok (.iload_n 3, 1) := by decide +kernel
theorem dX1_goThrough_4 : decode cX1_goThrough 4 = .ok (.if_icmp .ne 10, 3) := by decide +kernel
theorem dX1_goThrough_7 : decode cX1_goThrough 7 = .ok (.aload_n 0, 1) := by decide +kernel
theorem dX1_goThrough_8 : decode cX1_goThrough 8 = .ok (.iload_n 2, 1) := by decide +kernel
theorem dX1_goThrough_9 : decode cX1_goThrough 9 = .ok (.iaload, 1) := by decide +kernel
theorem dX1_goThrough_10 : decode cX1_goThrough 10 = .ok (.iconst (-1), 1) := by decide +kernel
theorem dX1_goThrough_11 : decode cX1_goThrough 11 = .ok (.if_icmp .eq 5, 3) := by decide +kernel
theorem dX1_goThrough_14 : decode cX1_goThrough 14 = .ok (.iconst 0, 1) := by decide +kernel
theorem dX1_goThrough_15 : decode cX1_goThrough 15 = .ok (.ireturn, 1) := by decide +kernel
theorem dX1_goThrough_16 : decode cX1_goThrough 16 = .ok (.aload_n 0, 1) := by decide +kernel
theorem dX1_goThrough_17 : decode cX1_goThrough 17 = .ok (.iload_n 2, 1) := by decide +kernel
theorem dX1_goThrough_18 : decode cX1_goThrough 18 = .ok (.iload_n 3, 1) := by decide +kernel
theorem dX1_goThrough_19 : decode cX1_goThrough 19 = .ok (.iconst 1, 1) := by decide +kernel
theorem dX1_goThrough_20 : decode cX1_goThrough 20 = .ok (.iadd, 1) := by decide +kernel
theorem dX1_goThrough_21 : decode cX1_goThrough 21 = .ok (.iastore, 1) := by decide +kernel
theorem dX1_goThrough_22 : decode cX1_goThrough 22 = .ok (.iconst 1, 1) := by decide +kernel
theorem dX1_goThrough_23 : decode cX1_goThrough 23 = .ok (.ireturn, 1) := by decide +kernel
theorem dX1_countRooms_0 : decode cX1_countRooms 0 = .ok (.iconst 0, 1) := by decide +kernel
theorem dX1_countRooms_1 : decode cX1_countRooms 1 = .ok (.istore_n 1, 1) := by decide +kernel
theorem dX1_countRooms_2 : decode cX1_countRooms 2 = .ok (.iconst 0, 1) := by decide +kernel
theorem dX1_countRooms_3 : decode cX1_countRooms 3 = .ok (.istore_n 2, 1) := by decide +kernel
theorem dX1_countRooms_4 : decode cX1_countRooms 4 = .ok (.iload_n 2, 1) := by decide +kernel
theorem dX1_countRooms_5 : decode cX1_countRooms 5 = .ok (.bipush 25, 2) := by decide +kernel
theorem dX1_countRooms_7 : decode cX1_countRooms 7 = .ok (.if_icmp .ge 22, 3) := by decide +kernel
theorem dX1_countRooms_10 : decode cX1_countRooms 10 = .ok (.aload_n 0, 1) := by decide +kernel
theorem dX1_countRooms_11 : decode cX1_countRooms 11 = .ok (.getfield 18, 3) := by decide +kernel
theorem dX1_countRooms_14 : decode cX1_countRooms 14 = .ok (.iload_n 2, 1) := by decide +kernel
theorem dX1_countRooms_15 : decode cX1_countRooms 15 = .ok (.iaload, 1) := by decide +kernel
theorem dX1_countRooms_16 : decode cX1_countRooms 16 = .ok (.iload_n 2, 1) := by decide +kernel
theorem dX1_countRooms_17 : decode cX1_countRooms 17 = .ok (.if_icmp .ne 6, 3) := by decide +kernel
theorem dX1_countRooms_20 : decode cX1_countRooms 20 = .ok (.iinc 1 1, 3) := by decide +kernel
theorem dX1_countRooms_23 : decode cX1_countRooms 23 = .ok (.iinc 2 1, 3) := by decide +kernel
theorem dX1_countRooms_26 : decode cX1_countRooms 26 = .ok (.goto (-22), 3) := by decide +kernel
theorem dX1_countRooms_29 : decode cX1_countRooms 29 = .ok (.iload_n 1, 1) := by decide +kernel
theorem dX1_countRooms_30 : decode cX1_countRooms 30 = .ok (.ireturn, 1) := by decide +kernel
theorem dX1_countCells_0 : decode cX1_countCells 0 = .ok (.iconst 0, 1) := by decide +kernel
theorem dX1_countCells_1 : decode cX1_countCells 1 = .ok (.istore_n 2, 1) := by decide +kernel
theorem dX1_countCells_2 : decode cX1_countCells 2 = .ok (.iconst 0, 1) := by decide +kernel
theorem dX1_countCells_3 : decode cX1_countCells 3 = .ok (.istore_n 3, 1) := by decide +kernel
theorem dX1_countCells_4 : decode cX1_countCells 4 = .ok (.iload_n 3, 1) := by decide +kernel
theorem dX1_countCells_5 : decode cX1_countCells 5 = .ok (.bipush 25, 2) := by decide +kernel
theorem dX1_countCells_7 : decode cX1_countCells 7 = .ok (.if_icmp .ge 22, 3) := by decide +kernel
theorem dX1_countCells_10 : decode cX1_countCells 10 = .ok (.aload_n 0, 1) := by decide +kernel
theorem dX1_countCells_11 : decode cX1_countCells 11 = .ok (.getfield 18, 3) := by decide +kernel
theorem dX1_countCells_14 : decode cX1_countCells 14 = .ok (.iload_n 3, 1) := by decide +kernel
theorem dX1_countCells_15 : decode cX1_countCells 15 = .ok (.iaload, 1) := by decide +kernel
theorem dX1_countCells_16 : decode cX1_countCells 16 = .ok (.iload_n 1, 1) := by decide +kernel
theorem dX1_countCells_17 : decode cX1_countCells 17 = .ok (.if_icmp .ne 6, 3) := by decide +kernel
theorem dX1_countCells_20 : decode cX1_countCells 20 = .ok (.iinc 2 1, 3) := by decide +kernel
theorem dX1_countCells_23 : decode cX1_countCells 23 = .ok (.iinc 3 1, 3) := by decide +kernel
theorem dX1_countCells_26 : decode cX1_countCells 26 = .ok (.goto (-22), 3) := by decide +kernel
theorem dX1_countCells_29 : decode cX1_countCells 29 = .ok (.iload_n 2, 1) := by decide +kernel
theorem dX1_countCells_30 : decode cX1_countCells 30 = .ok (.ireturn, 1) := by decide +kernel
theorem dX1_everyRoomHasWayOut_0 : decode cX1_everyRoomHasWayOut 0 = .ok (.iconst 0, 1) := by decide +kernel
theorem dX1_everyRoomHasWayOut_1 : decode cX1_everyRoomHasWayOut 1 = .ok (.istore_n 1, 1) := by decide +kernel
theorem dX1_everyRoomHasWayOut_2 : decode cX1_everyRoomHasWayOut 2 = .ok (.iload_n 1, 1) := by decide +kernel
theorem dX1_everyRoomHasWayOut_3 : decode cX1_everyRoomHasWayOut 3 = .ok (.bipush 25, 2) := by decide +kernel
theorem dX1_everyRoomHasWayOut_5 : decode cX1_everyRoomHasWayOut 5 = .ok (.if_icmp .ge 26, 3) := by decide +kernel
theorem dX1_everyRoomHasWayOut_8 : decode cX1_everyRoomHasWayOut 8 = .ok (.aload_n 0, 1) := by decide +kernel
theorem dX1_everyRoomHasWayOut_9 : decode cX1_everyRoomHasWayOut 9 = .ok (.getfield 22, 3) := by decide +kernel
theorem dX1_everyRoomHasWayOut_12 : decode cX1_everyRoomHasWayOut 12 = .ok (.aload_n 0, 1) := by decide +kernel
theorem dX1_everyRoomHasWayOut_13 : decode cX1_everyRoomHasWayOut 13 = .ok (.getfield 18, 3) := by decide +kernel
theorem dX1_everyRoomHasWayOut_16 : decode cX1_everyRoomHasWayOut 16 = .ok (.iload_n 1, 1) := by decide +kernel
theorem dX1_everyRoomHasWayOut_17 : decode cX1_everyRoomHasWayOut 17 = .ok (.iaload, 1) := by decide +kernel
theorem dX1_everyRoomHasWayOut_18 : decode cX1_everyRoomHasWayOut 18 = .ok (.iaload, 1) := by decide +kernel
theorem dX1_everyRoomHasWayOut_19 : decode cX1_everyRoomHasWayOut 19 = .ok (.iconst (-1), 1) := by decide +kernel
theorem dX1_everyRoomHasWayOut_20 : decode cX1_everyRoomHasWayOut 20 = .ok (.if_icmp .ne 5, 3) := by decide +kernel
theorem dX1_everyRoomHasWayOut_23 : decode cX1_everyRoomHasWayOut 23 = .ok (.iconst 0, 1) := by decide +kernel
theorem dX1_everyRoomHasWayOut_24 : decode cX1_everyRoomHasWayOut 24 = .ok (.ireturn, 1) := by decide +kernel
theorem dX1_everyRoomHasWayOut_25 : decode cX1_everyRoomHasWayOut 25 = .ok (.iinc 1 1, 3) := by decide +kernel
theorem dX1_everyRoomHasWayOut_28 : decode cX1_everyRoomHasWayOut 28 = .ok (.goto (-26), 3) := by decide +kernel
theorem dX1_everyRoomHasWayOut_31 : decode cX1_everyRoomHasWayOut 31 = .ok (.iconst 1, 1) := by decide +kernel
theorem dX1_everyRoomHasWayOut_32 : decode cX1_everyRoomHasWayOut 32 = .ok (.ireturn, 1) := by decide +kernel
theorem dX1_wallThatHelps_0 : decode cX1_wallThatHelps 0 = .ok (.aload_n 0, 1) := by decide +kernel
theorem dX1_wallThatHelps_1 : decode cX1_wallThatHelps 1 = .ok (.getfield 22, 3) := by decide +kernel
theorem dX1_wallThatHelps_4 : decode cX1_wallThatHelps 4 = .ok (.iload_n 1, 1) := by decide +kernel
theorem dX1_wallThatHelps_5 : decode cX1_wallThatHelps 5 = .ok (.iaload, 1) := by decide +kernel
theorem dX1_wallThatHelps_6 : decode cX1_wallThatHelps 6 = .ok (.iconst (-1), 1) := by decide +kernel
theorem dX1_wallThatHelps_7 : decode cX1_wallThatHelps 7 = .ok (.if_icmp .eq 5, 3) := by decide +kernel
theorem dX1_wallThatHelps_10 : decode cX1_wallThatHelps 10 = .ok (.iconst (-1), 1) := by decide +kernel
theorem dX1_wallThatHelps_11 : decode cX1_wallThatHelps 11 = .ok (.ireturn, 1) := by decide +kernel
theorem dX1_wallThatHelps_12 : decode cX1_wallThatHelps 12 = .ok (.aload_n 0, 1) := by decide +kernel
theorem dX1_wallThatHelps_13 : decode cX1_wallThatHelps 13 = .ok (.getfield 25, 3) := by decide +kernel
theorem dX1_wallThatHelps_16 : decode cX1_wallThatHelps 16 = .ok (.iconst (-1), 1) := by decide +kernel
theorem dX1_wallThatHelps_17 : decode cX1_wallThatHelps 17 = .ok (.invokestatic 61, 3) := by decide +kernel
theorem dX1_wallThatHelps_20 : decode cX1_wallThatHelps 20 = .ok (.aload_n 0, 1) := by decide +kernel
theorem dX1_wallThatHelps_21 : decode cX1_wallThatHelps 21 = .ok (.getfield 25, 3) := by decide +kernel
theorem dX1_wallThatHelps_24 : decode cX1_wallThatHelps 24 = .ok (.iload_n 1, 1) := by decide +kernel
theorem dX1_wallThatHelps_25 : decode cX1_wallThatHelps 25 = .ok (.iconst 0, 1) := by decide +kernel
theorem dX1_wallThatHelps_26 : decode cX1_wallThatHelps 26 = .ok (.iastore, 1) := by decide +kernel
theorem dX1_wallThatHelps_27 : decode cX1_wallThatHelps 27 = .ok (.aload_n 0, 1) := by decide +kernel
theorem dX1_wallThatHelps_28 : decode cX1_wallThatHelps 28 = .ok (.aload_n 0, 1) := by decide +kernel
theorem dX1_wallThatHelps_29 : decode cX1_wallThatHelps 29 = .ok (.getfield 25, 3) := by decide +kernel
theorem dX1_wallThatHelps_32 : decode cX1_wallThatHelps 32 = .ok (.invokevirtual 71, 3) := by decide +kernel
theorem dX1_wallThatHelps_35 : decode cX1_wallThatHelps 35 = .ok (.iconst 0, 1) := by decide +kernel
theorem dX1_wallThatHelps_36 : decode cX1_wallThatHelps 36 = .ok (.istore_n 2, 1) := by decide +kernel
theorem dX1_wallThatHelps_37 : decode cX1_wallThatHelps 37 = .ok (.iload_n 2, 1) := by decide +kernel
theorem dX1_wallThatHelps_38 : decode cX1_wallThatHelps 38 = .ok (.bipush 40, 2) := by decide +kernel
theorem dX1_wallThatHelps_40 : decode cX1_wallThatHelps 40 = .ok (.if_icmp .ge 65, 3) := by decide +kernel
theorem dX1_wallThatHelps_43 : decode cX1_wallThatHelps 43 = .ok (.aload_n 0, 1) := by decide +kernel
theorem dX1_wallThatHelps_44 : decode cX1_wallThatHelps 44 = .ok (.getfield 18, 3) := by decide +kernel
theorem dX1_wallThatHelps_47 : decode cX1_wallThatHelps 47 = .ok (.iload_n 2, 1) := by decide +kernel
theorem dX1_wallThatHelps_48 : decode cX1_wallThatHelps 48 = .ok (.invokestatic 41, 3) := by decide +kernel
theorem dX1_wallThatHelps_51 : decode cX1_wallThatHelps 51 = .ok (.iaload, 1) := by decide +kernel
theorem dX1_wallThatHelps_52 : decode cX1_wallThatHelps 52 = .ok (.istore_n 3, 1) := by decide +kernel
theorem dX1_wallThatHelps_53 : decode cX1_wallThatHelps 53 = .ok (.aload_n 0, 1) := by decide +kernel
theorem dX1_wallThatHelps_54 : decode cX1_wallThatHelps 54 = .ok (.getfield 18, 3) := by decide +kernel
theorem dX1_wallThatHelps_57 : decode cX1_wallThatHelps 57 = .ok (.iload_n 2, 1) := by decide +kernel
theorem dX1_wallThatHelps_58 : decode cX1_wallThatHelps 58 = .ok (.invokestatic 45, 3) := by decide +kernel
theorem dX1_wallThatHelps_61 : decode cX1_wallThatHelps 61 = .ok (.iaload, 1) := by decide +kernel
theorem dX1_wallThatHelps_62 : decode cX1_wallThatHelps 62 = .ok (.istore 4, 2) := by decide +kernel
theorem dX1_wallThatHelps_64 : decode cX1_wallThatHelps 64 = .ok (.aload_n 0, 1) := by decide +kernel
theorem dX1_wallThatHelps_65 : decode cX1_wallThatHelps 65 = .ok (.getfield 12, 3) := by decide +kernel
theorem dX1_wallThatHelps_68 : decode cX1_wallThatHelps 68 = .ok (.getfield 38, 3) := by decide +kernel
theorem dX1_wallThatHelps_71 : decode cX1_wallThatHelps 71 = .ok (.iload_n 2, 1) := by decide +kernel
theorem dX1_wallThatHelps_72 : decode cX1_wallThatHelps 72 = .ok (.iaload, 1) := by decide +kernel
theorem dX1_wallThatHelps_73 : decode cX1_wallThatHelps 73 = .ok (.iconst 1, 1) := by decide +kernel
theorem dX1_wallThatHelps_74 : decode cX1_wallThatHelps 74 = .ok (.if_icmp .ne 25, 3) := by decide +kernel
theorem dX1_wallThatHelps_77 : decode cX1_wallThatHelps 77 = .ok (.aload_n 0, 1) := by decide +kernel
theorem dX1_wallThatHelps_78 : decode cX1_wallThatHelps 78 = .ok (.iload_n 3, 1) := by decide +kernel
theorem dX1_wallThatHelps_79 : decode cX1_wallThatHelps 79 = .ok (.iload 4, 2) := by decide +kernel
theorem dX1_wallThatHelps_81 : decode cX1_wallThatHelps 81 = .ok (.invokevirtual 79, 3) := by decide +kernel
theorem dX1_wallThatHelps_84 : decode cX1_wallThatHelps 84 = .ok (.ifCond .ne 13, 3) := by decide +kernel
theorem dX1_wallThatHelps_87 : decode cX1_wallThatHelps 87 = .ok (.aload_n 0, 1) := by decide +kernel
theorem dX1_wallThatHelps_88 : decode cX1_wallThatHelps 88 = .ok (.iload 4, 2) := by decide +kernel
theorem dX1_wallThatHelps_90 : decode cX1_wallThatHelps 90 = .ok (.iload_n 3, 1) := by decide +kernel
theorem dX1_wallThatHelps_91 : decode cX1_wallThatHelps 91 = .ok (.invokevirtual 79, 3) := by decide +kernel
theorem dX1_wallThatHelps_94 : decode cX1_wallThatHelps 94 = .ok (.ifCond .eq 5, 3) := by decide +kernel
theorem dX1_wallThatHelps_97 : decode cX1_wallThatHelps 97 = .ok (.iload_n 2, 1) := by decide +kernel
theorem dX1_wallThatHelps_98 : decode cX1_wallThatHelps 98 = .ok (.ireturn, 1) := by decide +kernel
theorem dX1_wallThatHelps_99 : decode cX1_wallThatHelps 99 = .ok (.iinc 2 1, 3) := by decide +kernel
theorem dX1_wallThatHelps_102 : decode cX1_wallThatHelps 102 = .ok (.goto (-65), 3) := by decide +kernel
theorem dX1_wallThatHelps_105 : decode cX1_wallThatHelps 105 = .ok (.iconst (-1), 1) := by decide +kernel
theorem dX1_wallThatHelps_106 : decode cX1_wallThatHelps 106 = .ok (.ireturn, 1) := by decide +kernel
theorem dX1_leadsOut_0 : decode cX1_leadsOut 0 = .ok (.aload_n 0, 1) := by decide +kernel
theorem dX1_leadsOut_1 : decode cX1_leadsOut 1 = .ok (.getfield 25, 3) := by decide +kernel
theorem dX1_leadsOut_4 : decode cX1_leadsOut 4 = .ok (.iload_n 1, 1) := by decide +kernel
theorem dX1_leadsOut_5 : decode cX1_leadsOut 5 = .ok (.iaload, 1) := by decide +kernel
theorem dX1_leadsOut_6 : decode cX1_leadsOut 6 = .ok (.iconst (-1), 1) := by decide +kernel
theorem dX1_leadsOut_7 : decode cX1_leadsOut 7 = .ok (.if_icmp .eq 17, 3) := by decide +kernel
theorem dX1_leadsOut_10 : decode cX1_leadsOut 10 = .ok (.aload_n 0, 1) := by decide +kernel
theorem dX1_leadsOut_11 : decode cX1_leadsOut 11 = .ok (.getfield 22, 3) := by decide +kernel
theorem dX1_leadsOut_14 : decode cX1_leadsOut 14 = .ok (.iload_n 2, 1) := by decide +kernel
theorem dX1_leadsOut_15 : decode cX1_leadsOut 15 = .ok (.iaload, 1) := by decide +kernel
theorem dX1_leadsOut_16 : decode cX1_leadsOut 16 = .ok (.iconst (-1), 1) := by decide +kernel
theorem dX1_leadsOut_17 : decode cX1_leadsOut 17 = .ok (.if_icmp .eq 7, 3) := by decide +kernel
theorem dX1_leadsOut_20 : decode cX1_leadsOut 20 = .ok (.iconst 1, 1) := by decide +kernel
theorem dX1_leadsOut_21 : decode cX1_leadsOut 21 = .ok (.goto 4, 3) := by decide +kernel
theorem dX1_leadsOut_24 : decode cX1_leadsOut 24 = .ok (.iconst 0, 1) := by decide +kernel
theorem dX1_leadsOut_25 : decode cX1_leadsOut 25 = .ok (.ireturn, 1) := by decide +kernel
theorem dX2_init_0 : decode cX2_init 0 = .ok (.aload_n 0, 1) := by decide +kernel
theorem dX2_init_1 : decode cX2_init 1 = .ok (.invokespecial 1, 3) := by decide +kernel
theorem dX2_init_4 : decode cX2_init 4 = .ok (.aload_n 0, 1) := by decide +kernel
theorem dX2_init_5 : decode cX2_init 5 = .ok (.new 7, 3) := by decide +kernel
theorem dX2_init_8 : decode cX2_init 8 = .ok (.dup, 1) := by decide +kernel
theorem dX2_init_9 : decode cX2_init 9 = .ok (.invokespecial 9, 3) := by decide +kernel
theorem dX2_init_12 : decode cX2_init 12 = .ok (.putfield 10, 3) := by decide +kernel
theorem dX2_init_15 : decode cX2_init 15 = .ok (.aload_n 0, 1) := by decide +kernel
theorem dX2_init_16 : decode cX2_init 16 = .ok (.aload_n 1, 1) := by decide +kernel
theorem dX2_init_17 : decode cX2_init 17 = .ok (.putfield 16, 3) := by decide +kernel
theorem dX2_init_20 : decode cX2_init 20 = .ok (.aload_n 0, 1) := by decide +kernel
theorem dX2_init_21 : decode cX2_init 21 = .ok (.getfield 10, 3) := by decide +kernel
theorem dX2_init_24 : decode cX2_init 24 = .ok (.aload_n 1, 1) := by decide +kernel
theorem dX2_init_25 : decode cX2_init 25 = .ok (.invokevirtual 20, 3) := by decide +kernel
theorem dX2_init_28 : decode cX2_init 28 = .ok (.return_, 1) := by decide +kernel
theorem dX2_isValid_0 : decode cX2_isValid 0 = .ok (.aload_n 0, 1) := by decide +kernel
theorem dX2_isValid_1 : decode cX2_isValid 1 = .ok (.getfield 10, 3) := by decide +kernel
theorem dX2_isValid_4 : decode cX2_isValid 4 = .ok (.aload_n 0, 1) := by decide +kernel
theorem dX2_isValid_5 : decode cX2_isValid 5 = .ok (.getfield 16, 3) := by decide +kernel
theorem dX2_isValid_8 : decode cX2_isValid 8 = .ok (.invokevirtual 24, 3) := by decide +kernel
theorem dX2_isValid_11 : decode cX2_isValid 11 = .ok (.ireturn, 1) := by decide +kernel
theorem dX3_init_0 : decode cX3_init 0 = .ok (.aload_n 0, 1) := by decide +kernel
theorem dX3_init_1 : decode cX3_init 1 = .ok (.invokespecial 1, 3) := by decide +kernel
theorem dX3_init_4 : decode cX3_init 4 = .ok (.aload_n 0, 1) := by decide +kernel
theorem dX3_init_5 : decode cX3_init 5 = .ok (.new 7, 3) := by decide +kernel
theorem dX3_init_8 : decode cX3_init 8 = .ok (.dup, 1) := by decide +kernel
theorem dX3_init_9 : decode cX3_init 9 = .ok (.invokespecial 9, 3) := by decide +kernel
theorem dX3_init_12 : decode cX3_init 12 = .ok (.putfield 10, 3) := by decide +kernel
theorem dX3_init_15 : decode cX3_init 15 = .ok (.aload_n 0, 1) := by decide +kernel
theorem dX3_init_16 : decode cX3_init 16 = .ok (.aload_n 1, 1) := by decide +kernel
theorem dX3_init_17 : decode cX3_init 17 = .ok (.putfield 16, 3) := by decide +kernel
theorem dX3_init_20 : decode cX3_init 20 = .ok (.aload_n 0, 1) := by decide +kernel
theorem dX3_init_21 : decode cX3_init 21 = .ok (.iload_n 2, 1) := by decide +kernel
theorem dX3_init_22 : decode cX3_init 22 = .ok (.putfield 20, 3) := by decide +kernel
theorem dX3_init_25 : decode cX3_init 25 = .ok (.aload_n 0, 1) := by decide +kernel
theorem dX3_init_26 : decode cX3_init 26 = .ok (.getfield 10, 3) := by decide +kernel
theorem dX3_init_29 : decode cX3_init 29 = .ok (.aload_n 1, 1) := by decide +kernel
theorem dX3_init_30 : decode cX3_init 30 = .ok (.invokevirtual 24, 3) := by decide +kernel
theorem dX3_init_33 : decode cX3_init 33 = .ok (.return_, 1) := by decide +kernel
theorem dX3_isOld_0 : decode cX3_isOld 0 = .ok (.aload_n 0, 1) := by decide +kernel
theorem dX3_isOld_1 : decode cX3_isOld 1 = .ok (.getfield 10, 3) := by decide +kernel
theorem dX3_isOld_4 : decode cX3_isOld 4 = .ok (.aload_n 0, 1) := by decide +kernel
theorem dX3_isOld_5 : decode cX3_isOld 5 = .ok (.getfield 16, 3) := by decide +kernel
theorem dX3_isOld_8 : decode cX3_isOld 8 = .ok (.invokevirtual 28, 3) := by decide +kernel
theorem dX3_isOld_11 : decode cX3_isOld 11 = .ok (.ifCond .ne 7, 3) := by decide +kernel
theorem dX3_isOld_14 : decode cX3_isOld 14 = .ok (.iconst 1, 1) := by decide +kernel
theorem dX3_isOld_15 : decode cX3_isOld 15 = .ok (.goto 4, 3) := by decide +kernel
theorem dX3_isOld_18 : decode cX3_isOld 18 = .ok (.iconst 0, 1) := by decide +kernel
theorem dX3_isOld_19 : decode cX3_isOld 19 = .ok (.ireturn, 1) := by decide +kernel
theorem dX4_init_0 : decode cX4_init 0 = .ok (.aload_n 0, 1) := by decide +kernel
theorem dX4_init_1 : decode cX4_init 1 = .ok (.invokespecial 3, 3) := by decide +kernel
theorem dX4_init_4 : decode cX4_init 4 = .ok (.aload_n 0, 1) := by decide +kernel
theorem dX4_init_5 : decode cX4_init 5 = .ok (.bipush 40, 2) := by decide +kernel
theorem dX4_init_7 : decode cX4_init 7 = .ok (.newarray .int, 2) := by decide +kernel
theorem dX4_init_9 : decode cX4_init 9 = .ok (.putfield 9, 3) := by decide +kernel
theorem dX4_init_12 : decode cX4_init 12 = .ok (.aload_n 0, 1) := by decide +kernel
theorem dX4_init_13 : decode cX4_init 13 = .ok (.bipush 25, 2) := by decide +kernel
theorem dX4_init_15 : decode cX4_init 15 = .ok (.newarray .boolean, 2) := by decide +kernel
theorem dX4_init_17 : decode cX4_init 17 = .ok (.putfield 15, 3) := by decide +kernel
theorem dX4_init_20 : decode cX4_init 20 = .ok (.return_, 1) := by decide +kernel
theorem dX4_takeFrom_0 : decode cX4_takeFrom 0 = .ok (.iconst 0, 1) := by decide +kernel
theorem dX4_takeFrom_1 : decode cX4_takeFrom 1 = .ok (.istore_n 2, 1) := by decide +kernel
theorem dX4_takeFrom_2 : decode cX4_takeFrom 2 = .ok (.iload_n 2, 1) := by decide +kernel
theorem dX4_takeFrom_3 : decode cX4_takeFrom 3 = .ok (.bipush 40, 2) := by decide +kernel
theorem dX4_takeFrom_5 : decode cX4_takeFrom 5 = .ok (.if_icmp .ge 20, 3) := by decide +kernel
theorem dX4_takeFrom_8 : decode cX4_takeFrom 8 = .ok (.aload_n 0, 1) := by decide +kernel
theorem dX4_takeFrom_9 : decode cX4_takeFrom 9 = .ok (.getfield 9, 3) := by decide +kernel
theorem dX4_takeFrom_12 : decode cX4_takeFrom 12 = .ok (.iload_n 2, 1) := by decide +kernel
theorem dX4_takeFrom_13 : decode cX4_takeFrom 13 = .ok (.aload_n 1, 1) := by decide +kernel
theorem dX4_takeFrom_14 : decode cX4_takeFrom 14 = .ok (.iload_n 2, 1) := by decide +kernel
theorem dX4_takeFrom_15 : decode cX4_takeFrom 15 = .ok (.invokevirtual 19, 3) := by decide +kernel
theorem dX4_takeFrom_18 : decode cX4_takeFrom 18 = .ok (.iastore, 1) := by decide +kernel
theorem dX4_takeFrom_19 : decode cX4_takeFrom 19 = .ok (.iinc 2 1, 3) := by decide +kernel
theorem dX4_takeFrom_22 : decode cX4_takeFrom 22 = .ok (.goto (-20), 3) := by decide +kernel
theorem dX4_takeFrom_25 : decode cX4_takeFrom 25 = .ok (.iconst 0, 1) := by decide +kernel
theorem dX4_takeFrom_26 : decode cX4_takeFrom 26 = .ok (.istore_n 2, 1) := by decide +kernel
theorem dX4_takeFrom_27 : decode cX4_takeFrom 27 = .ok (.iload_n 2, 1) := by decide +kernel
theorem dX4_takeFrom_28 : decode cX4_takeFrom 28 = .ok (.bipush 25, 2) := by decide +kernel
theorem dX4_takeFrom_30 : decode cX4_takeFrom 30 = .ok (.if_icmp .ge 20, 3) := by decide +kernel
theorem dX4_takeFrom_33 : decode cX4_takeFrom 33 = .ok (.aload_n 0, 1) := by decide +kernel
theorem dX4_takeFrom_34 : decode cX4_takeFrom 34 = .ok (.getfield 15, 3) := by decide +kernel
theorem dX4_takeFrom_37 : decode cX4_takeFrom 37 = .ok (.iload_n 2, 1) := by decide +kernel
theorem dX4_takeFrom_38 : decode cX4_takeFrom 38 = .ok (.aload_n 1, 1) := by decide +kernel
theorem dX4_takeFrom_39 : decode cX4_takeFrom 39 = .ok (.iload_n 2, 1) := by decide +kernel
theorem dX4_takeFrom_40 : decode cX4_takeFrom 40 = .ok (.invokevirtual 25, 3) := by decide +kernel
theorem dX4_takeFrom_43 : decode cX4_takeFrom 43 = .ok (.bastore, 1) := by decide +kernel
theorem dX4_takeFrom_44 : decode cX4_takeFrom 44 = .ok (.iinc 2 1, 3) := by decide +kernel
theorem dX4_takeFrom_47 : decode cX4_takeFrom 47 = .ok (.goto (-20), 3) := by decide +kernel
theorem dX4_takeFrom_50 : decode cX4_takeFrom 50 = .ok (.return_, 1) := by decide +kernel
theorem dX4_isThatOf_0 : decode cX4_isThatOf 0 = .ok (.iconst 0, 1) := by decide +kernel
theorem dX4_isThatOf_1 : decode cX4_isThatOf 1 = .ok (.istore_n 2, 1) := by decide +kernel
theorem dX4_isThatOf_2 : decode cX4_isThatOf 2 = .ok (.iload_n 2, 1) := by decide +kernel
theorem dX4_isThatOf_3 : decode cX4_isThatOf 3 = .ok (.bipush 40, 2) := by decide +kernel
theorem dX4_isThatOf_5 : decode cX4_isThatOf 5 = .ok (.if_icmp .ge 25, 3) := by decide +kernel
theorem dX4_isThatOf_8 : decode cX4_isThatOf 8 = .ok (.aload_n 0, 1) := by decide +kernel
theorem dX4_isThatOf_9 : decode cX4_isThatOf 9 = .ok (.getfield 9, 3) := by decide +kernel
theorem dX4_isThatOf_12 : decode cX4_isThatOf 12 = .ok (.iload_n 2, 1) := by decide +kernel
theorem dX4_isThatOf_13 : decode cX4_isThatOf 13 = .ok (.iaload, 1) := by decide +kernel
theorem dX4_isThatOf_14 : decode cX4_isThatOf 14 = .ok (.aload_n 1, 1) := by decide +kernel
theorem dX4_isThatOf_15 : decode cX4_isThatOf 15 = .ok (.iload_n 2, 1) := by decide +kernel
theorem dX4_isThatOf_16 : decode cX4_isThatOf 16 = .ok (.invokevirtual 19, 3) := by decide +kernel
theorem dX4_isThatOf_19 : decode cX4_isThatOf 19 = .ok (.if_icmp .eq 5, 3) := by decide +kernel
theorem dX4_isThatOf_22 : decode cX4_isThatOf 22 = .ok (.iconst 0, 1) := by decide +kernel
theorem dX4_isThatOf_23 : decode cX4_isThatOf 23 = .ok (.ireturn, 1) := by decide +kernel
theorem dX4_isThatOf_24 : decode cX4_isThatOf 24 = .ok (.iinc 2 1, 3) := by decide +kernel
theorem dX4_isThatOf_27 : decode cX4_isThatOf 27 = .ok (.goto (-25), 3) := by decide +kernel
theorem dX4_isThatOf_30 : decode cX4_isThatOf 30 = .ok (.iconst 0, 1) := by decide +kernel
theorem dX4_isThatOf_31 : decode cX4_isThatOf 31 = .ok (.istore_n 2, 1) := by decide +kernel
theorem dX4_isThatOf_32 : decode cX4_isThatOf 32 = .ok (.iload_n 2, 1) := by decide +kernel
theorem dX4_isThatOf_33 : decode cX4_isThatOf 33 = .ok (.bipush 25, 2) := by decide +kernel
theorem dX4_isThatOf_35 : decode cX4_isThatOf 35 = .ok (.if_icmp .ge 25, 3) := by decide +kernel
theorem dX4_isThatOf_38 : decode cX4_isThatOf 38 = .ok (.aload_n 0, 1) := by decide +kernel
theorem dX4_isThatOf_39 : decode cX4_isThatOf 39 = .ok (.getfield 15, 3) := by decide +kernel
theorem dX4_isThatOf_42 : decode cX4_isThatOf 42 = .ok (.iload_n 2, 1) := by decide +kernel
theorem dX4_isThatOf_43 : decode cX4_isThatOf 43 = .ok (.baload, 1) := by decide +kernel
theorem dX4_isThatOf_44 : decode cX4_isThatOf 44 = .ok (.aload_n 1, 1) := by decide +kernel
theorem dX4_isThatOf_45 : decode cX4_isThatOf 45 = .ok (.iload_n 2, 1) := by decide +kernel
theorem dX4_isThatOf_46 : decode cX4_isThatOf 46 = .ok (.invokevirtual 25, 3) := by decide +kernel
theorem dX4_isThatOf_49 : decode cX4_isThatOf 49 = .ok (.if_icmp .eq 5, 3) := by decide +kernel
theorem dX4_isThatOf_52 : decode cX4_isThatOf 52 = .ok (.iconst 0, 1) := by decide +kernel
theorem dX4_isThatOf_53 : decode cX4_isThatOf 53 = .ok (.ireturn, 1) := by decide +kernel
theorem dX4_isThatOf_54 : decode cX4_isThatOf 54 = .ok (.iinc 2 1, 3) := by decide +kernel
theorem dX4_isThatOf_57 : decode cX4_isThatOf 57 = .ok (.goto (-25), 3) := by decide +kernel
theorem dX4_isThatOf_60 : decode cX4_isThatOf 60 = .ok (.iconst 1, 1) := by decide +kernel
theorem dX4_isThatOf_61 : decode cX4_isThatOf 61 = .ok (.ireturn, 1) := by decide +kernel
theorem dX5_init_0 : decode cX5_init 0 = .ok (.aload_n 0, 1) := by decide +kernel
theorem dX5_init_1 : decode cX5_init 1 = .ok (.invokespecial 1, 3) := by decide +kernel
theorem dX5_init_4 : decode cX5_init 4 = .ok (.aload_n 0, 1) := by decide +kernel
theorem dX5_init_5 : decode cX5_init 5 = .ok (.new 7, 3) := by decide +kernel
theorem dX5_init_8 : decode cX5_init 8 = .ok (.dup, 1) := by decide +kernel
theorem dX5_init_9 : decode cX5_init 9 = .ok (.invokespecial 9, 3) := by decide +kernel
theorem dX5_init_12 : decode cX5_init 12 = .ok (.putfield 10, 3) := by decide +kernel
theorem dX5_init_15 : decode cX5_init 15 = .ok (.aload_n 0, 1) := by decide +kernel
theorem dX5_init_16 : decode cX5_init 16 = .ok (.new 7, 3) := by decide +kernel
theorem dX5_init_19 : decode cX5_init 19 = .ok (.dup, 1) := by decide +kernel
theorem dX5_init_20 : decode cX5_init 20 = .ok (.invokespecial 9, 3) := by decide +kernel
theorem dX5_init_23 : decode cX5_init 23 = .ok (.putfield 16, 3) := by decide +kernel
theorem dX5_init_26 : decode cX5_init 26 = .ok (.aload_n 0, 1) := by decide +kernel
theorem dX5_init_27 : decode cX5_init 27 = .ok (.new 7, 3) := by decide +kernel
theorem dX5_init_30 : decode cX5_init 30 = .ok (.dup, 1) := by decide +kernel
theorem dX5_init_31 : decode cX5_init 31 = .ok (.invokespecial 9, 3) := by decide +kernel
theorem dX5_init_34 : decode cX5_init 34 = .ok (.putfield 19, 3) := by decide +kernel
theorem dX5_init_37 : decode cX5_init 37 = .ok (.aload_n 0, 1) := by decide +kernel
theorem dX5_init_38 : decode cX5_init 38 = .ok (.new 22, 3) := by decide +kernel
theorem dX5_init_41 : decode cX5_init 41 = .ok (.dup, 1) := by decide +kernel
theorem dX5_init_42 : decode cX5_init 42 = .ok (.invokespecial 24, 3) := by decide +kernel
theorem dX5_init_45 : decode cX5_init 45 = .ok (.putfield 25, 3) := by decide +kernel
theorem dX5_init_48 : decode cX5_init 48 = .ok (.return_, 1) := by decide +kernel
theorem dX5_begin_0 : decode cX5_begin 0 = .ok (.aload_n 0, 1) := by decide +kernel
theorem dX5_begin_1 : decode cX5_begin 1 = .ok (.getfield 10, 3) := by decide +kernel
theorem dX5_begin_4 : decode cX5_begin 4 = .ok (.invokevirtual 29, 3) := by decide +kernel
theorem dX5_begin_7 : decode cX5_begin 7 = .ok (.istore_n 1, 1) := by decide +kernel
theorem dX5_begin_8 : decode cX5_begin 8 = .ok (.iload_n 1, 1) := by decide +kernel
theorem dX5_begin_9 : decode cX5_begin 9 = .ok (.bipush 6, 2) := by decide +kernel
theorem dX5_begin_11 : decode cX5_begin 11 = .ok (.if_icmp .lt 13, 3) := by decide +kernel
theorem dX5_begin_14 : decode cX5_begin 14 = .ok (.new 33, 3) := by decide +kernel
theorem dX5_begin_17 : decode cX5_begin 17 = .ok (.dup, 1) := by decide +kernel
theorem dX5_begin_18 : decode cX5_begin 18 = .ok (.ldc 35, 2) := by decide +kernel
theorem dX5_begin_20 : decode cX5_begin 20 = .ok (.invokespecial 37, 3) := by decide +kernel
theorem dX5_begin_23 : decode cX5_begin 23 = .ok (.athrow, 1) := by decide +kernel
theorem dX5_begin_24 : decode cX5_begin 24 = .ok (.aload_n 0, 1) := by decide +kernel
theorem dX5_begin_25 : decode cX5_begin 25 = .ok (.getfield 10, 3) := by decide +kernel
theorem dX5_begin_28 : decode cX5_begin 28 = .ok (.new 40, 3) := by decide +kernel
theorem dX5_begin_31 : decode cX5_begin 31 = .ok (.dup, 1) := by decide +kernel
theorem dX5_begin_32 : decode cX5_begin 32 = .ok (.invokespecial 42, 3) := by decide +kernel
theorem dX5_begin_35 : decode cX5_begin 35 = .ok (.invokevirtual 43, 3) := by decide +kernel
theorem dX5_begin_38 : decode cX5_begin 38 = .ok (.pop, 1) := by decide +kernel
theorem dX5_begin_39 : decode cX5_begin 39 = .ok (.iload_n 1, 1) := by decide +kernel
theorem dX5_begin_40 : decode cX5_begin 40 = .ok (.ireturn, 1) := by decide +kernel
theorem dX5_tell_0 : decode cX5_tell 0 = .ok (.aload_n 0, 1) := by decide +kernel
theorem dX5_tell_1 : decode cX5_tell 1 = .ok (.iload_n 1, 1) := by decide +kernel
theorem dX5_tell_2 : decode cX5_tell 2 = .ok (.invokevirtual 47, 3) := by decide +kernel
theorem dX5_tell_5 : decode cX5_tell 5 = .ok (.astore 5, 2) := by decide +kernel
theorem dX5_tell_7 : decode cX5_tell 7 = .ok (.iload_n 2, 1) := by decide +kernel
theorem dX5_tell_8 : decode cX5_tell 8 = .ok (.invokestatic 51, 3) := by decide +kernel
theorem dX5_tell_11 : decode cX5_tell 11 = .ok (.iload_n 3, 1) := by decide +kernel
theorem dX5_tell_12 : decode cX5_tell 12 = .ok (.invokestatic 55, 3) := by decide +kernel
theorem dX5_tell_15 : decode cX5_tell 15 = .ok (.iload 4, 2) := by decide +kernel
theorem dX5_tell_17 : decode cX5_tell 17 = .ok (.iconst (-1), 1) := by decide +kernel
theorem dX5_tell_18 : decode cX5_tell 18 = .ok (.if_icmp .lt 9, 3) := by decide +kernel
theorem dX5_tell_21 : decode cX5_tell 21 = .ok (.iload 4, 2) := by decide +kernel
theorem dX5_tell_23 : decode cX5_tell 23 = .ok (.iconst 2, 1) := by decide +kernel
theorem dX5_tell_24 : decode cX5_tell 24 = .ok (.if_icmp .le 13, 3) := by decide +kernel
theorem dX5_tell_27 : decode cX5_tell 27 = .ok (.new 58, 3) := by decide +kernel
theorem dX5_tell_30 : decode cX5_tell 30 = .ok (.dup, 1) := by decide +kernel
theorem dX5_tell_31 : decode cX5_tell 31 = .ok (.ldc 60, 2) := by decide +kernel
theorem dX5_tell_33 : decode cX5_tell 33 = .ok (.invokespecial 62, 3) := by decide +kernel
theorem dX5_tell_36 : decode cX5_tell 36 = .ok (.athrow, 1) := by decide +kernel
