/-! decode rows, by program -/
theorem d_Fc_foretells_0 : decode b_Fc_foretells 0 = .ok (.aload_n 1, 1) := by decide +kernel
theorem d_Fc_foretells_1 : decode b_Fc_foretells 1 = .ok (.aload_n 0, 1) := by decide +kernel
theorem d_Fc_foretells_2 : decode b_Fc_foretells 2 = .ok (.getfield 19, 3) := by decide +kernel
theorem d_Fc_foretells_5 : decode b_Fc_foretells 5 = .ok (.aload_n 0, 1) := by decide +kernel
theorem d_Fc_foretells_6 : decode b_Fc_foretells 6 = .ok (.getfield 28, 3) := by decide +kernel
theorem d_Fc_foretells_9 : decode b_Fc_foretells 9 = .ok (.invokevirtual 32, 3) := by decide +kernel
theorem d_Fc_foretells_12 : decode b_Fc_foretells 12 = .ok (.ifCond .ge 7, 3) := by decide +kernel
theorem d_Fc_foretells_15 : decode b_Fc_foretells 15 = .ok (.iconst 1, 1) := by decide +kernel
theorem d_Fc_foretells_16 : decode b_Fc_foretells 16 = .ok (.goto 4, 3) := by decide +kernel
theorem d_Fc_foretells_19 : decode b_Fc_foretells 19 = .ok (.iconst 0, 1) := by decide +kernel
theorem d_Fc_foretells_20 : decode b_Fc_foretells 20 = .ok (.aload_n 1, 1) := by decide +kernel
theorem d_Fc_foretells_21 : decode b_Fc_foretells 21 = .ok (.aload_n 0, 1) := by decide +kernel
theorem d_Fc_foretells_22 : decode b_Fc_foretells 22 = .ok (.getfield 22, 3) := by decide +kernel
theorem d_Fc_foretells_25 : decode b_Fc_foretells 25 = .ok (.aload_n 0, 1) := by decide +kernel
theorem d_Fc_foretells_26 : decode b_Fc_foretells 26 = .ok (.getfield 28, 3) := by decide +kernel
theorem d_Fc_foretells_29 : decode b_Fc_foretells 29 = .ok (.invokevirtual 32, 3) := by decide +kernel
theorem d_Fc_foretells_32 : decode b_Fc_foretells 32 = .ok (.ifCond .ge 7, 3) := by decide +kernel
theorem d_Fc_foretells_35 : decode b_Fc_foretells 35 = .ok (.iconst 1, 1) := by decide +kernel
theorem d_Fc_foretells_36 : decode b_Fc_foretells 36 = .ok (.goto 4, 3) := by decide +kernel
theorem d_Fc_foretells_39 : decode b_Fc_foretells 39 = .ok (.iconst 0, 1) := by decide +kernel
theorem d_Fc_foretells_40 : decode b_Fc_foretells 40 = .ok (.iadd, 1) := by decide +kernel
theorem d_Fc_foretells_41 : decode b_Fc_foretells 41 = .ok (.aload_n 1, 1) := by decide +kernel
theorem d_Fc_foretells_42 : decode b_Fc_foretells 42 = .ok (.aload_n 0, 1) := by decide +kernel
theorem d_Fc_foretells_43 : decode b_Fc_foretells 43 = .ok (.getfield 25, 3) := by decide +kernel
theorem d_Fc_foretells_46 : decode b_Fc_foretells 46 = .ok (.aload_n 0, 1) := by decide +kernel
theorem d_Fc_foretells_47 : decode b_Fc_foretells 47 = .ok (.getfield 28, 3) := by decide +kernel
theorem d_Fc_foretells_50 : decode b_Fc_foretells 50 = .ok (.invokevirtual 32, 3) := by decide +kernel
theorem d_Fc_foretells_53 : decode b_Fc_foretells 53 = .ok (.ifCond .ge 7, 3) := by decide +kernel
theorem d_Fc_foretells_56 : decode b_Fc_foretells 56 = .ok (.iconst 1, 1) := by decide +kernel
theorem d_Fc_foretells_57 : decode b_Fc_foretells 57 = .ok (.goto 4, 3) := by decide +kernel
theorem d_Fc_foretells_60 : decode b_Fc_foretells 60 = .ok (.iconst 0, 1) := by decide +kernel
theorem d_Fc_foretells_61 : decode b_Fc_foretells 61 = .ok (.iadd, 1) := by decide +kernel
theorem d_Fc_foretells_62 : decode b_Fc_foretells 62 = .ok (.istore_n 2, 1) := by decide +kernel
theorem d_Fc_foretells_63 : decode b_Fc_foretells 63 = .ok (.iload_n 2, 1) := by decide +kernel
theorem d_Fc_foretells_64 : decode b_Fc_foretells 64 = .ok (.iconst 2, 1) := by decide +kernel
theorem d_Fc_foretells_65 : decode b_Fc_foretells 65 = .ok (.if_icmp .lt 7, 3) := by decide +kernel
theorem d_Fc_foretells_68 : decode b_Fc_foretells 68 = .ok (.iconst 1, 1) := by decide +kernel
theorem d_Fc_foretells_69 : decode b_Fc_foretells 69 = .ok (.goto 4, 3) := by decide +kernel
theorem d_Fc_foretells_72 : decode b_Fc_foretells 72 = .ok (.iconst 0, 1) := by decide +kernel
theorem d_Fc_foretells_73 : decode b_Fc_foretells 73 = .ok (.ireturn, 1) := by decide +kernel
theorem d_Lor_init_0 : decode b_Lor_init 0 = .ok (.aload_n 0, 1) := by decide +kernel
theorem d_Lor_init_1 : decode b_Lor_init 1 = .ok (.invokespecial 3, 3) := by decide +kernel
theorem d_Lor_init_4 : decode b_Lor_init 4 = .ok (.aload_n 0, 1) := by decide +kernel
theorem d_Lor_init_5 : decode b_Lor_init 5 = .ok (.bipush 8, 2) := by decide +kernel
theorem d_Lor_init_7 : decode b_Lor_init 7 = .ok (.newarray .int, 2) := by decide +kernel
theorem d_Lor_init_9 : decode b_Lor_init 9 = .ok (.putfield 9, 3) := by decide +kernel
theorem d_Lor_init_12 : decode b_Lor_init 12 = .ok (.aload_n 0, 1) := by decide +kernel
theorem d_Lor_init_13 : decode b_Lor_init 13 = .ok (.iconst 2, 1) := by decide +kernel
theorem d_Lor_init_14 : decode b_Lor_init 14 = .ok (.putfield 15, 3) := by decide +kernel
theorem d_Lor_init_17 : decode b_Lor_init 17 = .ok (.aload_n 0, 1) := by decide +kernel
theorem d_Lor_init_18 : decode b_Lor_init 18 = .ok (.iload_n 1, 1) := by decide +kernel
theorem d_Lor_init_19 : decode b_Lor_init 19 = .ok (.putfield 19, 3) := by decide +kernel
theorem d_Lor_init_22 : decode b_Lor_init 22 = .ok (.return_, 1) := by decide +kernel
theorem d_Lor_addOrder_0 : decode b_Lor_addOrder 0 = .ok (.aload_n 0, 1) := by decide +kernel
theorem d_Lor_addOrder_1 : decode b_Lor_addOrder 1 = .ok (.getfield 23, 3) := by decide +kernel
theorem d_Lor_addOrder_4 : decode b_Lor_addOrder 4 = .ok (.ifCond .lt 35, 3) := by decide +kernel
theorem d_Lor_addOrder_7 : decode b_Lor_addOrder 7 = .ok (.aload_n 0, 1) := by decide +kernel
theorem d_Lor_addOrder_8 : decode b_Lor_addOrder 8 = .ok (.getfield 23, 3) := by decide +kernel
theorem d_Lor_addOrder_11 : decode b_Lor_addOrder 11 = .ok (.aload_n 0, 1) := by decide +kernel
theorem d_Lor_addOrder_12 : decode b_Lor_addOrder 12 = .ok (.getfield 9, 3) := by decide +kernel
theorem d_Lor_addOrder_15 : decode b_Lor_addOrder 15 = .ok (.arraylength, 1) := by decide +kernel
theorem d_Lor_addOrder_16 : decode b_Lor_addOrder 16 = .ok (.if_icmp .ge 23, 3) := by decide +kernel
theorem d_Lor_addOrder_19 : decode b_Lor_addOrder 19 = .ok (.aload_n 0, 1) := by decide +kernel
theorem d_Lor_addOrder_20 : decode b_Lor_addOrder 20 = .ok (.getfield 9, 3) := by decide +kernel
theorem d_Lor_addOrder_23 : decode b_Lor_addOrder 23 = .ok (.aload_n 0, 1) := by decide +kernel
theorem d_Lor_addOrder_24 : decode b_Lor_addOrder 24 = .ok (.getfield 23, 3) := by decide +kernel
theorem d_Lor_addOrder_27 : decode b_Lor_addOrder 27 = .ok (.iload_n 1, 1) := by decide +kernel
theorem d_Lor_addOrder_28 : decode b_Lor_addOrder 28 = .ok (.iastore, 1) := by decide +kernel
theorem d_Lor_addOrder_29 : decode b_Lor_addOrder 29 = .ok (.aload_n 0, 1) := by decide +kernel
theorem d_Lor_addOrder_30 : decode b_Lor_addOrder 30 = .ok (.dup, 1) := by decide +kernel
theorem d_Lor_addOrder_31 : decode b_Lor_addOrder 31 = .ok (.getfield 23, 3) := by decide +kernel
theorem d_Lor_addOrder_34 : decode b_Lor_addOrder 34 = .ok (.iconst 1, 1) := by decide +kernel
theorem d_Lor_addOrder_35 : decode b_Lor_addOrder 35 = .ok (.iadd, 1) := by decide +kernel
theorem d_Lor_addOrder_36 : decode b_Lor_addOrder 36 = .ok (.putfield 23, 3) := by decide +kernel
theorem d_Lor_addOrder_39 : decode b_Lor_addOrder 39 = .ok (.return_, 1) := by decide +kernel
theorem d_Lor_firstOrder_0 : decode b_Lor_firstOrder 0 = .ok (.aload_n 0, 1) := by decide +kernel
theorem d_Lor_firstOrder_1 : decode b_Lor_firstOrder 1 = .ok (.getfield 23, 3) := by decide +kernel
theorem d_Lor_firstOrder_4 : decode b_Lor_firstOrder 4 = .ok (.ifCond .le 20, 3) := by decide +kernel
theorem d_Lor_firstOrder_7 : decode b_Lor_firstOrder 7 = .ok (.aload_n 0, 1) := by decide +kernel
theorem d_Lor_firstOrder_8 : decode b_Lor_firstOrder 8 = .ok (.getfield 9, 3) := by decide +kernel
theorem d_Lor_firstOrder_11 : decode b_Lor_firstOrder 11 = .ok (.arraylength, 1) := by decide +kernel
theorem d_Lor_firstOrder_12 : decode b_Lor_firstOrder 12 = .ok (.ifCond .le 12, 3) := by decide +kernel
theorem d_Lor_firstOrder_15 : decode b_Lor_firstOrder 15 = .ok (.aload_n 0, 1) := by decide +kernel
theorem d_Lor_firstOrder_16 : decode b_Lor_firstOrder 16 = .ok (.getfield 9, 3) := by decide +kernel
theorem d_Lor_firstOrder_19 : decode b_Lor_firstOrder 19 = .ok (.iconst 0, 1) := by decide +kernel
theorem d_Lor_firstOrder_20 : decode b_Lor_firstOrder 20 = .ok (.iaload, 1) := by decide +kernel
theorem d_Lor_firstOrder_21 : decode b_Lor_firstOrder 21 = .ok (.goto 4, 3) := by decide +kernel
theorem d_Lor_firstOrder_24 : decode b_Lor_firstOrder 24 = .ok (.iconst (-1), 1) := by decide +kernel
theorem d_Lor_firstOrder_25 : decode b_Lor_firstOrder 25 = .ok (.ireturn, 1) := by decide +kernel
theorem d_Lor_dropFirstOrder_0 : decode b_Lor_dropFirstOrder 0 = .ok (.iconst 1, 1) := by decide +kernel
theorem d_Lor_dropFirstOrder_1 : decode b_Lor_dropFirstOrder 1 = .ok (.istore_n 1, 1) := by decide +kernel
theorem d_Lor_dropFirstOrder_2 : decode b_Lor_dropFirstOrder 2 = .ok (.iload_n 1, 1) := by decide +kernel
theorem d_Lor_dropFirstOrder_3 : decode b_Lor_dropFirstOrder 3 = .ok (.aload_n 0, 1) := by decide +kernel
theorem d_Lor_dropFirstOrder_4 : decode b_Lor_dropFirstOrder 4 = .ok (.getfield 9, 3) := by decide +kernel
theorem d_Lor_dropFirstOrder_7 : decode b_Lor_dropFirstOrder 7 = .ok (.arraylength, 1) := by decide +kernel
theorem d_Lor_dropFirstOrder_8 : decode b_Lor_dropFirstOrder 8 = .ok (.if_icmp .ge 23, 3) := by decide +kernel
theorem d_Lor_dropFirstOrder_11 : decode b_Lor_dropFirstOrder 11 = .ok (.aload_n 0, 1) := by decide +kernel
theorem d_Lor_dropFirstOrder_12 : decode b_Lor_dropFirstOrder 12 = .ok (.getfield 9, 3) := by decide +kernel
theorem d_Lor_dropFirstOrder_15 : decode b_Lor_dropFirstOrder 15 = .ok (.iload_n 1, 1) := by decide +kernel
theorem d_Lor_dropFirstOrder_16 : decode b_Lor_dropFirstOrder 16 = .ok (.iconst 1, 1) := by decide +kernel
theorem d_Lor_dropFirstOrder_17 : decode b_Lor_dropFirstOrder 17 = .ok (.isub, 1) := by decide +kernel
theorem d_Lor_dropFirstOrder_18 : decode b_Lor_dropFirstOrder 18 = .ok (.aload_n 0, 1) := by decide +kernel
theorem d_Lor_dropFirstOrder_19 : decode b_Lor_dropFirstOrder 19 = .ok (.getfield 9, 3) := by decide +kernel
theorem d_Lor_dropFirstOrder_22 : decode b_Lor_dropFirstOrder 22 = .ok (.iload_n 1, 1) := by decide +kernel
theorem d_Lor_dropFirstOrder_23 : decode b_Lor_dropFirstOrder 23 = .ok (.iaload, 1) := by decide +kernel
theorem d_Lor_dropFirstOrder_24 : decode b_Lor_dropFirstOrder 24 = .ok (.iastore, 1) := by decide +kernel
theorem d_Lor_dropFirstOrder_25 : decode b_Lor_dropFirstOrder 25 = .ok (.iinc 1 1, 3) := by decide +kernel
theorem d_Lor_dropFirstOrder_28 : decode b_Lor_dropFirstOrder 28 = .ok (.goto (-26), 3) := by decide +kernel
theorem d_Lor_dropFirstOrder_31 : decode b_Lor_dropFirstOrder 31 = .ok (.aload_n 0, 1) := by decide +kernel
theorem d_Lor_dropFirstOrder_32 : decode b_Lor_dropFirstOrder 32 = .ok (.iconst 0, 1) := by decide +kernel
theorem d_Lor_dropFirstOrder_33 : decode b_Lor_dropFirstOrder 33 = .ok (.aload_n 0, 1) := by decide +kernel
theorem d_Lor_dropFirstOrder_34 : decode b_Lor_dropFirstOrder 34 = .ok (.getfield 23, 3) := by decide +kernel
theorem d_Lor_dropFirstOrder_37 : decode b_Lor_dropFirstOrder 37 = .ok (.iconst 1, 1) := by decide +kernel
theorem d_Lor_dropFirstOrder_38 : decode b_Lor_dropFirstOrder 38 = .ok (.isub, 1) := by decide +kernel
theorem d_Lor_dropFirstOrder_39 : decode b_Lor_dropFirstOrder 39 = .ok (.invokestatic 26, 3) := by decide +kernel
theorem d_Lor_dropFirstOrder_42 : decode b_Lor_dropFirstOrder 42 = .ok (.putfield 23, 3) := by decide +kernel
theorem d_Lor_dropFirstOrder_45 : decode b_Lor_dropFirstOrder 45 = .ok (.return_, 1) := by decide +kernel
theorem d_Lor_arrive_0 : decode b_Lor_arrive 0 = .ok (.aload_n 0, 1) := by decide +kernel
theorem d_Lor_arrive_1 : decode b_Lor_arrive 1 = .ok (.aload_n 0, 1) := by decide +kernel
theorem d_Lor_arrive_2 : decode b_Lor_arrive 2 = .ok (.getfield 32, 3) := by decide +kernel
theorem d_Lor_arrive_5 : decode b_Lor_arrive 5 = .ok (.putfield 35, 3) := by decide +kernel
theorem d_Lor_arrive_8 : decode b_Lor_arrive 8 = .ok (.aload_n 0, 1) := by decide +kernel
theorem d_Lor_arrive_9 : decode b_Lor_arrive 9 = .ok (.iconst 0, 1) := by decide +kernel
theorem d_Lor_arrive_10 : decode b_Lor_arrive 10 = .ok (.putfield 38, 3) := by decide +kernel
theorem d_Lor_arrive_13 : decode b_Lor_arrive 13 = .ok (.aload_n 0, 1) := by decide +kernel
theorem d_Lor_arrive_14 : decode b_Lor_arrive 14 = .ok (.invokevirtual 41, 3) := by decide +kernel
theorem d_Lor_arrive_17 : decode b_Lor_arrive 17 = .ok (.return_, 1) := by decide +kernel
theorem d_Lor_fact_0 : decode b_Lor_fact 0 = .ok (.iload_n 1, 1) := by decide +kernel
theorem d_Lor_fact_1 : decode b_Lor_fact 1 = .ok (.tableswitch 107 0 7 #[47, 52, 69, 74, 79, 84, 97, 102], 47) := by decide +kernel
theorem d_Lor_fact_48 : decode b_Lor_fact 48 = .ok (.aload_n 0, 1) := by decide +kernel
theorem d_Lor_fact_49 : decode b_Lor_fact 49 = .ok (.getfield 35, 3) := by decide +kernel
theorem d_Lor_fact_52 : decode b_Lor_fact 52 = .ok (.ireturn, 1) := by decide +kernel
theorem d_Lor_fact_53 : decode b_Lor_fact 53 = .ok (.aload_n 0, 1) := by decide +kernel
theorem d_Lor_fact_54 : decode b_Lor_fact 54 = .ok (.getfield 35, 3) := by decide +kernel
theorem d_Lor_fact_57 : decode b_Lor_fact 57 = .ok (.iconst (-1), 1) := by decide +kernel
theorem d_Lor_fact_58 : decode b_Lor_fact 58 = .ok (.if_icmp .ne 10, 3) := by decide +kernel
theorem d_Lor_fact_61 : decode b_Lor_fact 61 = .ok (.aload_n 0, 1) := by decide +kernel
theorem d_Lor_fact_62 : decode b_Lor_fact 62 = .ok (.invokevirtual 44, 3) := by decide +kernel
theorem d_Lor_fact_65 : decode b_Lor_fact 65 = .ok (.goto 4, 3) := by decide +kernel
theorem d_Lor_fact_68 : decode b_Lor_fact 68 = .ok (.iconst (-1), 1) := by decide +kernel
theorem d_Lor_fact_69 : decode b_Lor_fact 69 = .ok (.ireturn, 1) := by decide +kernel
theorem d_Lor_fact_70 : decode b_Lor_fact 70 = .ok (.aload_n 0, 1) := by decide +kernel
theorem d_Lor_fact_71 : decode b_Lor_fact 71 = .ok (.getfield 38, 3) := by decide +kernel
theorem d_Lor_fact_74 : decode b_Lor_fact 74 = .ok (.ireturn, 1) := by decide +kernel
theorem d_Lor_fact_75 : decode b_Lor_fact 75 = .ok (.aload_n 0, 1) := by decide +kernel
theorem d_Lor_fact_76 : decode b_Lor_fact 76 = .ok (.getfield 48, 3) := by decide +kernel
theorem d_Lor_fact_79 : decode b_Lor_fact 79 = .ok (.ireturn, 1) := by decide +kernel
theorem d_Lor_fact_80 : decode b_Lor_fact 80 = .ok (.aload_n 0, 1) := by decide +kernel
theorem d_Lor_fact_81 : decode b_Lor_fact 81 = .ok (.getfield 15, 3) := by decide +kernel
theorem d_Lor_fact_84 : decode b_Lor_fact 84 = .ok (.ireturn, 1) := by decide +kernel
theorem d_Lor_fact_85 : decode b_Lor_fact 85 = .ok (.aload_n 0, 1) := by decide +kernel
theorem d_Lor_fact_86 : decode b_Lor_fact 86 = .ok (.getfield 19, 3) := by decide +kernel
theorem d_Lor_fact_89 : decode b_Lor_fact 89 = .ok (.ifCond .eq 7, 3) := by decide +kernel
theorem d_Lor_fact_92 : decode b_Lor_fact 92 = .ok (.iconst 1, 1) := by decide +kernel
theorem d_Lor_fact_93 : decode b_Lor_fact 93 = .ok (.goto 4, 3) := by decide +kernel
theorem d_Lor_fact_96 : decode b_Lor_fact 96 = .ok (.iconst 0, 1) := by decide +kernel
theorem d_Lor_fact_97 : decode b_Lor_fact 97 = .ok (.ireturn, 1) := by decide +kernel
theorem d_Lor_fact_98 : decode b_Lor_fact 98 = .ok (.aload_n 0, 1) := by decide +kernel
theorem d_Lor_fact_99 : decode b_Lor_fact 99 = .ok (.getfield 51, 3) := by decide +kernel
theorem d_Lor_fact_102 : decode b_Lor_fact 102 = .ok (.ireturn, 1) := by decide +kernel
theorem d_Lor_fact_103 : decode b_Lor_fact 103 = .ok (.aload_n 0, 1) := by decide +kernel
theorem d_Lor_fact_104 : decode b_Lor_fact 104 = .ok (.getfield 23, 3) := by decide +kernel
theorem d_Lor_fact_107 : decode b_Lor_fact 107 = .ok (.ireturn, 1) := by decide +kernel
theorem d_Lor_fact_108 : decode b_Lor_fact 108 = .ok (.aload_n 0, 1) := by decide +kernel
theorem d_Lor_fact_109 : decode b_Lor_fact 109 = .ok (.getfield 54, 3) := by decide +kernel
theorem d_Lor_fact_112 : decode b_Lor_fact 112 = .ok (.ireturn, 1) := by decide +kernel
theorem d_Road_init_0 : decode b_Road_init 0 = .ok (.aload_n 0, 1) := by decide +kernel
theorem d_Road_init_1 : decode b_Road_init 1 = .ok (.invokespecial 3, 3) := by decide +kernel
theorem d_Road_init_4 : decode b_Road_init 4 = .ok (.aload_n 0, 1) := by decide +kernel
theorem d_Road_init_5 : decode b_Road_init 5 = .ok (.new 9, 3) := by decide +kernel
theorem d_Road_init_8 : decode b_Road_init 8 = .ok (.dup, 1) := by decide +kernel
theorem d_Road_init_9 : decode b_Road_init 9 = .ok (.invokespecial 11, 3) := by decide +kernel
theorem d_Road_init_12 : decode b_Road_init 12 = .ok (.putfield 12, 3) := by decide +kernel
theorem d_Road_init_15 : decode b_Road_init 15 = .ok (.aload_n 0, 1) := by decide +kernel
theorem d_Road_init_16 : decode b_Road_init 16 = .ok (.sipush 200, 3) := by decide +kernel
theorem d_Road_init_19 : decode b_Road_init 19 = .ok (.newarray .boolean, 2) := by decide +kernel
theorem d_Road_init_21 : decode b_Road_init 21 = .ok (.putfield 18, 3) := by decide +kernel
theorem d_Road_init_24 : decode b_Road_init 24 = .ok (.aload_n 0, 1) := by decide +kernel
theorem d_Road_init_25 : decode b_Road_init 25 = .ok (.sipush 200, 3) := by decide +kernel
theorem d_Road_init_28 : decode b_Road_init 28 = .ok (.newarray .boolean, 2) := by decide +kernel
theorem d_Road_init_30 : decode b_Road_init 30 = .ok (.putfield 22, 3) := by decide +kernel
theorem d_Road_init_33 : decode b_Road_init 33 = .ok (.aload_n 0, 1) := by decide +kernel
theorem d_Road_init_34 : decode b_Road_init 34 = .ok (.iconst (-1), 1) := by decide +kernel
theorem d_Road_init_35 : decode b_Road_init 35 = .ok (.putfield 25, 3) := by decide +kernel
theorem d_Road_init_38 : decode b_Road_init 38 = .ok (.aload_n 0, 1) := by decide +kernel
theorem d_Road_init_39 : decode b_Road_init 39 = .ok (.iload_n 1, 1) := by decide +kernel
theorem d_Road_init_40 : decode b_Road_init 40 = .ok (.putfield 29, 3) := by decide +kernel
theorem d_Road_init_43 : decode b_Road_init 43 = .ok (.aload_n 0, 1) := by decide +kernel
theorem d_Road_init_44 : decode b_Road_init 44 = .ok (.iload_n 2, 1) := by decide +kernel
theorem d_Road_init_45 : decode b_Road_init 45 = .ok (.putfield 32, 3) := by decide +kernel
theorem d_Road_init_48 : decode b_Road_init 48 = .ok (.aload_n 0, 1) := by decide +kernel
theorem d_Road_init_49 : decode b_Road_init 49 = .ok (.iload_n 3, 1) := by decide +kernel
theorem d_Road_init_50 : decode b_Road_init 50 = .ok (.putfield 35, 3) := by decide +kernel
theorem d_Road_init_53 : decode b_Road_init 53 = .ok (.aload_n 0, 1) := by decide +kernel
theorem d_Road_init_54 : decode b_Road_init 54 = .ok (.iload 4, 2) := by decide +kernel
theorem d_Road_init_56 : decode b_Road_init 56 = .ok (.putfield 38, 3) := by decide +kernel
theorem d_Road_init_59 : decode b_Road_init 59 = .ok (.aload_n 0, 1) := by decide +kernel
theorem d_Road_init_60 : decode b_Road_init 60 = .ok (.iload 5, 2) := by decide +kernel
theorem d_Road_init_62 : decode b_Road_init 62 = .ok (.putfield 41, 3) := by decide +kernel
theorem d_Road_init_65 : decode b_Road_init 65 = .ok (.aload_n 0, 1) := by decide +kernel
theorem d_Road_init_66 : decode b_Road_init 66 = .ok (.iload 6, 2) := by decide +kernel
theorem d_Road_init_68 : decode b_Road_init 68 = .ok (.putfield 44, 3) := by decide +kernel
theorem d_Road_init_71 : decode b_Road_init 71 = .ok (.aload_n 0, 1) := by decide +kernel
theorem d_Road_init_72 : decode b_Road_init 72 = .ok (.iload 7, 2) := by decide +kernel
theorem d_Road_init_74 : decode b_Road_init 74 = .ok (.putfield 47, 3) := by decide +kernel
theorem d_Road_init_77 : decode b_Road_init 77 = .ok (.return_, 1) := by decide +kernel
theorem d_Road_goal_0 : decode b_Road_goal 0 = .ok (.iload_n 1, 1) := by decide +kernel
theorem d_Road_goal_1 : decode b_Road_goal 1 = .ok (.aload_n 0, 1) := by decide +kernel
theorem d_Road_goal_2 : decode b_Road_goal 2 = .ok (.getfield 41, 3) := by decide +kernel
theorem d_Road_goal_5 : decode b_Road_goal 5 = .ok (.iconst 3, 1) := by decide +kernel
theorem d_Road_goal_6 : decode b_Road_goal 6 = .ok (.idiv, 1) := by decide +kernel
theorem d_Road_goal_7 : decode b_Road_goal 7 = .ok (.isub, 1) := by decide +kernel
theorem d_Road_goal_8 : decode b_Road_goal 8 = .ok (.aload_n 0, 1) := by decide +kernel
theorem d_Road_goal_9 : decode b_Road_goal 9 = .ok (.getfield 44, 3) := by decide +kernel
theorem d_Road_goal_12 : decode b_Road_goal 12 = .ok (.isub, 1) := by decide +kernel
theorem d_Road_goal_13 : decode b_Road_goal 13 = .ok (.iload_n 2, 1) := by decide +kernel
theorem d_Road_goal_14 : decode b_Road_goal 14 = .ok (.ifCond .eq 7, 3) := by decide +kernel
theorem d_Road_goal_17 : decode b_Road_goal 17 = .ok (.iconst 2, 1) := by decide +kernel
theorem d_Road_goal_18 : decode b_Road_goal 18 = .ok (.goto 4, 3) := by decide +kernel
theorem d_Road_goal_21 : decode b_Road_goal 21 = .ok (.iconst 0, 1) := by decide +kernel
theorem d_Road_goal_22 : decode b_Road_goal 22 = .ok (.isub, 1) := by decide +kernel
theorem d_Road_goal_23 : decode b_Road_goal 23 = .ok (.ireturn, 1) := by decide +kernel
theorem d_Road_notice_0 : decode b_Road_notice 0 = .ok (.aload_n 0, 1) := by decide +kernel
theorem d_Road_notice_1 : decode b_Road_notice 1 = .ok (.getfield 38, 3) := by decide +kernel
theorem d_Road_notice_4 : decode b_Road_notice 4 = .ok (.ifCond .ne 7, 3) := by decide +kernel
theorem d_Road_notice_7 : decode b_Road_notice 7 = .ok (.iconst 4, 1) := by decide +kernel
theorem d_Road_notice_8 : decode b_Road_notice 8 = .ok (.goto 18, 3) := by decide +kernel
theorem d_Road_notice_11 : decode b_Road_notice 11 = .ok (.aload_n 0, 1) := by decide +kernel
theorem d_Road_notice_12 : decode b_Road_notice 12 = .ok (.getfield 38, 3) := by decide +kernel
theorem d_Road_notice_15 : decode b_Road_notice 15 = .ok (.iconst 1, 1) := by decide +kernel
theorem d_Road_notice_16 : decode b_Road_notice 16 = .ok (.if_icmp .ne 8, 3) := by decide +kernel
theorem d_Road_notice_19 : decode b_Road_notice 19 = .ok (.bipush 8, 2) := by decide +kernel
theorem d_Road_notice_21 : decode b_Road_notice 21 = .ok (.goto 5, 3) := by decide +kernel
theorem d_Road_notice_24 : decode b_Road_notice 24 = .ok (.bipush 16, 2) := by decide +kernel
theorem d_Road_notice_26 : decode b_Road_notice 26 = .ok (.ireturn, 1) := by decide +kernel
theorem d_Road_joins_0 : decode b_Road_joins 0 = .ok (.iload_n 1, 1) := by decide +kernel
theorem d_Road_joins_1 : decode b_Road_joins 1 = .ok (.aload_n 0, 1) := by decide +kernel
theorem d_Road_joins_2 : decode b_Road_joins 2 = .ok (.getfield 29, 3) := by decide +kernel
theorem d_Road_joins_5 : decode b_Road_joins 5 = .ok (.if_icmp .eq 11, 3) := by decide +kernel
theorem d_Road_joins_8 : decode b_Road_joins 8 = .ok (.iload_n 1, 1) := by decide +kernel
theorem d_Road_joins_9 : decode b_Road_joins 9 = .ok (.aload_n 0, 1) := by decide +kernel
theorem d_Road_joins_10 : decode b_Road_joins 10 = .ok (.getfield 32, 3) := by decide +kernel
theorem d_Road_joins_13 : decode b_Road_joins 13 = .ok (.if_icmp .ne 7, 3) := by decide +kernel
theorem d_Road_joins_16 : decode b_Road_joins 16 = .ok (.iconst 1, 1) := by decide +kernel
theorem d_Road_joins_17 : decode b_Road_joins 17 = .ok (.goto 4, 3) := by decide +kernel
theorem d_Road_joins_20 : decode b_Road_joins 20 = .ok (.iconst 0, 1) := by decide +kernel
theorem d_Road_joins_21 : decode b_Road_joins 21 = .ok (.ireturn, 1) := by decide +kernel
theorem d_Road_otherEnd_0 : decode b_Road_otherEnd 0 = .ok (.iload_n 1, 1) := by decide +kernel
theorem d_Road_otherEnd_1 : decode b_Road_otherEnd 1 = .ok (.aload_n 0, 1) := by decide +kernel
theorem d_Road_otherEnd_2 : decode b_Road_otherEnd 2 = .ok (.getfield 29, 3) := by decide +kernel
theorem d_Road_otherEnd_5 : decode b_Road_otherEnd 5 = .ok (.if_icmp .ne 10, 3) := by decide +kernel
theorem d_Road_otherEnd_8 : decode b_Road_otherEnd 8 = .ok (.aload_n 0, 1) := by decide +kernel
theorem d_Road_otherEnd_9 : decode b_Road_otherEnd 9 = .ok (.getfield 32, 3) := by decide +kernel
theorem d_Road_otherEnd_12 : decode b_Road_otherEnd 12 = .ok (.goto 7, 3) := by decide +kernel
theorem d_Road_otherEnd_15 : decode b_Road_otherEnd 15 = .ok (.aload_n 0, 1) := by decide +kernel
theorem d_Road_otherEnd_16 : decode b_Road_otherEnd 16 = .ok (.getfield 29, 3) := by decide +kernel
theorem d_Road_otherEnd_19 : decode b_Road_otherEnd 19 = .ok (.ireturn, 1) := by decide +kernel
theorem d_Road_weatherQuarter_0 : decode b_Road_weatherQuarter 0 = .ok (.aload_n 1, 1) := by decide +kernel
theorem d_Road_weatherQuarter_1 : decode b_Road_weatherQuarter 1 = .ok (.aload_n 0, 1) := by decide +kernel
theorem d_Road_weatherQuarter_2 : decode b_Road_weatherQuarter 2 = .ok (.aload_n 2, 1) := by decide +kernel
theorem d_Road_weatherQuarter_3 : decode b_Road_weatherQuarter 3 = .ok (.getfield 51, 3) := by decide +kernel
theorem d_Road_weatherQuarter_6 : decode b_Road_weatherQuarter 6 = .ok (.aload_n 2, 1) := by decide +kernel
theorem d_Road_weatherQuarter_7 : decode b_Road_weatherQuarter 7 = .ok (.getfield 56, 3) := by decide +kernel
theorem d_Road_weatherQuarter_10 : decode b_Road_weatherQuarter 10 = .ok (.invokevirtual 59, 3) := by decide +kernel
theorem d_Road_weatherQuarter_13 : decode b_Road_weatherQuarter 13 = .ok (.aload_n 0, 1) := by decide +kernel
theorem d_Road_weatherQuarter_14 : decode b_Road_weatherQuarter 14 = .ok (.getfield 47, 3) := by decide +kernel
theorem d_Road_weatherQuarter_17 : decode b_Road_weatherQuarter 17 = .ok (.ifCond .eq 7, 3) := by decide +kernel
theorem d_Road_weatherQuarter_20 : decode b_Road_weatherQuarter 20 = .ok (.iconst 2, 1) := by decide +kernel
theorem d_Road_weatherQuarter_21 : decode b_Road_weatherQuarter 21 = .ok (.goto 4, 3) := by decide +kernel
theorem d_Road_weatherQuarter_24 : decode b_Road_weatherQuarter 24 = .ok (.iconst 1, 1) := by decide +kernel
theorem d_Road_weatherQuarter_25 : decode b_Road_weatherQuarter 25 = .ok (.invokevirtual 63, 3) := by decide +kernel
theorem d_Road_weatherQuarter_28 : decode b_Road_weatherQuarter 28 = .ok (.aload_n 1, 1) := by decide +kernel
theorem d_Road_weatherQuarter_29 : decode b_Road_weatherQuarter 29 = .ok (.dup, 1) := by decide +kernel
theorem d_Road_weatherQuarter_30 : decode b_Road_weatherQuarter 30 = .ok (.getfield 67, 3) := by decide +kernel
theorem d_Road_weatherQuarter_33 : decode b_Road_weatherQuarter 33 = .ok (.aload_n 2, 1) := by decide +kernel
theorem d_Road_weatherQuarter_34 : decode b_Road_weatherQuarter 34 = .ok (.getfield 70, 3) := by decide +kernel
theorem d_Road_weatherQuarter_37 : decode b_Road_weatherQuarter 37 = .ok (.iadd, 1) := by decide +kernel
theorem d_Road_weatherQuarter_38 : decode b_Road_weatherQuarter 38 = .ok (.putfield 67, 3) := by decide +kernel
theorem d_Road_weatherQuarter_41 : decode b_Road_weatherQuarter 41 = .ok (.aload_n 1, 1) := by decide +kernel
theorem d_Road_weatherQuarter_42 : decode b_Road_weatherQuarter 42 = .ok (.dup, 1) := by decide +kernel
theorem d_Road_weatherQuarter_43 : decode b_Road_weatherQuarter 43 = .ok (.getfield 73, 3) := by decide +kernel
theorem d_Road_weatherQuarter_46 : decode b_Road_weatherQuarter 46 = .ok (.aload_n 2, 1) := by decide +kernel
theorem d_Road_weatherQuarter_47 : decode b_Road_weatherQuarter 47 = .ok (.getfield 76, 3) := by decide +kernel
theorem d_Road_weatherQuarter_50 : decode b_Road_weatherQuarter 50 = .ok (.iadd, 1) := by decide +kernel
theorem d_Road_weatherQuarter_51 : decode b_Road_weatherQuarter 51 = .ok (.putfield 73, 3) := by decide +kernel
theorem d_Road_weatherQuarter_54 : decode b_Road_weatherQuarter 54 = .ok (.aload_n 1, 1) := by decide +kernel
theorem d_Road_weatherQuarter_55 : decode b_Road_weatherQuarter 55 = .ok (.invokevirtual 79, 3) := by decide +kernel
theorem d_Road_weatherQuarter_58 : decode b_Road_weatherQuarter 58 = .ok (.aload_n 1, 1) := by decide +kernel
theorem d_Road_weatherQuarter_59 : decode b_Road_weatherQuarter 59 = .ok (.invokevirtual 82, 3) := by decide +kernel
theorem d_Road_weatherQuarter_62 : decode b_Road_weatherQuarter 62 = .ok (.aload_n 0, 1) := by decide +kernel
theorem d_Road_weatherQuarter_63 : decode b_Road_weatherQuarter 63 = .ok (.getfield 38, 3) := by decide +kernel
theorem d_Road_weatherQuarter_66 : decode b_Road_weatherQuarter 66 = .ok (.ifCond .ne 15, 3) := by decide +kernel
theorem d_Road_weatherQuarter_69 : decode b_Road_weatherQuarter 69 = .ok (.aload_n 1, 1) := by decide +kernel
theorem d_Road_weatherQuarter_70 : decode b_Road_weatherQuarter 70 = .ok (.getfield 67, 3) := by decide +kernel
theorem d_Road_weatherQuarter_73 : decode b_Road_weatherQuarter 73 = .ok (.ifCond .le 8, 3) := by decide +kernel
theorem d_Road_weatherQuarter_76 : decode b_Road_weatherQuarter 76 = .ok (.aload_n 1, 1) := by decide +kernel
theorem d_Road_weatherQuarter_77 : decode b_Road_weatherQuarter 77 = .ok (.iconst 1, 1) := by decide +kernel
theorem d_Road_weatherQuarter_78 : decode b_Road_weatherQuarter 78 = .ok (.invokevirtual 85, 3) := by decide +kernel
theorem d_Road_weatherQuarter_81 : decode b_Road_weatherQuarter 81 = .ok (.aload_n 2, 1) := by decide +kernel
theorem d_Road_weatherQuarter_82 : decode b_Road_weatherQuarter 82 = .ok (.getfield 89, 3) := by decide +kernel
theorem d_Road_weatherQuarter_85 : decode b_Road_weatherQuarter 85 = .ok (.iconst 2, 1) := by decide +kernel
theorem d_Road_weatherQuarter_86 : decode b_Road_weatherQuarter 86 = .ok (.if_icmp .lt 15, 3) := by decide +kernel
theorem d_Road_weatherQuarter_89 : decode b_Road_weatherQuarter 89 = .ok (.aload_n 1, 1) := by decide +kernel
theorem d_Road_weatherQuarter_90 : decode b_Road_weatherQuarter 90 = .ok (.getfield 67, 3) := by decide +kernel
theorem d_Road_weatherQuarter_93 : decode b_Road_weatherQuarter 93 = .ok (.ifCond .ne 8, 3) := by decide +kernel
theorem d_Road_weatherQuarter_96 : decode b_Road_weatherQuarter 96 = .ok (.aload_n 1, 1) := by decide +kernel
theorem d_Road_weatherQuarter_97 : decode b_Road_weatherQuarter 97 = .ok (.iconst 2, 1) := by decide +kernel
theorem d_Road_weatherQuarter_98 : decode b_Road_weatherQuarter 98 = .ok (.invokevirtual 85, 3) := by decide +kernel
theorem d_Road_weatherQuarter_101 : decode b_Road_weatherQuarter 101 = .ok (.return_, 1) := by decide +kernel
theorem d_Road_noteSlippery_0 : decode b_Road_noteSlippery 0 = .ok (.aload_n 0, 1) := by decide +kernel
theorem d_Road_noteSlippery_1 : decode b_Road_noteSlippery 1 = .ok (.getfield 12, 3) := by decide +kernel
theorem d_Road_noteSlippery_4 : decode b_Road_noteSlippery 4 = .ok (.invokevirtual 92, 3) := by decide +kernel
theorem d_Road_noteSlippery_7 : decode b_Road_noteSlippery 7 = .ok (.ifCond .eq 33, 3) := by decide +kernel
theorem d_Road_noteSlippery_10 : decode b_Road_noteSlippery 10 = .ok (.iload_n 1, 1) := by decide +kernel
theorem d_Road_noteSlippery_11 : decode b_Road_noteSlippery 11 = .ok (.ifCond .lt 29, 3) := by decide +kernel
theorem d_Road_noteSlippery_14 : decode b_Road_noteSlippery 14 = .ok (.iload_n 1, 1) := by decide +kernel
theorem d_Road_noteSlippery_15 : decode b_Road_noteSlippery 15 = .ok (.aload_n 0, 1) := by decide +kernel
theorem d_Road_noteSlippery_16 : decode b_Road_noteSlippery 16 = .ok (.getfield 18, 3) := by decide +kernel
theorem d_Road_noteSlippery_19 : decode b_Road_noteSlippery 19 = .ok (.arraylength, 1) := by decide +kernel
theorem d_Road_noteSlippery_20 : decode b_Road_noteSlippery 20 = .ok (.if_icmp .ge 20, 3) := by decide +kernel
theorem d_Road_noteSlippery_23 : decode b_Road_noteSlippery 23 = .ok (.aload_n 0, 1) := by decide +kernel
theorem d_Road_noteSlippery_24 : decode b_Road_noteSlippery 24 = .ok (.getfield 18, 3) := by decide +kernel
theorem d_Road_noteSlippery_27 : decode b_Road_noteSlippery 27 = .ok (.iload_n 1, 1) := by decide +kernel
theorem d_Road_noteSlippery_28 : decode b_Road_noteSlippery 28 = .ok (.iconst 1, 1) := by decide +kernel
theorem d_Road_noteSlippery_29 : decode b_Road_noteSlippery 29 = .ok (.bastore, 1) := by decide +kernel
theorem d_Road_noteSlippery_30 : decode b_Road_noteSlippery 30 = .ok (.aload_n 0, 1) := by decide +kernel
theorem d_Road_noteSlippery_31 : decode b_Road_noteSlippery 31 = .ok (.dup, 1) := by decide +kernel
theorem d_Road_noteSlippery_32 : decode b_Road_noteSlippery 32 = .ok (.getfield 96, 3) := by decide +kernel
theorem d_Road_noteSlippery_35 : decode b_Road_noteSlippery 35 = .ok (.iconst 1, 1) := by decide +kernel
theorem d_Road_noteSlippery_36 : decode b_Road_noteSlippery 36 = .ok (.iadd, 1) := by decide +kernel
theorem d_Road_noteSlippery_37 : decode b_Road_noteSlippery 37 = .ok (.putfield 96, 3) := by decide +kernel
theorem d_Road_noteSlippery_40 : decode b_Road_noteSlippery 40 = .ok (.return_, 1) := by decide +kernel
theorem d_Road_noteTreated_0 : decode b_Road_noteTreated 0 = .ok (.iload_n 1, 1) := by decide +kernel
theorem d_Road_noteTreated_1 : decode b_Road_noteTreated 1 = .ok (.ifCond .lt 24, 3) := by decide +kernel
theorem d_Road_noteTreated_4 : decode b_Road_noteTreated 4 = .ok (.iload_n 1, 1) := by decide +kernel
theorem d_Road_noteTreated_5 : decode b_Road_noteTreated 5 = .ok (.aload_n 0, 1) := by decide +kernel
theorem d_Road_noteTreated_6 : decode b_Road_noteTreated 6 = .ok (.getfield 22, 3) := by decide +kernel
theorem d_Road_noteTreated_9 : decode b_Road_noteTreated 9 = .ok (.arraylength, 1) := by decide +kernel
theorem d_Road_noteTreated_10 : decode b_Road_noteTreated 10 = .ok (.if_icmp .ge 15, 3) := by decide +kernel
theorem d_Road_noteTreated_13 : decode b_Road_noteTreated 13 = .ok (.aload_n 0, 1) := by decide +kernel
theorem d_Road_noteTreated_14 : decode b_Road_noteTreated 14 = .ok (.getfield 22, 3) := by decide +kernel
theorem d_Road_noteTreated_17 : decode b_Road_noteTreated 17 = .ok (.iload_n 1, 1) := by decide +kernel
theorem d_Road_noteTreated_18 : decode b_Road_noteTreated 18 = .ok (.iconst 1, 1) := by decide +kernel
theorem d_Road_noteTreated_19 : decode b_Road_noteTreated 19 = .ok (.bastore, 1) := by decide +kernel
theorem d_Road_noteTreated_20 : decode b_Road_noteTreated 20 = .ok (.aload_n 0, 1) := by decide +kernel
theorem d_Road_noteTreated_21 : decode b_Road_noteTreated 21 = .ok (.iload_n 1, 1) := by decide +kernel
theorem d_Road_noteTreated_22 : decode b_Road_noteTreated 22 = .ok (.putfield 25, 3) := by decide +kernel
theorem d_Road_noteTreated_25 : decode b_Road_noteTreated 25 = .ok (.return_, 1) := by decide +kernel
theorem d_Road_wasSlippery_0 : decode b_Road_wasSlippery 0 = .ok (.iload_n 1, 1) := by decide +kernel
theorem d_Road_wasSlippery_1 : decode b_Road_wasSlippery 1 = .ok (.ifCond .lt 25, 3) := by decide +kernel
theorem d_Road_wasSlippery_4 : decode b_Road_wasSlippery 4 = .ok (.iload_n 1, 1) := by decide +kernel
theorem d_Road_wasSlippery_5 : decode b_Road_wasSlippery 5 = .ok (.aload_n 0, 1) := by decide +kernel
theorem d_Road_wasSlippery_6 : decode b_Road_wasSlippery 6 = .ok (.getfield 18, 3) := by decide +kernel
theorem d_Road_wasSlippery_9 : decode b_Road_wasSlippery 9 = .ok (.arraylength, 1) := by decide +kernel
theorem d_Road_wasSlippery_10 : decode b_Road_wasSlippery 10 = .ok (.if_icmp .ge 16, 3) := by decide +kernel
theorem d_Road_wasSlippery_13 : decode b_Road_wasSlippery 13 = .ok (.aload_n 0, 1) := by decide +kernel
theorem d_Road_wasSlippery_14 : decode b_Road_wasSlippery 14 = .ok (.getfield 18, 3) := by decide +kernel
theorem d_Road_wasSlippery_17 : decode b_Road_wasSlippery 17 = .ok (.iload_n 1, 1) := by decide +kernel
theorem d_Road_wasSlippery_18 : decode b_Road_wasSlippery 18 = .ok (.baload, 1) := by decide +kernel
theorem d_Road_wasSlippery_19 : decode b_Road_wasSlippery 19 = .ok (.ifCond .eq 7, 3) := by decide +kernel
theorem d_Road_wasSlippery_22 : decode b_Road_wasSlippery 22 = .ok (.iconst 1, 1) := by decide +kernel
theorem d_Road_wasSlippery_23 : decode b_Road_wasSlippery 23 = .ok (.goto 4, 3) := by decide +kernel
theorem d_Road_wasSlippery_26 : decode b_Road_wasSlippery 26 = .ok (.iconst 0, 1) := by decide +kernel
theorem d_Road_wasSlippery_27 : decode b_Road_wasSlippery 27 = .ok (.ireturn, 1) := by decide +kernel
theorem d_Road_wasTreatedWithin_0 : decode b_Road_wasTreatedWithin 0 = .ok (.iload_n 2, 1) := by decide +kernel
theorem d_Road_wasTreatedWithin_1 : decode b_Road_wasTreatedWithin 1 = .ok (.aload_n 0, 1) := by decide +kernel
theorem d_Road_wasTreatedWithin_2 : decode b_Road_wasTreatedWithin 2 = .ok (.getfield 22, 3) := by decide +kernel
theorem d_Road_wasTreatedWithin_5 : decode b_Road_wasTreatedWithin 5 = .ok (.arraylength, 1) := by decide +kernel
theorem d_Road_wasTreatedWithin_6 : decode b_Road_wasTreatedWithin 6 = .ok (.iconst 1, 1) := by decide +kernel
theorem d_Road_wasTreatedWithin_7 : decode b_Road_wasTreatedWithin 7 = .ok (.isub, 1) := by decide +kernel
theorem d_Road_wasTreatedWithin_8 : decode b_Road_wasTreatedWithin 8 = .ok (.invokestatic 99, 3) := by decide +kernel
theorem d_Road_wasTreatedWithin_11 : decode b_Road_wasTreatedWithin 11 = .ok (.istore_n 3, 1) := by decide +kernel
theorem d_Road_wasTreatedWithin_12 : decode b_Road_wasTreatedWithin 12 = .ok (.iload_n 1, 1) := by decide +kernel
theorem d_Road_wasTreatedWithin_13 : decode b_Road_wasTreatedWithin 13 = .ok (.iconst 0, 1) := by decide +kernel
theorem d_Road_wasTreatedWithin_14 : decode b_Road_wasTreatedWithin 14 = .ok (.invokestatic 105, 3) := by decide +kernel
theorem d_Road_wasTreatedWithin_17 : decode b_Road_wasTreatedWithin 17 = .ok (.istore 4, 2) := by decide +kernel
theorem d_Road_wasTreatedWithin_19 : decode b_Road_wasTreatedWithin 19 = .ok (.iload 4, 2) := by decide +kernel
theorem d_Road_wasTreatedWithin_21 : decode b_Road_wasTreatedWithin 21 = .ok (.iload_n 3, 1) := by decide +kernel
theorem d_Road_wasTreatedWithin_22 : decode b_Road_wasTreatedWithin 22 = .ok (.if_icmp .gt 21, 3) := by decide +kernel
theorem d_Road_wasTreatedWithin_25 : decode b_Road_wasTreatedWithin 25 = .ok (.aload_n 0, 1) := by decide +kernel
theorem d_Road_wasTreatedWithin_26 : decode b_Road_wasTreatedWithin 26 = .ok (.getfield 22, 3) := by decide +kernel
theorem d_Road_wasTreatedWithin_29 : decode b_Road_wasTreatedWithin 29 = .ok (.iload 4, 2) := by decide +kernel
theorem d_Road_wasTreatedWithin_31 : decode b_Road_wasTreatedWithin 31 = .ok (.baload, 1) := by decide +kernel
theorem d_Road_wasTreatedWithin_32 : decode b_Road_wasTreatedWithin 32 = .ok (.ifCond .eq 5, 3) := by decide +kernel
theorem d_Road_wasTreatedWithin_35 : decode b_Road_wasTreatedWithin 35 = .ok (.iconst 1, 1) := by decide +kernel
theorem d_Road_wasTreatedWithin_36 : decode b_Road_wasTreatedWithin 36 = .ok (.ireturn, 1) := by decide +kernel
theorem d_Road_wasTreatedWithin_37 : decode b_Road_wasTreatedWithin 37 = .ok (.iinc 4 1, 3) := by decide +kernel
theorem d_Road_wasTreatedWithin_40 : decode b_Road_wasTreatedWithin 40 = .ok (.goto (-21), 3) := by decide +kernel
theorem d_Road_wasTreatedWithin_43 : decode b_Road_wasTreatedWithin 43 = .ok (.iconst 0, 1) := by decide +kernel
theorem d_Road_wasTreatedWithin_44 : decode b_Road_wasTreatedWithin 44 = .ok (.ireturn, 1) := by decide +kernel
theorem d_Road_fact_0 : decode b_Road_fact 0 = .ok (.iload_n 1, 1) := by decide +kernel
theorem d_Road_fact_1 : decode b_Road_fact 1 = .ok (.tableswitch 167 0 13 #[71, 76, 81, 86, 91, 96, 101, 114, 122, 130, 138, 146, 154, 162], 71) := by decide +kernel
theorem d_Road_fact_72 : decode b_Road_fact 72 = .ok (.aload_n 0, 1) := by decide +kernel
theorem d_Road_fact_73 : decode b_Road_fact 73 = .ok (.getfield 29, 3) := by decide +kernel
theorem d_Road_fact_76 : decode b_Road_fact 76 = .ok (.ireturn, 1) := by decide +kernel
theorem d_Road_fact_77 : decode b_Road_fact 77 = .ok (.aload_n 0, 1) := by decide +kernel
theorem d_Road_fact_78 : decode b_Road_fact 78 = .ok (.getfield 32, 3) := by decide +kernel
theorem d_Road_fact_81 : decode b_Road_fact 81 = .ok (.ireturn, 1) := by decide +kernel
theorem d_Road_fact_82 : decode b_Road_fact 82 = .ok (.aload_n 0, 1) := by decide +kernel
theorem d_Road_fact_83 : decode b_Road_fact 83 = .ok (.getfield 35, 3) := by decide +kernel
theorem d_Road_fact_86 : decode b_Road_fact 86 = .ok (.ireturn, 1) := by decide +kernel
theorem d_Road_fact_87 : decode b_Road_fact 87 = .ok (.aload_n 0, 1) := by decide +kernel
theorem d_Road_fact_88 : decode b_Road_fact 88 = .ok (.getfield 38, 3) := by decide +kernel
theorem d_Road_fact_91 : decode b_Road_fact 91 = .ok (.ireturn, 1) := by decide +kernel
theorem d_Road_fact_92 : decode b_Road_fact 92 = .ok (.aload_n 0, 1) := by decide +kernel
theorem d_Road_fact_93 : decode b_Road_fact 93 = .ok (.getfield 41, 3) := by decide +kernel
theorem d_Road_fact_96 : decode b_Road_fact 96 = .ok (.ireturn, 1) := by decide +kernel
theorem d_Road_fact_97 : decode b_Road_fact 97 = .ok (.aload_n 0, 1) := by decide +kernel
theorem d_Road_fact_98 : decode b_Road_fact 98 = .ok (.getfield 44, 3) := by decide +kernel
theorem d_Road_fact_101 : decode b_Road_fact 101 = .ok (.ireturn, 1) := by decide +kernel
theorem d_Road_fact_102 : decode b_Road_fact 102 = .ok (.aload_n 0, 1) := by decide +kernel
theorem d_Road_fact_103 : decode b_Road_fact 103 = .ok (.getfield 47, 3) := by decide +kernel
theorem d_Road_fact_106 : decode b_Road_fact 106 = .ok (.ifCond .eq 7, 3) := by decide +kernel
theorem d_Road_fact_109 : decode b_Road_fact 109 = .ok (.iconst 1, 1) := by decide +kernel
theorem d_Road_fact_110 : decode b_Road_fact 110 = .ok (.goto 4, 3) := by decide +kernel
theorem d_Road_fact_113 : decode b_Road_fact 113 = .ok (.iconst 0, 1) := by decide +kernel
theorem d_Road_fact_114 : decode b_Road_fact 114 = .ok (.ireturn, 1) := by decide +kernel
theorem d_Road_fact_115 : decode b_Road_fact 115 = .ok (.aload_n 0, 1) := by decide +kernel
theorem d_Road_fact_116 : decode b_Road_fact 116 = .ok (.getfield 12, 3) := by decide +kernel
theorem d_Road_fact_119 : decode b_Road_fact 119 = .ok (.getfield 108, 3) := by decide +kernel
theorem d_Road_fact_122 : decode b_Road_fact 122 = .ok (.ireturn, 1) := by decide +kernel
theorem d_Road_fact_123 : decode b_Road_fact 123 = .ok (.aload_n 0, 1) := by decide +kernel
theorem d_Road_fact_124 : decode b_Road_fact 124 = .ok (.getfield 12, 3) := by decide +kernel
theorem d_Road_fact_127 : decode b_Road_fact 127 = .ok (.getfield 67, 3) := by decide +kernel
theorem d_Road_fact_130 : decode b_Road_fact 130 = .ok (.ireturn, 1) := by decide +kernel
theorem d_Road_fact_131 : decode b_Road_fact 131 = .ok (.aload_n 0, 1) := by decide +kernel
theorem d_Road_fact_132 : decode b_Road_fact 132 = .ok (.getfield 12, 3) := by decide +kernel
theorem d_Road_fact_135 : decode b_Road_fact 135 = .ok (.getfield 111, 3) := by decide +kernel
theorem d_Road_fact_138 : decode b_Road_fact 138 = .ok (.ireturn, 1) := by decide +kernel
theorem d_Road_fact_139 : decode b_Road_fact 139 = .ok (.aload_n 0, 1) := by decide +kernel
theorem d_Road_fact_140 : decode b_Road_fact 140 = .ok (.getfield 12, 3) := by decide +kernel
theorem d_Road_fact_143 : decode b_Road_fact 143 = .ok (.getfield 73, 3) := by decide +kernel
theorem d_Road_fact_146 : decode b_Road_fact 146 = .ok (.ireturn, 1) := by decide +kernel
theorem d_Road_fact_147 : decode b_Road_fact 147 = .ok (.aload_n 0, 1) := by decide +kernel
theorem d_Road_fact_148 : decode b_Road_fact 148 = .ok (.getfield 12, 3) := by decide +kernel
theorem d_Road_fact_151 : decode b_Road_fact 151 = .ok (.getfield 114, 3) := by decide +kernel
theorem d_Road_fact_154 : decode b_Road_fact 154 = .ok (.ireturn, 1) := by decide +kernel
theorem d_Road_fact_155 : decode b_Road_fact 155 = .ok (.aload_n 0, 1) := by decide +kernel
theorem d_Road_fact_156 : decode b_Road_fact 156 = .ok (.getfield 12, 3) := by decide +kernel
theorem d_Road_fact_159 : decode b_Road_fact 159 = .ok (.invokevirtual 117, 3) := by decide +kernel
theorem d_Road_fact_162 : decode b_Road_fact 162 = .ok (.ireturn, 1) := by decide +kernel
theorem d_Road_fact_163 : decode b_Road_fact 163 = .ok (.aload_n 0, 1) := by decide +kernel
theorem d_Road_fact_164 : decode b_Road_fact 164 = .ok (.getfield 96, 3) := by decide +kernel
theorem d_Road_fact_167 : decode b_Road_fact 167 = .ok (.ireturn, 1) := by decide +kernel
theorem d_Road_fact_168 : decode b_Road_fact 168 = .ok (.aload_n 0, 1) := by decide +kernel
theorem d_Road_fact_169 : decode b_Road_fact 169 = .ok (.getfield 25, 3) := by decide +kernel
theorem d_Road_fact_172 : decode b_Road_fact 172 = .ok (.ireturn, 1) := by decide +kernel
theorem d_Rows_init_0 : decode b_Rows_init 0 = .ok (.aload_n 0, 1) := by decide +kernel
theorem d_Rows_init_1 : decode b_Rows_init 1 = .ok (.invokespecial 3, 3) := by decide +kernel
theorem d_Rows_init_4 : decode b_Rows_init 4 = .ok (.aload_n 0, 1) := by decide +kernel
theorem d_Rows_init_5 : decode b_Rows_init 5 = .ok (.sipush 448, 3) := by decide +kernel
theorem d_Rows_init_8 : decode b_Rows_init 8 = .ok (.newarray .int, 2) := by decide +kernel
theorem d_Rows_init_10 : decode b_Rows_init 10 = .ok (.putfield 9, 3) := by decide +kernel
theorem d_Rows_init_13 : decode b_Rows_init 13 = .ok (.aload_n 0, 1) := by decide +kernel
theorem d_Rows_init_14 : decode b_Rows_init 14 = .ok (.sipush 448, 3) := by decide +kernel
theorem d_Rows_init_17 : decode b_Rows_init 17 = .ok (.newarray .int, 2) := by decide +kernel
theorem d_Rows_init_19 : decode b_Rows_init 19 = .ok (.putfield 15, 3) := by decide +kernel
theorem d_Rows_init_22 : decode b_Rows_init 22 = .ok (.return_, 1) := by decide +kernel
theorem d_Rows_best_0 : decode b_Rows_best 0 = .ok (.iconst 0, 1) := by decide +kernel
theorem d_Rows_best_1 : decode b_Rows_best 1 = .ok (.istore_n 3, 1) := by decide +kernel
theorem d_Rows_best_2 : decode b_Rows_best 2 = .ok (.aload_n 1, 1) := by decide +kernel
theorem d_Rows_best_3 : decode b_Rows_best 3 = .ok (.astore 4, 2) := by decide +kernel
theorem d_Rows_best_5 : decode b_Rows_best 5 = .ok (.aload 4, 2) := by decide +kernel
theorem d_Rows_best_7 : decode b_Rows_best 7 = .ok (.arraylength, 1) := by decide +kernel
theorem d_Rows_best_8 : decode b_Rows_best 8 = .ok (.istore 5, 2) := by decide +kernel
theorem d_Rows_best_10 : decode b_Rows_best 10 = .ok (.iconst 0, 1) := by decide +kernel
theorem d_Rows_best_11 : decode b_Rows_best 11 = .ok (.istore 6, 2) := by decide +kernel
theorem d_Rows_best_13 : decode b_Rows_best 13 = .ok (.iload 6, 2) := by decide +kernel
theorem d_Rows_best_15 : decode b_Rows_best 15 = .ok (.iload 5, 2) := by decide +kernel
theorem d_Rows_best_17 : decode b_Rows_best 17 = .ok (.if_icmp .ge 37, 3) := by decide +kernel
theorem d_Rows_best_20 : decode b_Rows_best 20 = .ok (.aload 4, 2) := by decide +kernel
theorem d_Rows_best_22 : decode b_Rows_best 22 = .ok (.iload 6, 2) := by decide +kernel
theorem d_Rows_best_24 : decode b_Rows_best 24 = .ok (.aaload, 1) := by decide +kernel
theorem d_Rows_best_25 : decode b_Rows_best 25 = .ok (.astore 7, 2) := by decide +kernel
theorem d_Rows_best_27 : decode b_Rows_best 27 = .ok (.iload_n 3, 1) := by decide +kernel
theorem d_Rows_best_28 : decode b_Rows_best 28 = .ok (.aload 7, 2) := by decide +kernel
theorem d_Rows_best_30 : decode b_Rows_best 30 = .ok (.ifnull 15, 3) := by decide +kernel
theorem d_Rows_best_33 : decode b_Rows_best 33 = .ok (.aload 7, 2) := by decide +kernel
theorem d_Rows_best_35 : decode b_Rows_best 35 = .ok (.getfield 18, 3) := by decide +kernel
theorem d_Rows_best_38 : decode b_Rows_best 38 = .ok (.ifCond .ne 7, 3) := by decide +kernel
theorem d_Rows_best_41 : decode b_Rows_best 41 = .ok (.iconst 1, 1) := by decide +kernel
theorem d_Rows_best_42 : decode b_Rows_best 42 = .ok (.goto 4, 3) := by decide +kernel
theorem d_Rows_best_45 : decode b_Rows_best 45 = .ok (.iconst 0, 1) := by decide +kernel
theorem d_Rows_best_46 : decode b_Rows_best 46 = .ok (.iadd, 1) := by decide +kernel
theorem d_Rows_best_47 : decode b_Rows_best 47 = .ok (.istore_n 3, 1) := by decide +kernel
theorem d_Rows_best_48 : decode b_Rows_best 48 = .ok (.iinc 6 1, 3) := by decide +kernel
theorem d_Rows_best_51 : decode b_Rows_best 51 = .ok (.goto (-38), 3) := by decide +kernel
theorem d_Rows_best_54 : decode b_Rows_best 54 = .ok (.iload_n 3, 1) := by decide +kernel
theorem d_Rows_best_55 : decode b_Rows_best 55 = .ok (.bipush 6, 2) := by decide +kernel
theorem d_Rows_best_57 : decode b_Rows_best 57 = .ok (.if_icmp .le 5, 3) := by decide +kernel
theorem d_Rows_best_60 : decode b_Rows_best 60 = .ok (.iconst 0, 1) := by decide +kernel
theorem d_Rows_best_61 : decode b_Rows_best 61 = .ok (.ireturn, 1) := by decide +kernel
theorem d_Rows_best_62 : decode b_Rows_best 62 = .ok (.iconst 1, 1) := by decide +kernel
theorem d_Rows_best_63 : decode b_Rows_best 63 = .ok (.iload_n 3, 1) := by decide +kernel
theorem d_Rows_best_64 : decode b_Rows_best 64 = .ok (.ishl, 1) := by decide +kernel
theorem d_Rows_best_65 : decode b_Rows_best 65 = .ok (.istore 4, 2) := by decide +kernel
theorem d_Rows_best_67 : decode b_Rows_best 67 = .ok (.aload_n 0, 1) := by decide +kernel
theorem d_Rows_best_68 : decode b_Rows_best 68 = .ok (.getfield 9, 3) := by decide +kernel
theorem d_Rows_best_71 : decode b_Rows_best 71 = .ok (.ldc 24, 2) := by decide +kernel
theorem d_Rows_best_73 : decode b_Rows_best 73 = .ok (.invokestatic 25, 3) := by decide +kernel
theorem d_Rows_best_76 : decode b_Rows_best 76 = .ok (.aload_n 0, 1) := by decide +kernel
theorem d_Rows_best_77 : decode b_Rows_best 77 = .ok (.getfield 9, 3) := by decide +kernel
theorem d_Rows_best_80 : decode b_Rows_best 80 = .ok (.iload_n 2, 1) := by decide +kernel
theorem d_Rows_best_81 : decode b_Rows_best 81 = .ok (.iconst 1, 1) := by decide +kernel
theorem d_Rows_best_82 : decode b_Rows_best 82 = .ok (.invokestatic 31, 3) := by decide +kernel
theorem d_Rows_best_85 : decode b_Rows_best 85 = .ok (.aload_n 0, 1) := by decide +kernel
theorem d_Rows_best_86 : decode b_Rows_best 86 = .ok (.iload 4, 2) := by decide +kernel
theorem d_Rows_best_88 : decode b_Rows_best 88 = .ok (.invokevirtual 35, 3) := by decide +kernel
theorem d_Rows_best_91 : decode b_Rows_best 91 = .ok (.istore 5, 2) := by decide +kernel
theorem d_Rows_best_93 : decode b_Rows_best 93 = .ok (.iconst 1, 1) := by decide +kernel
theorem d_Rows_best_94 : decode b_Rows_best 94 = .ok (.istore 6, 2) := by decide +kernel
theorem d_Rows_best_96 : decode b_Rows_best 96 = .ok (.iload 6, 2) := by decide +kernel
theorem d_Rows_best_98 : decode b_Rows_best 98 = .ok (.bipush 6, 2) := by decide +kernel
theorem d_Rows_best_100 : decode b_Rows_best 100 = .ok (.if_icmp .gt 41, 3) := by decide +kernel
theorem d_Rows_best_103 : decode b_Rows_best 103 = .ok (.aload_n 0, 1) := by decide +kernel
theorem d_Rows_best_104 : decode b_Rows_best 104 = .ok (.aload_n 1, 1) := by decide +kernel
theorem d_Rows_best_105 : decode b_Rows_best 105 = .ok (.iload 4, 2) := by decide +kernel
theorem d_Rows_best_107 : decode b_Rows_best 107 = .ok (.invokevirtual 39, 3) := by decide +kernel
theorem d_Rows_best_110 : decode b_Rows_best 110 = .ok (.aload_n 0, 1) := by decide +kernel
theorem d_Rows_best_111 : decode b_Rows_best 111 = .ok (.iload 4, 2) := by decide +kernel
theorem d_Rows_best_113 : decode b_Rows_best 113 = .ok (.invokevirtual 35, 3) := by decide +kernel
theorem d_Rows_best_116 : decode b_Rows_best 116 = .ok (.istore 7, 2) := by decide +kernel
theorem d_Rows_best_118 : decode b_Rows_best 118 = .ok (.iload 7, 2) := by decide +kernel
theorem d_Rows_best_120 : decode b_Rows_best 120 = .ok (.ldc 43, 2) := by decide +kernel
theorem d_Rows_best_122 : decode b_Rows_best 122 = .ok (.idiv, 1) := by decide +kernel
theorem d_Rows_best_123 : decode b_Rows_best 123 = .ok (.iload 5, 2) := by decide +kernel
theorem d_Rows_best_125 : decode b_Rows_best 125 = .ok (.ldc 43, 2) := by decide +kernel
theorem d_Rows_best_127 : decode b_Rows_best 127 = .ok (.idiv, 1) := by decide +kernel
theorem d_Rows_best_128 : decode b_Rows_best 128 = .ok (.if_icmp .ge 7, 3) := by decide +kernel
theorem d_Rows_best_131 : decode b_Rows_best 131 = .ok (.iload 7, 2) := by decide +kernel
theorem d_Rows_best_133 : decode b_Rows_best 133 = .ok (.istore 5, 2) := by decide +kernel
theorem d_Rows_best_135 : decode b_Rows_best 135 = .ok (.iinc 6 1, 3) := by decide +kernel
theorem d_Rows_best_138 : decode b_Rows_best 138 = .ok (.goto (-42), 3) := by decide +kernel
theorem d_Rows_best_141 : decode b_Rows_best 141 = .ok (.iload 5, 2) := by decide +kernel
theorem d_Rows_best_143 : decode b_Rows_best 143 = .ok (.ldc 24, 2) := by decide +kernel
theorem d_Rows_best_145 : decode b_Rows_best 145 = .ok (.if_icmp .ne 7, 3) := by decide +kernel
theorem d_Rows_best_148 : decode b_Rows_best 148 = .ok (.iconst 0, 1) := by decide +kernel
theorem d_Rows_best_149 : decode b_Rows_best 149 = .ok (.goto 8, 3) := by decide +kernel
theorem d_Rows_best_152 : decode b_Rows_best 152 = .ok (.iload 5, 2) := by decide +kernel
theorem d_Rows_best_154 : decode b_Rows_best 154 = .ok (.ldc 43, 2) := by decide +kernel
theorem d_Rows_best_156 : decode b_Rows_best 156 = .ok (.irem, 1) := by decide +kernel
theorem d_Rows_best_157 : decode b_Rows_best 157 = .ok (.ireturn, 1) := by decide +kernel
theorem d_Rows_bestWhole_0 : decode b_Rows_bestWhole 0 = .ok (.ldc 24, 2) := by decide +kernel
theorem d_Rows_bestWhole_2 : decode b_Rows_bestWhole 2 = .ok (.istore_n 2, 1) := by decide +kernel
theorem d_Rows_bestWhole_3 : decode b_Rows_bestWhole 3 = .ok (.iconst 0, 1) := by decide +kernel
theorem d_Rows_bestWhole_4 : decode b_Rows_bestWhole 4 = .ok (.istore_n 3, 1) := by decide +kernel
theorem d_Rows_bestWhole_5 : decode b_Rows_bestWhole 5 = .ok (.iload_n 3, 1) := by decide +kernel
theorem d_Rows_bestWhole_6 : decode b_Rows_bestWhole 6 = .ok (.bipush 7, 2) := by decide +kernel
theorem d_Rows_bestWhole_8 : decode b_Rows_bestWhole 8 = .ok (.if_icmp .ge 29, 3) := by decide +kernel
theorem d_Rows_bestWhole_11 : decode b_Rows_bestWhole 11 = .ok (.iload_n 2, 1) := by decide +kernel
theorem d_Rows_bestWhole_12 : decode b_Rows_bestWhole 12 = .ok (.aload_n 0, 1) := by decide +kernel
theorem d_Rows_bestWhole_13 : decode b_Rows_bestWhole 13 = .ok (.getfield 9, 3) := by decide +kernel
theorem d_Rows_bestWhole_16 : decode b_Rows_bestWhole 16 = .ok (.iload_n 1, 1) := by decide +kernel
theorem d_Rows_bestWhole_17 : decode b_Rows_bestWhole 17 = .ok (.iconst 1, 1) := by decide +kernel
theorem d_Rows_bestWhole_18 : decode b_Rows_bestWhole 18 = .ok (.isub, 1) := by decide +kernel
theorem d_Rows_bestWhole_19 : decode b_Rows_bestWhole 19 = .ok (.bipush 7, 2) := by decide +kernel
theorem d_Rows_bestWhole_21 : decode b_Rows_bestWhole 21 = .ok (.imul, 1) := by decide +kernel
theorem d_Rows_bestWhole_22 : decode b_Rows_bestWhole 22 = .ok (.iload_n 3, 1) := by decide +kernel
theorem d_Rows_bestWhole_23 : decode b_Rows_bestWhole 23 = .ok (.iadd, 1) := by decide +kernel
theorem d_Rows_bestWhole_24 : decode b_Rows_bestWhole 24 = .ok (.invokestatic 44, 3) := by decide +kernel
theorem d_Rows_bestWhole_27 : decode b_Rows_bestWhole 27 = .ok (.invokestatic 48, 3) := by decide +kernel
theorem d_Rows_bestWhole_30 : decode b_Rows_bestWhole 30 = .ok (.istore_n 2, 1) := by decide +kernel
theorem d_Rows_bestWhole_31 : decode b_Rows_bestWhole 31 = .ok (.iinc 3 1, 3) := by decide +kernel
theorem d_Rows_bestWhole_34 : decode b_Rows_bestWhole 34 = .ok (.goto (-29), 3) := by decide +kernel
theorem d_Rows_bestWhole_37 : decode b_Rows_bestWhole 37 = .ok (.iload_n 2, 1) := by decide +kernel
theorem d_Rows_bestWhole_38 : decode b_Rows_bestWhole 38 = .ok (.ireturn, 1) := by decide +kernel
theorem d_Rows_lengthen_0 : decode b_Rows_lengthen 0 = .ok (.aload_n 0, 1) := by decide +kernel
theorem d_Rows_lengthen_1 : decode b_Rows_lengthen 1 = .ok (.getfield 15, 3) := by decide +kernel
theorem d_Rows_lengthen_4 : decode b_Rows_lengthen 4 = .ok (.ldc 24, 2) := by decide +kernel
theorem d_Rows_lengthen_6 : decode b_Rows_lengthen 6 = .ok (.invokestatic 25, 3) := by decide +kernel
theorem d_Rows_lengthen_9 : decode b_Rows_lengthen 9 = .ok (.iconst 1, 1) := by decide +kernel
theorem d_Rows_lengthen_10 : decode b_Rows_lengthen 10 = .ok (.istore_n 3, 1) := by decide +kernel
theorem d_Rows_lengthen_11 : decode b_Rows_lengthen 11 = .ok (.iconst 0, 1) := by decide +kernel
theorem d_Rows_lengthen_12 : decode b_Rows_lengthen 12 = .ok (.istore 4, 2) := by decide +kernel
theorem d_Rows_lengthen_14 : decode b_Rows_lengthen 14 = .ok (.iload 4, 2) := by decide +kernel
theorem d_Rows_lengthen_16 : decode b_Rows_lengthen 16 = .ok (.aload_n 1, 1) := by decide +kernel
theorem d_Rows_lengthen_17 : decode b_Rows_lengthen 17 = .ok (.arraylength, 1) := by decide +kernel
theorem d_Rows_lengthen_18 : decode b_Rows_lengthen 18 = .ok (.if_icmp .ge 119, 3) := by decide +kernel
theorem d_Rows_lengthen_21 : decode b_Rows_lengthen 21 = .ok (.aload_n 1, 1) := by decide +kernel
theorem d_Rows_lengthen_22 : decode b_Rows_lengthen 22 = .ok (.iload 4, 2) := by decide +kernel
theorem d_Rows_lengthen_24 : decode b_Rows_lengthen 24 = .ok (.aaload, 1) := by decide +kernel
theorem d_Rows_lengthen_25 : decode b_Rows_lengthen 25 = .ok (.astore 5, 2) := by decide +kernel
theorem d_Rows_lengthen_27 : decode b_Rows_lengthen 27 = .ok (.aload 5, 2) := by decide +kernel
theorem d_Rows_lengthen_29 : decode b_Rows_lengthen 29 = .ok (.ifnull 102, 3) := by decide +kernel
theorem d_Rows_lengthen_32 : decode b_Rows_lengthen 32 = .ok (.aload 5, 2) := by decide +kernel
theorem d_Rows_lengthen_34 : decode b_Rows_lengthen 34 = .ok (.getfield 18, 3) := by decide +kernel
theorem d_Rows_lengthen_37 : decode b_Rows_lengthen 37 = .ok (.ifCond .ne 7, 3) := by decide +kernel
theorem d_Rows_lengthen_40 : decode b_Rows_lengthen 40 = .ok (.iload_n 3, 1) := by decide +kernel
theorem d_Rows_lengthen_41 : decode b_Rows_lengthen 41 = .ok (.goto 4, 3) := by decide +kernel
theorem d_Rows_lengthen_44 : decode b_Rows_lengthen 44 = .ok (.iconst 0, 1) := by decide +kernel
theorem d_Rows_lengthen_45 : decode b_Rows_lengthen 45 = .ok (.istore 6, 2) := by decide +kernel
theorem d_Rows_lengthen_47 : decode b_Rows_lengthen 47 = .ok (.iload_n 3, 1) := by decide +kernel
theorem d_Rows_lengthen_48 : decode b_Rows_lengthen 48 = .ok (.iload 6, 2) := by decide +kernel
theorem d_Rows_lengthen_50 : decode b_Rows_lengthen 50 = .ok (.iadd, 1) := by decide +kernel
theorem d_Rows_lengthen_51 : decode b_Rows_lengthen 51 = .ok (.istore_n 3, 1) := by decide +kernel
theorem d_Rows_lengthen_52 : decode b_Rows_lengthen 52 = .ok (.iconst 0, 1) := by decide +kernel
theorem d_Rows_lengthen_53 : decode b_Rows_lengthen 53 = .ok (.istore 7, 2) := by decide +kernel
theorem d_Rows_lengthen_55 : decode b_Rows_lengthen 55 = .ok (.iload 7, 2) := by decide +kernel
theorem d_Rows_lengthen_57 : decode b_Rows_lengthen 57 = .ok (.iload_n 2, 1) := by decide +kernel
theorem d_Rows_lengthen_58 : decode b_Rows_lengthen 58 = .ok (.if_icmp .ge 73, 3) := by decide +kernel
theorem d_Rows_lengthen_61 : decode b_Rows_lengthen 61 = .ok (.iload 7, 2) := by decide +kernel
theorem d_Rows_lengthen_63 : decode b_Rows_lengthen 63 = .ok (.iload 6, 2) := by decide +kernel
theorem d_Rows_lengthen_65 : decode b_Rows_lengthen 65 = .ok (.ior, 1) := by decide +kernel
theorem d_Rows_lengthen_66 : decode b_Rows_lengthen 66 = .ok (.bipush 7, 2) := by decide +kernel
theorem d_Rows_lengthen_68 : decode b_Rows_lengthen 68 = .ok (.imul, 1) := by decide +kernel
theorem d_Rows_lengthen_69 : decode b_Rows_lengthen 69 = .ok (.istore 8, 2) := by decide +kernel
theorem d_Rows_lengthen_71 : decode b_Rows_lengthen 71 = .ok (.aload_n 0, 1) := by decide +kernel
theorem d_Rows_lengthen_72 : decode b_Rows_lengthen 72 = .ok (.aload 5, 2) := by decide +kernel
theorem d_Rows_lengthen_74 : decode b_Rows_lengthen 74 = .ok (.iload 4, 2) := by decide +kernel
theorem d_Rows_lengthen_76 : decode b_Rows_lengthen 76 = .ok (.iload 7, 2) := by decide +kernel
theorem d_Rows_lengthen_78 : decode b_Rows_lengthen 78 = .ok (.bipush 7, 2) := by decide +kernel
theorem d_Rows_lengthen_80 : decode b_Rows_lengthen 80 = .ok (.imul, 1) := by decide +kernel
theorem d_Rows_lengthen_81 : decode b_Rows_lengthen 81 = .ok (.aload 5, 2) := by decide +kernel
theorem d_Rows_lengthen_83 : decode b_Rows_lengthen 83 = .ok (.getfield 54, 3) := by decide +kernel
theorem d_Rows_lengthen_86 : decode b_Rows_lengthen 86 = .ok (.iadd, 1) := by decide +kernel
theorem d_Rows_lengthen_87 : decode b_Rows_lengthen 87 = .ok (.iload 8, 2) := by decide +kernel
theorem d_Rows_lengthen_89 : decode b_Rows_lengthen 89 = .ok (.aload 5, 2) := by decide +kernel
theorem d_Rows_lengthen_91 : decode b_Rows_lengthen 91 = .ok (.getfield 57, 3) := by decide +kernel
theorem d_Rows_lengthen_94 : decode b_Rows_lengthen 94 = .ok (.iadd, 1) := by decide +kernel
theorem d_Rows_lengthen_95 : decode b_Rows_lengthen 95 = .ok (.invokevirtual 60, 3) := by decide +kernel
theorem d_Rows_lengthen_98 : decode b_Rows_lengthen 98 = .ok (.aload_n 0, 1) := by decide +kernel
theorem d_Rows_lengthen_99 : decode b_Rows_lengthen 99 = .ok (.aload 5, 2) := by decide +kernel
theorem d_Rows_lengthen_101 : decode b_Rows_lengthen 101 = .ok (.iload 4, 2) := by decide +kernel
theorem d_Rows_lengthen_103 : decode b_Rows_lengthen 103 = .ok (.iload 7, 2) := by decide +kernel
theorem d_Rows_lengthen_105 : decode b_Rows_lengthen 105 = .ok (.bipush 7, 2) := by decide +kernel
theorem d_Rows_lengthen_107 : decode b_Rows_lengthen 107 = .ok (.imul, 1) := by decide +kernel
theorem d_Rows_lengthen_108 : decode b_Rows_lengthen 108 = .ok (.aload 5, 2) := by decide +kernel
theorem d_Rows_lengthen_110 : decode b_Rows_lengthen 110 = .ok (.getfield 57, 3) := by decide +kernel
theorem d_Rows_lengthen_113 : decode b_Rows_lengthen 113 = .ok (.iadd, 1) := by decide +kernel
theorem d_Rows_lengthen_114 : decode b_Rows_lengthen 114 = .ok (.iload 8, 2) := by decide +kernel
theorem d_Rows_lengthen_116 : decode b_Rows_lengthen 116 = .ok (.aload 5, 2) := by decide +kernel
theorem d_Rows_lengthen_118 : decode b_Rows_lengthen 118 = .ok (.getfield 54, 3) := by decide +kernel
theorem d_Rows_lengthen_121 : decode b_Rows_lengthen 121 = .ok (.iadd, 1) := by decide +kernel
theorem d_Rows_lengthen_122 : decode b_Rows_lengthen 122 = .ok (.invokevirtual 60, 3) := by decide +kernel
theorem d_Rows_lengthen_125 : decode b_Rows_lengthen 125 = .ok (.iinc 7 1, 3) := by decide +kernel
theorem d_Rows_lengthen_128 : decode b_Rows_lengthen 128 = .ok (.goto (-73), 3) := by decide +kernel
theorem d_Rows_lengthen_131 : decode b_Rows_lengthen 131 = .ok (.iinc 4 1, 3) := by decide +kernel
theorem d_Rows_lengthen_134 : decode b_Rows_lengthen 134 = .ok (.goto (-120), 3) := by decide +kernel
theorem d_Rows_lengthen_137 : decode b_Rows_lengthen 137 = .ok (.aload_n 0, 1) := by decide +kernel
theorem d_Rows_lengthen_138 : decode b_Rows_lengthen 138 = .ok (.getfield 9, 3) := by decide +kernel
theorem d_Rows_lengthen_141 : decode b_Rows_lengthen 141 = .ok (.astore 4, 2) := by decide +kernel
theorem d_Rows_lengthen_143 : decode b_Rows_lengthen 143 = .ok (.aload_n 0, 1) := by decide +kernel
theorem d_Rows_lengthen_144 : decode b_Rows_lengthen 144 = .ok (.aload_n 0, 1) := by decide +kernel
theorem d_Rows_lengthen_145 : decode b_Rows_lengthen 145 = .ok (.getfield 15, 3) := by decide +kernel
theorem d_Rows_lengthen_148 : decode b_Rows_lengthen 148 = .ok (.putfield 9, 3) := by decide +kernel
theorem d_Rows_lengthen_151 : decode b_Rows_lengthen 151 = .ok (.aload_n 0, 1) := by decide +kernel
theorem d_Rows_lengthen_152 : decode b_Rows_lengthen 152 = .ok (.aload 4, 2) := by decide +kernel
theorem d_Rows_lengthen_154 : decode b_Rows_lengthen 154 = .ok (.putfield 15, 3) := by decide +kernel
theorem d_Rows_lengthen_157 : decode b_Rows_lengthen 157 = .ok (.return_, 1) := by decide +kernel
theorem d_Rows_goAlong_0 : decode b_Rows_goAlong 0 = .ok (.aload_n 0, 1) := by decide +kernel
theorem d_Rows_goAlong_1 : decode b_Rows_goAlong 1 = .ok (.getfield 9, 3) := by decide +kernel
theorem d_Rows_goAlong_4 : decode b_Rows_goAlong 4 = .ok (.iload_n 3, 1) := by decide +kernel
theorem d_Rows_goAlong_5 : decode b_Rows_goAlong 5 = .ok (.invokestatic 44, 3) := by decide +kernel
theorem d_Rows_goAlong_8 : decode b_Rows_goAlong 8 = .ok (.istore 5, 2) := by decide +kernel
theorem d_Rows_goAlong_10 : decode b_Rows_goAlong 10 = .ok (.iload 5, 2) := by decide +kernel
theorem d_Rows_goAlong_12 : decode b_Rows_goAlong 12 = .ok (.ldc 24, 2) := by decide +kernel
theorem d_Rows_goAlong_14 : decode b_Rows_goAlong 14 = .ok (.if_icmp .eq 44, 3) := by decide +kernel
theorem d_Rows_goAlong_17 : decode b_Rows_goAlong 17 = .ok (.iload 5, 2) := by decide +kernel
theorem d_Rows_goAlong_19 : decode b_Rows_goAlong 19 = .ok (.ldc 43, 2) := by decide +kernel
theorem d_Rows_goAlong_21 : decode b_Rows_goAlong 21 = .ok (.idiv, 1) := by decide +kernel
theorem d_Rows_goAlong_22 : decode b_Rows_goAlong 22 = .ok (.aload_n 1, 1) := by decide +kernel
theorem d_Rows_goAlong_23 : decode b_Rows_goAlong 23 = .ok (.getfield 64, 3) := by decide +kernel
theorem d_Rows_goAlong_26 : decode b_Rows_goAlong 26 = .ok (.iadd, 1) := by decide +kernel
theorem d_Rows_goAlong_27 : decode b_Rows_goAlong 27 = .ok (.istore 6, 2) := by decide +kernel
theorem d_Rows_goAlong_29 : decode b_Rows_goAlong 29 = .ok (.iload 5, 2) := by decide +kernel
theorem d_Rows_goAlong_31 : decode b_Rows_goAlong 31 = .ok (.ldc 43, 2) := by decide +kernel
theorem d_Rows_goAlong_33 : decode b_Rows_goAlong 33 = .ok (.irem, 1) := by decide +kernel
theorem d_Rows_goAlong_34 : decode b_Rows_goAlong 34 = .ok (.bipush 10, 2) := by decide +kernel
theorem d_Rows_goAlong_36 : decode b_Rows_goAlong 36 = .ok (.imul, 1) := by decide +kernel
theorem d_Rows_goAlong_37 : decode b_Rows_goAlong 37 = .ok (.iload_n 2, 1) := by decide +kernel
theorem d_Rows_goAlong_38 : decode b_Rows_goAlong 38 = .ok (.iadd, 1) := by decide +kernel
theorem d_Rows_goAlong_39 : decode b_Rows_goAlong 39 = .ok (.istore 7, 2) := by decide +kernel
theorem d_Rows_goAlong_41 : decode b_Rows_goAlong 41 = .ok (.aload_n 0, 1) := by decide +kernel
theorem d_Rows_goAlong_42 : decode b_Rows_goAlong 42 = .ok (.getfield 15, 3) := by decide +kernel
theorem d_Rows_goAlong_45 : decode b_Rows_goAlong 45 = .ok (.iload 4, 2) := by decide +kernel
theorem d_Rows_goAlong_47 : decode b_Rows_goAlong 47 = .ok (.iload 6, 2) := by decide +kernel
theorem d_Rows_goAlong_49 : decode b_Rows_goAlong 49 = .ok (.ldc 43, 2) := by decide +kernel
theorem d_Rows_goAlong_51 : decode b_Rows_goAlong 51 = .ok (.imul, 1) := by decide +kernel
theorem d_Rows_goAlong_52 : decode b_Rows_goAlong 52 = .ok (.iload 7, 2) := by decide +kernel
theorem d_Rows_goAlong_54 : decode b_Rows_goAlong 54 = .ok (.iadd, 1) := by decide +kernel
theorem d_Rows_goAlong_55 : decode b_Rows_goAlong 55 = .ok (.invokestatic 31, 3) := by decide +kernel
theorem d_Rows_goAlong_58 : decode b_Rows_goAlong 58 = .ok (.return_, 1) := by decide +kernel
theorem d_Surf_init_0 : decode b_Surf_init 0 = .ok (.aload_n 0, 1) := by decide +kernel
theorem d_Surf_init_1 : decode b_Surf_init 1 = .ok (.invokespecial 3, 3) := by decide +kernel
theorem d_Surf_init_4 : decode b_Surf_init 4 = .ok (.aload_n 0, 1) := by decide +kernel
theorem d_Surf_init_5 : decode b_Surf_init 5 = .ok (.iconst 3, 1) := by decide +kernel
theorem d_Surf_init_6 : decode b_Surf_init 6 = .ok (.putfield 9, 3) := by decide +kernel
theorem d_Surf_init_9 : decode b_Surf_init 9 = .ok (.return_, 1) := by decide +kernel
theorem d_Surf_becomeLike_0 : decode b_Surf_becomeLike 0 = .ok (.aload_n 0, 1) := by decide +kernel
theorem d_Surf_becomeLike_1 : decode b_Surf_becomeLike 1 = .ok (.aload_n 1, 1) := by decide +kernel
theorem d_Surf_becomeLike_2 : decode b_Surf_becomeLike 2 = .ok (.getfield 9, 3) := by decide +kernel
theorem d_Surf_becomeLike_5 : decode b_Surf_becomeLike 5 = .ok (.putfield 9, 3) := by decide +kernel
theorem d_Surf_becomeLike_8 : decode b_Surf_becomeLike 8 = .ok (.aload_n 0, 1) := by decide +kernel
theorem d_Surf_becomeLike_9 : decode b_Surf_becomeLike 9 = .ok (.aload_n 1, 1) := by decide +kernel
theorem d_Surf_becomeLike_10 : decode b_Surf_becomeLike 10 = .ok (.getfield 15, 3) := by decide +kernel
theorem d_Surf_becomeLike_13 : decode b_Surf_becomeLike 13 = .ok (.putfield 15, 3) := by decide +kernel
theorem d_Surf_becomeLike_16 : decode b_Surf_becomeLike 16 = .ok (.aload_n 0, 1) := by decide +kernel
theorem d_Surf_becomeLike_17 : decode b_Surf_becomeLike 17 = .ok (.aload_n 1, 1) := by decide +kernel
theorem d_Surf_becomeLike_18 : decode b_Surf_becomeLike 18 = .ok (.getfield 18, 3) := by decide +kernel
theorem d_Surf_becomeLike_21 : decode b_Surf_becomeLike 21 = .ok (.putfield 18, 3) := by decide +kernel
theorem d_Surf_becomeLike_24 : decode b_Surf_becomeLike 24 = .ok (.aload_n 0, 1) := by decide +kernel
theorem d_Surf_becomeLike_25 : decode b_Surf_becomeLike 25 = .ok (.aload_n 1, 1) := by decide +kernel
theorem d_Surf_becomeLike_26 : decode b_Surf_becomeLike 26 = .ok (.getfield 21, 3) := by decide +kernel
theorem d_Surf_becomeLike_29 : decode b_Surf_becomeLike 29 = .ok (.putfield 21, 3) := by decide +kernel
theorem d_Surf_becomeLike_32 : decode b_Surf_becomeLike 32 = .ok (.aload_n 0, 1) := by decide +kernel
theorem d_Surf_becomeLike_33 : decode b_Surf_becomeLike 33 = .ok (.aload_n 1, 1) := by decide +kernel
theorem d_Surf_becomeLike_34 : decode b_Surf_becomeLike 34 = .ok (.getfield 24, 3) := by decide +kernel
theorem d_Surf_becomeLike_37 : decode b_Surf_becomeLike 37 = .ok (.putfield 24, 3) := by decide +kernel
theorem d_Surf_becomeLike_40 : decode b_Surf_becomeLike 40 = .ok (.return_, 1) := by decide +kernel
theorem d_Surf_isSlippery_0 : decode b_Surf_isSlippery 0 = .ok (.aload_n 0, 1) := by decide +kernel
theorem d_Surf_isSlippery_1 : decode b_Surf_isSlippery 1 = .ok (.getfield 18, 3) := by decide +kernel
theorem d_Surf_isSlippery_4 : decode b_Surf_isSlippery 4 = .ok (.iconst 2, 1) := by decide +kernel
theorem d_Surf_isSlippery_5 : decode b_Surf_isSlippery 5 = .ok (.if_icmp .ge 11, 3) := by decide +kernel
theorem d_Surf_isSlippery_8 : decode b_Surf_isSlippery 8 = .ok (.aload_n 0, 1) := by decide +kernel
theorem d_Surf_isSlippery_9 : decode b_Surf_isSlippery 9 = .ok (.getfield 21, 3) := by decide +kernel
theorem d_Surf_isSlippery_12 : decode b_Surf_isSlippery 12 = .ok (.iconst 3, 1) := by decide +kernel
theorem d_Surf_isSlippery_13 : decode b_Surf_isSlippery 13 = .ok (.if_icmp .lt 7, 3) := by decide +kernel
theorem d_Surf_isSlippery_16 : decode b_Surf_isSlippery 16 = .ok (.iconst 1, 1) := by decide +kernel
theorem d_Surf_isSlippery_17 : decode b_Surf_isSlippery 17 = .ok (.goto 4, 3) := by decide +kernel
theorem d_Surf_isSlippery_20 : decode b_Surf_isSlippery 20 = .ok (.iconst 0, 1) := by decide +kernel
theorem d_Surf_isSlippery_21 : decode b_Surf_isSlippery 21 = .ok (.ireturn, 1) := by decide +kernel
theorem d_Surf_point_0 : decode b_Surf_point 0 = .ok (.aload_n 0, 1) := by decide +kernel
theorem d_Surf_point_1 : decode b_Surf_point 1 = .ok (.getfield 15, 3) := by decide +kernel
theorem d_Surf_point_4 : decode b_Surf_point 4 = .ok (.aload_n 0, 1) := by decide +kernel
theorem d_Surf_point_5 : decode b_Surf_point 5 = .ok (.getfield 18, 3) := by decide +kernel
theorem d_Surf_point_8 : decode b_Surf_point 8 = .ok (.iadd, 1) := by decide +kernel
theorem d_Surf_point_9 : decode b_Surf_point 9 = .ok (.aload_n 0, 1) := by decide +kernel
theorem d_Surf_point_10 : decode b_Surf_point 10 = .ok (.getfield 21, 3) := by decide +kernel
theorem d_Surf_point_13 : decode b_Surf_point 13 = .ok (.iadd, 1) := by decide +kernel
theorem d_Surf_point_14 : decode b_Surf_point 14 = .ok (.istore_n 1, 1) := by decide +kernel
theorem d_Surf_point_15 : decode b_Surf_point 15 = .ok (.iload_n 1, 1) := by decide +kernel
theorem d_Surf_point_16 : decode b_Surf_point 16 = .ok (.ifCond .gt 7, 3) := by decide +kernel
theorem d_Surf_point_19 : decode b_Surf_point 19 = .ok (.iconst 0, 1) := by decide +kernel
theorem d_Surf_point_20 : decode b_Surf_point 20 = .ok (.goto 12, 3) := by decide +kernel
theorem d_Surf_point_23 : decode b_Surf_point 23 = .ok (.bipush 6, 2) := by decide +kernel
theorem d_Surf_point_25 : decode b_Surf_point 25 = .ok (.aload_n 0, 1) := by decide +kernel
theorem d_Surf_point_26 : decode b_Surf_point 26 = .ok (.getfield 24, 3) := by decide +kernel
theorem d_Surf_point_29 : decode b_Surf_point 29 = .ok (.imul, 1) := by decide +kernel
theorem d_Surf_point_30 : decode b_Surf_point 30 = .ok (.iload_n 1, 1) := by decide +kernel
theorem d_Surf_point_31 : decode b_Surf_point 31 = .ok (.idiv, 1) := by decide +kernel
theorem d_Surf_point_32 : decode b_Surf_point 32 = .ok (.istore_n 2, 1) := by decide +kernel
theorem d_Surf_point_33 : decode b_Surf_point 33 = .ok (.iload_n 2, 1) := by decide +kernel
theorem d_Surf_point_34 : decode b_Surf_point 34 = .ok (.bipush 21, 2) := by decide +kernel
theorem d_Surf_point_36 : decode b_Surf_point 36 = .ok (.if_icmp .le 8, 3) := by decide +kernel
theorem d_Surf_point_39 : decode b_Surf_point 39 = .ok (.bipush (-21), 2) := by decide +kernel
theorem d_Surf_point_41 : decode b_Surf_point 41 = .ok (.goto 5, 3) := by decide +kernel
theorem d_Surf_point_44 : decode b_Surf_point 44 = .ok (.iload_n 2, 1) := by decide +kernel
theorem d_Surf_point_45 : decode b_Surf_point 45 = .ok (.ineg, 1) := by decide +kernel
theorem d_Surf_point_46 : decode b_Surf_point 46 = .ok (.ireturn, 1) := by decide +kernel
theorem d_Surf_comeNearer_0 : decode b_Surf_comeNearer 0 = .ok (.aload_n 0, 1) := by decide +kernel
theorem d_Surf_comeNearer_1 : decode b_Surf_comeNearer 1 = .ok (.getfield 9, 3) := by decide +kernel
theorem d_Surf_comeNearer_4 : decode b_Surf_comeNearer 4 = .ok (.iload_n 1, 1) := by decide +kernel
theorem d_Surf_comeNearer_5 : decode b_Surf_comeNearer 5 = .ok (.if_icmp .ge 20, 3) := by decide +kernel
theorem d_Surf_comeNearer_8 : decode b_Surf_comeNearer 8 = .ok (.aload_n 0, 1) := by decide +kernel
theorem d_Surf_comeNearer_9 : decode b_Surf_comeNearer 9 = .ok (.iload_n 1, 1) := by decide +kernel
theorem d_Surf_comeNearer_10 : decode b_Surf_comeNearer 10 = .ok (.aload_n 0, 1) := by decide +kernel
theorem d_Surf_comeNearer_11 : decode b_Surf_comeNearer 11 = .ok (.getfield 9, 3) := by decide +kernel
theorem d_Surf_comeNearer_14 : decode b_Surf_comeNearer 14 = .ok (.iload_n 2, 1) := by decide +kernel
theorem d_Surf_comeNearer_15 : decode b_Surf_comeNearer 15 = .ok (.iadd, 1) := by decide +kernel
theorem d_Surf_comeNearer_16 : decode b_Surf_comeNearer 16 = .ok (.invokestatic 27, 3) := by decide +kernel
theorem d_Surf_comeNearer_19 : decode b_Surf_comeNearer 19 = .ok (.putfield 9, 3) := by decide +kernel
theorem d_Surf_comeNearer_22 : decode b_Surf_comeNearer 22 = .ok (.goto 17, 3) := by decide +kernel
theorem d_Surf_comeNearer_25 : decode b_Surf_comeNearer 25 = .ok (.aload_n 0, 1) := by decide +kernel
theorem d_Surf_comeNearer_26 : decode b_Surf_comeNearer 26 = .ok (.iload_n 1, 1) := by decide +kernel
theorem d_Surf_comeNearer_27 : decode b_Surf_comeNearer 27 = .ok (.aload_n 0, 1) := by decide +kernel
theorem d_Surf_comeNearer_28 : decode b_Surf_comeNearer 28 = .ok (.getfield 9, 3) := by decide +kernel
theorem d_Surf_comeNearer_31 : decode b_Surf_comeNearer 31 = .ok (.iload_n 2, 1) := by decide +kernel
theorem d_Surf_comeNearer_32 : decode b_Surf_comeNearer 32 = .ok (.isub, 1) := by decide +kernel
theorem d_Surf_comeNearer_33 : decode b_Surf_comeNearer 33 = .ok (.invokestatic 33, 3) := by decide +kernel
theorem d_Surf_comeNearer_36 : decode b_Surf_comeNearer 36 = .ok (.putfield 9, 3) := by decide +kernel
theorem d_Surf_comeNearer_39 : decode b_Surf_comeNearer 39 = .ok (.return_, 1) := by decide +kernel
theorem d_Surf_freezeOrThaw_0 : decode b_Surf_freezeOrThaw 0 = .ok (.aload_n 0, 1) := by decide +kernel
theorem d_Surf_freezeOrThaw_1 : decode b_Surf_freezeOrThaw 1 = .ok (.getfield 9, 3) := by decide +kernel
theorem d_Surf_freezeOrThaw_4 : decode b_Surf_freezeOrThaw 4 = .ok (.aload_n 0, 1) := by decide +kernel
theorem d_Surf_freezeOrThaw_5 : decode b_Surf_freezeOrThaw 5 = .ok (.invokevirtual 36, 3) := by decide +kernel
theorem d_Surf_freezeOrThaw_8 : decode b_Surf_freezeOrThaw 8 = .ok (.if_icmp .ge 33, 3) := by decide +kernel
theorem d_Surf_freezeOrThaw_11 : decode b_Surf_freezeOrThaw 11 = .ok (.iconst 2, 1) := by decide +kernel
theorem d_Surf_freezeOrThaw_12 : decode b_Surf_freezeOrThaw 12 = .ok (.aload_n 0, 1) := by decide +kernel
theorem d_Surf_freezeOrThaw_13 : decode b_Surf_freezeOrThaw 13 = .ok (.getfield 15, 3) := by decide +kernel
theorem d_Surf_freezeOrThaw_16 : decode b_Surf_freezeOrThaw 16 = .ok (.invokestatic 27, 3) := by decide +kernel
theorem d_Surf_freezeOrThaw_19 : decode b_Surf_freezeOrThaw 19 = .ok (.istore_n 1, 1) := by decide +kernel
theorem d_Surf_freezeOrThaw_20 : decode b_Surf_freezeOrThaw 20 = .ok (.aload_n 0, 1) := by decide +kernel
theorem d_Surf_freezeOrThaw_21 : decode b_Surf_freezeOrThaw 21 = .ok (.dup, 1) := by decide +kernel
theorem d_Surf_freezeOrThaw_22 : decode b_Surf_freezeOrThaw 22 = .ok (.getfield 15, 3) := by decide +kernel
theorem d_Surf_freezeOrThaw_25 : decode b_Surf_freezeOrThaw 25 = .ok (.iload_n 1, 1) := by decide +kernel
theorem d_Surf_freezeOrThaw_26 : decode b_Surf_freezeOrThaw 26 = .ok (.isub, 1) := by decide +kernel
theorem d_Surf_freezeOrThaw_27 : decode b_Surf_freezeOrThaw 27 = .ok (.putfield 15, 3) := by decide +kernel
theorem d_Surf_freezeOrThaw_30 : decode b_Surf_freezeOrThaw 30 = .ok (.aload_n 0, 1) := by decide +kernel
theorem d_Surf_freezeOrThaw_31 : decode b_Surf_freezeOrThaw 31 = .ok (.dup, 1) := by decide +kernel
theorem d_Surf_freezeOrThaw_32 : decode b_Surf_freezeOrThaw 32 = .ok (.getfield 18, 3) := by decide +kernel
theorem d_Surf_freezeOrThaw_35 : decode b_Surf_freezeOrThaw 35 = .ok (.iload_n 1, 1) := by decide +kernel
theorem d_Surf_freezeOrThaw_36 : decode b_Surf_freezeOrThaw 36 = .ok (.iadd, 1) := by decide +kernel
theorem d_Surf_freezeOrThaw_37 : decode b_Surf_freezeOrThaw 37 = .ok (.putfield 18, 3) := by decide +kernel
theorem d_Surf_freezeOrThaw_40 : decode b_Surf_freezeOrThaw 40 = .ok (.return_, 1) := by decide +kernel
theorem d_Surf_freezeOrThaw_41 : decode b_Surf_freezeOrThaw 41 = .ok (.iconst 1, 1) := by decide +kernel
theorem d_Surf_freezeOrThaw_42 : decode b_Surf_freezeOrThaw 42 = .ok (.aload_n 0, 1) := by decide +kernel
theorem d_Surf_freezeOrThaw_43 : decode b_Surf_freezeOrThaw 43 = .ok (.getfield 24, 3) := by decide +kernel
theorem d_Surf_freezeOrThaw_46 : decode b_Surf_freezeOrThaw 46 = .ok (.iconst 4, 1) := by decide +kernel
theorem d_Surf_freezeOrThaw_47 : decode b_Surf_freezeOrThaw 47 = .ok (.idiv, 1) := by decide +kernel
theorem d_Surf_freezeOrThaw_48 : decode b_Surf_freezeOrThaw 48 = .ok (.iadd, 1) := by decide +kernel
theorem d_Surf_freezeOrThaw_49 : decode b_Surf_freezeOrThaw 49 = .ok (.istore_n 1, 1) := by decide +kernel
theorem d_Surf_freezeOrThaw_50 : decode b_Surf_freezeOrThaw 50 = .ok (.aload_n 0, 1) := by decide +kernel
theorem d_Surf_freezeOrThaw_51 : decode b_Surf_freezeOrThaw 51 = .ok (.getfield 18, 3) := by decide +kernel
theorem d_Surf_freezeOrThaw_54 : decode b_Surf_freezeOrThaw 54 = .ok (.iload_n 1, 1) := by decide +kernel
theorem d_Surf_freezeOrThaw_55 : decode b_Surf_freezeOrThaw 55 = .ok (.invokestatic 27, 3) := by decide +kernel
theorem d_Surf_freezeOrThaw_58 : decode b_Surf_freezeOrThaw 58 = .ok (.istore_n 2, 1) := by decide +kernel
theorem d_Surf_freezeOrThaw_59 : decode b_Surf_freezeOrThaw 59 = .ok (.aload_n 0, 1) := by decide +kernel
theorem d_Surf_freezeOrThaw_60 : decode b_Surf_freezeOrThaw 60 = .ok (.getfield 21, 3) := by decide +kernel
theorem d_Surf_freezeOrThaw_63 : decode b_Surf_freezeOrThaw 63 = .ok (.iload_n 1, 1) := by decide +kernel
theorem d_Surf_freezeOrThaw_64 : decode b_Surf_freezeOrThaw 64 = .ok (.iload_n 2, 1) := by decide +kernel
theorem d_Surf_freezeOrThaw_65 : decode b_Surf_freezeOrThaw 65 = .ok (.isub, 1) := by decide +kernel
theorem d_Surf_freezeOrThaw_66 : decode b_Surf_freezeOrThaw 66 = .ok (.invokestatic 27, 3) := by decide +kernel
theorem d_Surf_freezeOrThaw_69 : decode b_Surf_freezeOrThaw 69 = .ok (.istore_n 3, 1) := by decide +kernel
theorem d_Surf_freezeOrThaw_70 : decode b_Surf_freezeOrThaw 70 = .ok (.aload_n 0, 1) := by decide +kernel
theorem d_Surf_freezeOrThaw_71 : decode b_Surf_freezeOrThaw 71 = .ok (.dup, 1) := by decide +kernel
theorem d_Surf_freezeOrThaw_72 : decode b_Surf_freezeOrThaw 72 = .ok (.getfield 18, 3) := by decide +kernel
theorem d_Surf_freezeOrThaw_75 : decode b_Surf_freezeOrThaw 75 = .ok (.iload_n 2, 1) := by decide +kernel
theorem d_Surf_freezeOrThaw_76 : decode b_Surf_freezeOrThaw 76 = .ok (.isub, 1) := by decide +kernel
theorem d_Surf_freezeOrThaw_77 : decode b_Surf_freezeOrThaw 77 = .ok (.putfield 18, 3) := by decide +kernel
theorem d_Surf_freezeOrThaw_80 : decode b_Surf_freezeOrThaw 80 = .ok (.aload_n 0, 1) := by decide +kernel
theorem d_Surf_freezeOrThaw_81 : decode b_Surf_freezeOrThaw 81 = .ok (.dup, 1) := by decide +kernel
theorem d_Surf_freezeOrThaw_82 : decode b_Surf_freezeOrThaw 82 = .ok (.getfield 21, 3) := by decide +kernel
theorem d_Surf_freezeOrThaw_85 : decode b_Surf_freezeOrThaw 85 = .ok (.iload_n 3, 1) := by decide +kernel
theorem d_Surf_freezeOrThaw_86 : decode b_Surf_freezeOrThaw 86 = .ok (.isub, 1) := by decide +kernel
theorem d_Surf_freezeOrThaw_87 : decode b_Surf_freezeOrThaw 87 = .ok (.putfield 21, 3) := by decide +kernel
theorem d_Surf_freezeOrThaw_90 : decode b_Surf_freezeOrThaw 90 = .ok (.aload_n 0, 1) := by decide +kernel
theorem d_Surf_freezeOrThaw_91 : decode b_Surf_freezeOrThaw 91 = .ok (.dup, 1) := by decide +kernel
theorem d_Surf_freezeOrThaw_92 : decode b_Surf_freezeOrThaw 92 = .ok (.getfield 15, 3) := by decide +kernel
theorem d_Surf_freezeOrThaw_95 : decode b_Surf_freezeOrThaw 95 = .ok (.iload_n 2, 1) := by decide +kernel
theorem d_Surf_freezeOrThaw_96 : decode b_Surf_freezeOrThaw 96 = .ok (.iload_n 3, 1) := by decide +kernel
theorem d_Surf_freezeOrThaw_97 : decode b_Surf_freezeOrThaw 97 = .ok (.iadd, 1) := by decide +kernel
theorem d_Surf_freezeOrThaw_98 : decode b_Surf_freezeOrThaw 98 = .ok (.iadd, 1) := by decide +kernel
theorem d_Surf_freezeOrThaw_99 : decode b_Surf_freezeOrThaw 99 = .ok (.putfield 15, 3) := by decide +kernel
theorem d_Surf_freezeOrThaw_102 : decode b_Surf_freezeOrThaw 102 = .ok (.return_, 1) := by decide +kernel
theorem d_Surf_runOff_0 : decode b_Surf_runOff 0 = .ok (.aload_n 0, 1) := by decide +kernel
theorem d_Surf_runOff_1 : decode b_Surf_runOff 1 = .ok (.getfield 15, 3) := by decide +kernel
theorem d_Surf_runOff_4 : decode b_Surf_runOff 4 = .ok (.bipush 8, 2) := by decide +kernel
theorem d_Surf_runOff_6 : decode b_Surf_runOff 6 = .ok (.if_icmp .gt 4, 3) := by decide +kernel
theorem d_Surf_runOff_9 : decode b_Surf_runOff 9 = .ok (.return_, 1) := by decide +kernel
theorem d_Surf_runOff_10 : decode b_Surf_runOff 10 = .ok (.aload_n 0, 1) := by decide +kernel
theorem d_Surf_runOff_11 : decode b_Surf_runOff 11 = .ok (.getfield 15, 3) := by decide +kernel
theorem d_Surf_runOff_14 : decode b_Surf_runOff 14 = .ok (.bipush 8, 2) := by decide +kernel
theorem d_Surf_runOff_16 : decode b_Surf_runOff 16 = .ok (.isub, 1) := by decide +kernel
theorem d_Surf_runOff_17 : decode b_Surf_runOff 17 = .ok (.istore_n 1, 1) := by decide +kernel
theorem d_Surf_runOff_18 : decode b_Surf_runOff 18 = .ok (.iload_n 1, 1) := by decide +kernel
theorem d_Surf_runOff_19 : decode b_Surf_runOff 19 = .ok (.aload_n 0, 1) := by decide +kernel
theorem d_Surf_runOff_20 : decode b_Surf_runOff 20 = .ok (.getfield 24, 3) := by decide +kernel
theorem d_Surf_runOff_23 : decode b_Surf_runOff 23 = .ok (.imul, 1) := by decide +kernel
theorem d_Surf_runOff_24 : decode b_Surf_runOff 24 = .ok (.aload_n 0, 1) := by decide +kernel
theorem d_Surf_runOff_25 : decode b_Surf_runOff 25 = .ok (.getfield 15, 3) := by decide +kernel
theorem d_Surf_runOff_28 : decode b_Surf_runOff 28 = .ok (.idiv, 1) := by decide +kernel
theorem d_Surf_runOff_29 : decode b_Surf_runOff 29 = .ok (.istore_n 2, 1) := by decide +kernel
theorem d_Surf_runOff_30 : decode b_Surf_runOff 30 = .ok (.aload_n 0, 1) := by decide +kernel
theorem d_Surf_runOff_31 : decode b_Surf_runOff 31 = .ok (.bipush 8, 2) := by decide +kernel
theorem d_Surf_runOff_33 : decode b_Surf_runOff 33 = .ok (.putfield 15, 3) := by decide +kernel
theorem d_Surf_runOff_36 : decode b_Surf_runOff 36 = .ok (.aload_n 0, 1) := by decide +kernel
theorem d_Surf_runOff_37 : decode b_Surf_runOff 37 = .ok (.dup, 1) := by decide +kernel
theorem d_Surf_runOff_38 : decode b_Surf_runOff 38 = .ok (.getfield 40, 3) := by decide +kernel
theorem d_Surf_runOff_41 : decode b_Surf_runOff 41 = .ok (.iload_n 1, 1) := by decide +kernel
theorem d_Surf_runOff_42 : decode b_Surf_runOff 42 = .ok (.iadd, 1) := by decide +kernel
theorem d_Surf_runOff_43 : decode b_Surf_runOff 43 = .ok (.putfield 40, 3) := by decide +kernel
theorem d_Surf_runOff_46 : decode b_Surf_runOff 46 = .ok (.aload_n 0, 1) := by decide +kernel
theorem d_Surf_runOff_47 : decode b_Surf_runOff 47 = .ok (.dup, 1) := by decide +kernel
theorem d_Surf_runOff_48 : decode b_Surf_runOff 48 = .ok (.getfield 24, 3) := by decide +kernel
theorem d_Surf_runOff_51 : decode b_Surf_runOff 51 = .ok (.iload_n 2, 1) := by decide +kernel
theorem d_Surf_runOff_52 : decode b_Surf_runOff 52 = .ok (.isub, 1) := by decide +kernel
theorem d_Surf_runOff_53 : decode b_Surf_runOff 53 = .ok (.putfield 24, 3) := by decide +kernel
theorem d_Surf_runOff_56 : decode b_Surf_runOff 56 = .ok (.aload_n 0, 1) := by decide +kernel
theorem d_Surf_runOff_57 : decode b_Surf_runOff 57 = .ok (.dup, 1) := by decide +kernel
theorem d_Surf_runOff_58 : decode b_Surf_runOff 58 = .ok (.getfield 43, 3) := by decide +kernel
theorem d_Surf_runOff_61 : decode b_Surf_runOff 61 = .ok (.iload_n 2, 1) := by decide +kernel
theorem d_Surf_runOff_62 : decode b_Surf_runOff 62 = .ok (.iadd, 1) := by decide +kernel
theorem d_Surf_runOff_63 : decode b_Surf_runOff 63 = .ok (.putfield 43, 3) := by decide +kernel
theorem d_Surf_runOff_66 : decode b_Surf_runOff 66 = .ok (.return_, 1) := by decide +kernel
theorem d_Surf_loseToFields_0 : decode b_Surf_loseToFields 0 = .ok (.iload_n 1, 1) := by decide +kernel
theorem d_Surf_loseToFields_1 : decode b_Surf_loseToFields 1 = .ok (.aload_n 0, 1) := by decide +kernel
theorem d_Surf_loseToFields_2 : decode b_Surf_loseToFields 2 = .ok (.getfield 24, 3) := by decide +kernel
theorem d_Surf_loseToFields_5 : decode b_Surf_loseToFields 5 = .ok (.invokestatic 27, 3) := by decide +kernel
theorem d_Surf_loseToFields_8 : decode b_Surf_loseToFields 8 = .ok (.istore_n 2, 1) := by decide +kernel
theorem d_Surf_loseToFields_9 : decode b_Surf_loseToFields 9 = .ok (.aload_n 0, 1) := by decide +kernel
theorem d_Surf_loseToFields_10 : decode b_Surf_loseToFields 10 = .ok (.dup, 1) := by decide +kernel
theorem d_Surf_loseToFields_11 : decode b_Surf_loseToFields 11 = .ok (.getfield 24, 3) := by decide +kernel
theorem d_Surf_loseToFields_14 : decode b_Surf_loseToFields 14 = .ok (.iload_n 2, 1) := by decide +kernel
theorem d_Surf_loseToFields_15 : decode b_Surf_loseToFields 15 = .ok (.isub, 1) := by decide +kernel
theorem d_Surf_loseToFields_16 : decode b_Surf_loseToFields 16 = .ok (.putfield 24, 3) := by decide +kernel
theorem d_Surf_loseToFields_19 : decode b_Surf_loseToFields 19 = .ok (.aload_n 0, 1) := by decide +kernel
theorem d_Surf_loseToFields_20 : decode b_Surf_loseToFields 20 = .ok (.dup, 1) := by decide +kernel
theorem d_Surf_loseToFields_21 : decode b_Surf_loseToFields 21 = .ok (.getfield 46, 3) := by decide +kernel
theorem d_Surf_loseToFields_24 : decode b_Surf_loseToFields 24 = .ok (.iload_n 2, 1) := by decide +kernel
theorem d_Surf_loseToFields_25 : decode b_Surf_loseToFields 25 = .ok (.iadd, 1) := by decide +kernel
theorem d_Surf_loseToFields_26 : decode b_Surf_loseToFields 26 = .ok (.putfield 46, 3) := by decide +kernel
theorem d_Surf_loseToFields_29 : decode b_Surf_loseToFields 29 = .ok (.return_, 1) := by decide +kernel
theorem d_Wea_init_0 : decode b_Wea_init 0 = .ok (.aload_n 0, 1) := by decide +kernel
theorem d_Wea_init_1 : decode b_Wea_init 1 = .ok (.invokespecial 1, 3) := by decide +kernel
theorem d_Wea_init_4 : decode b_Wea_init 4 = .ok (.aload_n 0, 1) := by decide +kernel
theorem d_Wea_init_5 : decode b_Wea_init 5 = .ok (.iconst 5, 1) := by decide +kernel
theorem d_Wea_init_6 : decode b_Wea_init 6 = .ok (.putfield 7, 3) := by decide +kernel
theorem d_Wea_init_9 : decode b_Wea_init 9 = .ok (.return_, 1) := by decide +kernel
theorem d_G_init_0 : decode b_G_init 0 = .ok (.aload_n 0, 1) := by decide +kernel
theorem d_G_init_1 : decode b_G_init 1 = .ok (.invokespecial 1, 3) := by decide +kernel
theorem d_G_init_4 : decode b_G_init 4 = .ok (.aload_n 0, 1) := by decide +kernel
theorem d_G_init_5 : decode b_G_init 5 = .ok (.bipush 8, 2) := by decide +kernel
theorem d_G_init_7 : decode b_G_init 7 = .ok (.anewarray 9, 3) := by decide +kernel
theorem d_G_init_10 : decode b_G_init 10 = .ok (.putfield 11, 3) := by decide +kernel
theorem d_G_init_13 : decode b_G_init 13 = .ok (.aload_n 0, 1) := by decide +kernel
theorem d_G_init_14 : decode b_G_init 14 = .ok (.iconst 3, 1) := by decide +kernel
theorem d_G_init_15 : decode b_G_init 15 = .ok (.anewarray 15, 3) := by decide +kernel
theorem d_G_init_18 : decode b_G_init 18 = .ok (.putfield 17, 3) := by decide +kernel
theorem d_G_init_21 : decode b_G_init 21 = .ok (.aload_n 0, 1) := by decide +kernel
theorem d_G_init_22 : decode b_G_init 22 = .ok (.bipush 20, 2) := by decide +kernel
theorem d_G_init_24 : decode b_G_init 24 = .ok (.anewarray 21, 3) := by decide +kernel
theorem d_G_init_27 : decode b_G_init 27 = .ok (.putfield 23, 3) := by decide +kernel
theorem d_G_init_30 : decode b_G_init 30 = .ok (.aload_n 0, 1) := by decide +kernel
theorem d_G_init_31 : decode b_G_init 31 = .ok (.iconst 5, 1) := by decide +kernel
theorem d_G_init_32 : decode b_G_init 32 = .ok (.anewarray 27, 3) := by decide +kernel
theorem d_G_init_35 : decode b_G_init 35 = .ok (.putfield 29, 3) := by decide +kernel
theorem d_G_init_38 : decode b_G_init 38 = .ok (.aload_n 0, 1) := by decide +kernel
theorem d_G_init_39 : decode b_G_init 39 = .ok (.new 33, 3) := by decide +kernel
theorem d_G_init_42 : decode b_G_init 42 = .ok (.dup, 1) := by decide +kernel
theorem d_G_init_43 : decode b_G_init 43 = .ok (.invokespecial 35, 3) := by decide +kernel
theorem d_G_init_46 : decode b_G_init 46 = .ok (.putfield 36, 3) := by decide +kernel
theorem d_G_init_49 : decode b_G_init 49 = .ok (.aload_n 0, 1) := by decide +kernel
theorem d_G_init_50 : decode b_G_init 50 = .ok (.new 40, 3) := by decide +kernel
theorem d_G_init_53 : decode b_G_init 53 = .ok (.dup, 1) := by decide +kernel
theorem d_G_init_54 : decode b_G_init 54 = .ok (.invokespecial 42, 3) := by decide +kernel
theorem d_G_init_57 : decode b_G_init 57 = .ok (.putfield 43, 3) := by decide +kernel
theorem d_G_init_60 : decode b_G_init 60 = .ok (.aload_n 0, 1) := by decide +kernel
theorem d_G_init_61 : decode b_G_init 61 = .ok (.bipush 7, 2) := by decide +kernel
theorem d_G_init_63 : decode b_G_init 63 = .ok (.newarray .int, 2) := by decide +kernel
theorem d_G_init_65 : decode b_G_init 65 = .ok (.putfield 47, 3) := by decide +kernel
theorem d_G_init_68 : decode b_G_init 68 = .ok (.aload_n 0, 1) := by decide +kernel
theorem d_G_init_69 : decode b_G_init 69 = .ok (.new 51, 3) := by decide +kernel
theorem d_G_init_72 : decode b_G_init 72 = .ok (.dup, 1) := by decide +kernel
theorem d_G_init_73 : decode b_G_init 73 = .ok (.invokespecial 53, 3) := by decide +kernel
theorem d_G_init_76 : decode b_G_init 76 = .ok (.putfield 54, 3) := by decide +kernel
theorem d_G_init_79 : decode b_G_init 79 = .ok (.aload_n 0, 1) := by decide +kernel
theorem d_G_init_80 : decode b_G_init 80 = .ok (.bipush 100, 2) := by decide +kernel
theorem d_G_init_82 : decode b_G_init 82 = .ok (.putfield 58, 3) := by decide +kernel
theorem d_G_init_85 : decode b_G_init 85 = .ok (.return_, 1) := by decide +kernel
theorem d_G_road_0 : decode b_G_road 0 = .ok (.iload_n 1, 1) := by decide +kernel
theorem d_G_road_1 : decode b_G_road 1 = .ok (.invokestatic 62, 3) := by decide +kernel
theorem d_G_road_4 : decode b_G_road 4 = .ok (.ifCond .eq 10, 3) := by decide +kernel
theorem d_G_road_7 : decode b_G_road 7 = .ok (.iload_n 2, 1) := by decide +kernel
theorem d_G_road_8 : decode b_G_road 8 = .ok (.invokestatic 62, 3) := by decide +kernel
theorem d_G_road_11 : decode b_G_road 11 = .ok (.ifCond .ne 13, 3) := by decide +kernel
theorem d_G_road_14 : decode b_G_road 14 = .ok (.new 66, 3) := by decide +kernel
theorem d_G_road_17 : decode b_G_road 17 = .ok (.dup, 1) := by decide +kernel
theorem d_G_road_18 : decode b_G_road 18 = .ok (.ldc 68, 2) := by decide +kernel
theorem d_G_road_20 : decode b_G_road 20 = .ok (.invokespecial 70, 3) := by decide +kernel
theorem d_G_road_23 : decode b_G_road 23 = .ok (.athrow, 1) := by decide +kernel
theorem d_G_road_24 : decode b_G_road 24 = .ok (.iload_n 1, 1) := by decide +kernel
theorem d_G_road_25 : decode b_G_road 25 = .ok (.iload_n 2, 1) := by decide +kernel
theorem d_G_road_26 : decode b_G_road 26 = .ok (.if_icmp .ne 13, 3) := by decide +kernel
theorem d_G_road_29 : decode b_G_road 29 = .ok (.new 73, 3) := by decide +kernel
theorem d_G_road_32 : decode b_G_road 32 = .ok (.dup, 1) := by decide +kernel
theorem d_G_road_33 : decode b_G_road 33 = .ok (.ldc 75, 2) := by decide +kernel
theorem d_G_road_35 : decode b_G_road 35 = .ok (.invokespecial 77, 3) := by decide +kernel
theorem d_G_road_38 : decode b_G_road 38 = .ok (.athrow, 1) := by decide +kernel
theorem d_G_road_39 : decode b_G_road 39 = .ok (.iload_n 3, 1) := by decide +kernel
theorem d_G_road_40 : decode b_G_road 40 = .ok (.iconst 1, 1) := by decide +kernel
theorem d_G_road_41 : decode b_G_road 41 = .ok (.bipush 6, 2) := by decide +kernel
theorem d_G_road_43 : decode b_G_road 43 = .ok (.invokestatic 78, 3) := by decide +kernel
theorem d_G_road_46 : decode b_G_road 46 = .ok (.ifCond .eq 34, 3) := by decide +kernel
theorem d_G_road_49 : decode b_G_road 49 = .ok (.iload 4, 2) := by decide +kernel
theorem d_G_road_51 : decode b_G_road 51 = .ok (.iconst 0, 1) := by decide +kernel
theorem d_G_road_52 : decode b_G_road 52 = .ok (.iconst 2, 1) := by decide +kernel
theorem d_G_road_53 : decode b_G_road 53 = .ok (.invokestatic 78, 3) := by decide +kernel
theorem d_G_road_56 : decode b_G_road 56 = .ok (.ifCond .eq 24, 3) := by decide +kernel
theorem d_G_road_59 : decode b_G_road 59 = .ok (.iload 5, 2) := by decide +kernel
theorem d_G_road_61 : decode b_G_road 61 = .ok (.iconst 0, 1) := by decide +kernel
theorem d_G_road_62 : decode b_G_road 62 = .ok (.bipush 9, 2) := by decide +kernel
theorem d_G_road_64 : decode b_G_road 64 = .ok (.invokestatic 78, 3) := by decide +kernel
theorem d_G_road_67 : decode b_G_road 67 = .ok (.ifCond .eq 13, 3) := by decide +kernel
theorem d_G_road_70 : decode b_G_road 70 = .ok (.iload 6, 2) := by decide +kernel
theorem d_G_road_72 : decode b_G_road 72 = .ok (.iconst 0, 1) := by decide +kernel
theorem d_G_road_73 : decode b_G_road 73 = .ok (.iconst 2, 1) := by decide +kernel
theorem d_G_road_74 : decode b_G_road 74 = .ok (.invokestatic 78, 3) := by decide +kernel
theorem d_G_road_77 : decode b_G_road 77 = .ok (.ifCond .ne 13, 3) := by decide +kernel
theorem d_G_road_80 : decode b_G_road 80 = .ok (.new 73, 3) := by decide +kernel
theorem d_G_road_83 : decode b_G_road 83 = .ok (.dup, 1) := by decide +kernel
theorem d_G_road_84 : decode b_G_road 84 = .ok (.ldc 82, 2) := by decide +kernel
theorem d_G_road_86 : decode b_G_road 86 = .ok (.invokespecial 77, 3) := by decide +kernel
theorem d_G_road_89 : decode b_G_road 89 = .ok (.athrow, 1) := by decide +kernel
theorem d_G_road_90 : decode b_G_road 90 = .ok (.aload_n 0, 1) := by decide +kernel
theorem d_G_road_91 : decode b_G_road 91 = .ok (.getfield 84, 3) := by decide +kernel
theorem d_G_road_94 : decode b_G_road 94 = .ok (.istore 8, 2) := by decide +kernel
theorem d_G_road_96 : decode b_G_road 96 = .ok (.iload 8, 2) := by decide +kernel
theorem d_G_road_98 : decode b_G_road 98 = .ok (.aload_n 0, 1) := by decide +kernel
theorem d_G_road_99 : decode b_G_road 99 = .ok (.getfield 11, 3) := by decide +kernel
theorem d_G_road_102 : decode b_G_road 102 = .ok (.arraylength, 1) := by decide +kernel
theorem d_G_road_103 : decode b_G_road 103 = .ok (.if_icmp .lt 13, 3) := by decide +kernel
theorem d_G_road_106 : decode b_G_road 106 = .ok (.new 87, 3) := by decide +kernel
theorem d_G_road_109 : decode b_G_road 109 = .ok (.dup, 1) := by decide +kernel
theorem d_G_road_110 : decode b_G_road 110 = .ok (.ldc 89, 2) := by decide +kernel
theorem d_G_road_112 : decode b_G_road 112 = .ok (.invokespecial 91, 3) := by decide +kernel
theorem d_G_road_115 : decode b_G_road 115 = .ok (.athrow, 1) := by decide +kernel
theorem d_G_road_116 : decode b_G_road 116 = .ok (.aload_n 0, 1) := by decide +kernel
theorem d_G_road_117 : decode b_G_road 117 = .ok (.getfield 11, 3) := by decide +kernel
theorem d_G_road_120 : decode b_G_road 120 = .ok (.iload 8, 2) := by decide +kernel
theorem d_G_road_122 : decode b_G_road 122 = .ok (.new 9, 3) := by decide +kernel
theorem d_G_road_125 : decode b_G_road 125 = .ok (.dup, 1) := by decide +kernel
theorem d_G_road_126 : decode b_G_road 126 = .ok (.iload_n 1, 1) := by decide +kernel
theorem d_G_road_127 : decode b_G_road 127 = .ok (.iload_n 2, 1) := by decide +kernel
theorem d_G_road_128 : decode b_G_road 128 = .ok (.iload_n 3, 1) := by decide +kernel
theorem d_G_road_129 : decode b_G_road 129 = .ok (.iload 4, 2) := by decide +kernel
theorem d_G_road_131 : decode b_G_road 131 = .ok (.iload 5, 2) := by decide +kernel
theorem d_G_road_133 : decode b_G_road 133 = .ok (.iload 6, 2) := by decide +kernel
theorem d_G_road_135 : decode b_G_road 135 = .ok (.iload 7, 2) := by decide +kernel
theorem d_G_road_137 : decode b_G_road 137 = .ok (.invokespecial 92, 3) := by decide +kernel
theorem d_G_road_140 : decode b_G_road 140 = .ok (.aastore, 1) := by decide +kernel
theorem d_G_road_141 : decode b_G_road 141 = .ok (.aload_n 0, 1) := by decide +kernel
theorem d_G_road_142 : decode b_G_road 142 = .ok (.iload 8, 2) := by decide +kernel
theorem d_G_road_144 : decode b_G_road 144 = .ok (.iconst 1, 1) := by decide +kernel
theorem d_G_road_145 : decode b_G_road 145 = .ok (.iadd, 1) := by decide +kernel
theorem d_G_road_146 : decode b_G_road 146 = .ok (.putfield 84, 3) := by decide +kernel
theorem d_G_road_149 : decode b_G_road 149 = .ok (.iload 8, 2) := by decide +kernel
theorem d_G_road_151 : decode b_G_road 151 = .ok (.ireturn, 1) := by decide +kernel
theorem d_G_air_0 : decode b_G_air 0 = .ok (.iload_n 1, 1) := by decide +kernel
theorem d_G_air_1 : decode b_G_air 1 = .ok (.invokestatic 95, 3) := by decide +kernel
theorem d_G_air_4 : decode b_G_air 4 = .ok (.ifCond .ne 13, 3) := by decide +kernel
theorem d_G_air_7 : decode b_G_air 7 = .ok (.new 73, 3) := by decide +kernel
theorem d_G_air_10 : decode b_G_air 10 = .ok (.dup, 1) := by decide +kernel
theorem d_G_air_11 : decode b_G_air 11 = .ok (.ldc 98, 2) := by decide +kernel
theorem d_G_air_13 : decode b_G_air 13 = .ok (.invokespecial 77, 3) := by decide +kernel
theorem d_G_air_16 : decode b_G_air 16 = .ok (.athrow, 1) := by decide +kernel
theorem d_G_air_17 : decode b_G_air 17 = .ok (.aload_n 0, 1) := by decide +kernel
theorem d_G_air_18 : decode b_G_air 18 = .ok (.getfield 36, 3) := by decide +kernel
theorem d_G_air_21 : decode b_G_air 21 = .ok (.getfield 100, 3) := by decide +kernel
theorem d_G_air_24 : decode b_G_air 24 = .ok (.istore_n 3, 1) := by decide +kernel
theorem d_G_air_25 : decode b_G_air 25 = .ok (.aload_n 0, 1) := by decide +kernel
theorem d_G_air_26 : decode b_G_air 26 = .ok (.getfield 36, 3) := by decide +kernel
theorem d_G_air_29 : decode b_G_air 29 = .ok (.iload_n 1, 1) := by decide +kernel
theorem d_G_air_30 : decode b_G_air 30 = .ok (.putfield 100, 3) := by decide +kernel
theorem d_G_air_33 : decode b_G_air 33 = .ok (.aload_n 0, 1) := by decide +kernel
theorem d_G_air_34 : decode b_G_air 34 = .ok (.getfield 36, 3) := by decide +kernel
theorem d_G_air_37 : decode b_G_air 37 = .ok (.iload_n 2, 1) := by decide +kernel
theorem d_G_air_38 : decode b_G_air 38 = .ok (.putfield 103, 3) := by decide +kernel
theorem d_G_air_41 : decode b_G_air 41 = .ok (.iload_n 3, 1) := by decide +kernel
theorem d_G_air_42 : decode b_G_air 42 = .ok (.ireturn, 1) := by decide +kernel
theorem d_G_fall_0 : decode b_G_fall 0 = .ok (.iload_n 1, 1) := by decide +kernel
theorem d_G_fall_1 : decode b_G_fall 1 = .ok (.iconst 0, 1) := by decide +kernel
theorem d_G_fall_2 : decode b_G_fall 2 = .ok (.iconst 3, 1) := by decide +kernel
theorem d_G_fall_3 : decode b_G_fall 3 = .ok (.invokestatic 78, 3) := by decide +kernel
theorem d_G_fall_6 : decode b_G_fall 6 = .ok (.ifCond .eq 21, 3) := by decide +kernel
theorem d_G_fall_9 : decode b_G_fall 9 = .ok (.iload_n 2, 1) := by decide +kernel
theorem d_G_fall_10 : decode b_G_fall 10 = .ok (.iconst 0, 1) := by decide +kernel
theorem d_G_fall_11 : decode b_G_fall 11 = .ok (.iconst 3, 1) := by decide +kernel
theorem d_G_fall_12 : decode b_G_fall 12 = .ok (.invokestatic 78, 3) := by decide +kernel
theorem d_G_fall_15 : decode b_G_fall 15 = .ok (.ifCond .eq 12, 3) := by decide +kernel
theorem d_G_fall_18 : decode b_G_fall 18 = .ok (.iload_n 3, 1) := by decide +kernel
theorem d_G_fall_19 : decode b_G_fall 19 = .ok (.iconst 0, 1) := by decide +kernel
theorem d_G_fall_20 : decode b_G_fall 20 = .ok (.iconst 3, 1) := by decide +kernel
theorem d_G_fall_21 : decode b_G_fall 21 = .ok (.invokestatic 78, 3) := by decide +kernel
theorem d_G_fall_24 : decode b_G_fall 24 = .ok (.ifCond .ne 13, 3) := by decide +kernel
theorem d_G_fall_27 : decode b_G_fall 27 = .ok (.new 73, 3) := by decide +kernel
theorem d_G_fall_30 : decode b_G_fall 30 = .ok (.dup, 1) := by decide +kernel
theorem d_G_fall_31 : decode b_G_fall 31 = .ok (.ldc 107, 2) := by decide +kernel
theorem d_G_fall_33 : decode b_G_fall 33 = .ok (.invokespecial 77, 3) := by decide +kernel
theorem d_G_fall_36 : decode b_G_fall 36 = .ok (.athrow, 1) := by decide +kernel
theorem d_G_fall_37 : decode b_G_fall 37 = .ok (.aload_n 0, 1) := by decide +kernel
theorem d_G_fall_38 : decode b_G_fall 38 = .ok (.getfield 36, 3) := by decide +kernel
theorem d_G_fall_41 : decode b_G_fall 41 = .ok (.getfield 109, 3) := by decide +kernel
theorem d_G_fall_44 : decode b_G_fall 44 = .ok (.istore 4, 2) := by decide +kernel
theorem d_G_fall_46 : decode b_G_fall 46 = .ok (.aload_n 0, 1) := by decide +kernel
theorem d_G_fall_47 : decode b_G_fall 47 = .ok (.getfield 36, 3) := by decide +kernel
theorem d_G_fall_50 : decode b_G_fall 50 = .ok (.iload_n 1, 1) := by decide +kernel
theorem d_G_fall_51 : decode b_G_fall 51 = .ok (.putfield 112, 3) := by decide +kernel
theorem d_G_fall_54 : decode b_G_fall 54 = .ok (.aload_n 0, 1) := by decide +kernel
theorem d_G_fall_55 : decode b_G_fall 55 = .ok (.getfield 36, 3) := by decide +kernel
theorem d_G_fall_58 : decode b_G_fall 58 = .ok (.iload_n 2, 1) := by decide +kernel
theorem d_G_fall_59 : decode b_G_fall 59 = .ok (.putfield 115, 3) := by decide +kernel
theorem d_G_fall_62 : decode b_G_fall 62 = .ok (.aload_n 0, 1) := by decide +kernel
theorem d_G_fall_63 : decode b_G_fall 63 = .ok (.getfield 36, 3) := by decide +kernel
theorem d_G_fall_66 : decode b_G_fall 66 = .ok (.iload_n 3, 1) := by decide +kernel
theorem d_G_fall_67 : decode b_G_fall 67 = .ok (.putfield 109, 3) := by decide +kernel
theorem d_G_fall_70 : decode b_G_fall 70 = .ok (.iload 4, 2) := by decide +kernel
theorem d_G_fall_72 : decode b_G_fall 72 = .ok (.ireturn, 1) := by decide +kernel
theorem d_G_pass_0 : decode b_G_pass 0 = .ok (.iload_n 1, 1) := by decide +kernel
theorem d_G_pass_1 : decode b_G_pass 1 = .ok (.iconst 1, 1) := by decide +kernel
theorem d_G_pass_2 : decode b_G_pass 2 = .ok (.bipush 20, 2) := by decide +kernel
theorem d_G_pass_4 : decode b_G_pass 4 = .ok (.invokestatic 78, 3) := by decide +kernel
theorem d_G_pass_7 : decode b_G_pass 7 = .ok (.ifCond .ne 13, 3) := by decide +kernel
theorem d_G_pass_10 : decode b_G_pass 10 = .ok (.new 73, 3) := by decide +kernel
theorem d_G_pass_13 : decode b_G_pass 13 = .ok (.dup, 1) := by decide +kernel
theorem d_G_pass_14 : decode b_G_pass 14 = .ok (.ldc 145, 2) := by decide +kernel
theorem d_G_pass_16 : decode b_G_pass 16 = .ok (.invokespecial 77, 3) := by decide +kernel
theorem d_G_pass_19 : decode b_G_pass 19 = .ok (.athrow, 1) := by decide +kernel
theorem d_G_pass_20 : decode b_G_pass 20 = .ok (.aload_n 0, 1) := by decide +kernel
theorem d_G_pass_21 : decode b_G_pass 21 = .ok (.getfield 127, 3) := by decide +kernel
theorem d_G_pass_24 : decode b_G_pass 24 = .ok (.iload_n 1, 1) := by decide +kernel
theorem d_G_pass_25 : decode b_G_pass 25 = .ok (.iadd, 1) := by decide +kernel
theorem d_G_pass_26 : decode b_G_pass 26 = .ok (.sipush 199, 3) := by decide +kernel
theorem d_G_pass_29 : decode b_G_pass 29 = .ok (.if_icmp .le 13, 3) := by decide +kernel
theorem d_G_pass_32 : decode b_G_pass 32 = .ok (.new 87, 3) := by decide +kernel
theorem d_G_pass_35 : decode b_G_pass 35 = .ok (.dup, 1) := by decide +kernel
theorem d_G_pass_36 : decode b_G_pass 36 = .ok (.ldc 147, 2) := by decide +kernel
theorem d_G_pass_38 : decode b_G_pass 38 = .ok (.invokespecial 91, 3) := by decide +kernel
theorem d_G_pass_41 : decode b_G_pass 41 = .ok (.athrow, 1) := by decide +kernel
theorem d_G_pass_42 : decode b_G_pass 42 = .ok (.iconst 0, 1) := by decide +kernel
theorem d_G_pass_43 : decode b_G_pass 43 = .ok (.istore_n 2, 1) := by decide +kernel
theorem d_G_pass_44 : decode b_G_pass 44 = .ok (.iconst 0, 1) := by decide +kernel
theorem d_G_pass_45 : decode b_G_pass 45 = .ok (.istore_n 3, 1) := by decide +kernel
theorem d_G_pass_46 : decode b_G_pass 46 = .ok (.iload_n 3, 1) := by decide +kernel
theorem d_G_pass_47 : decode b_G_pass 47 = .ok (.iload_n 1, 1) := by decide +kernel
theorem d_G_pass_48 : decode b_G_pass 48 = .ok (.if_icmp .ge 20, 3) := by decide +kernel
theorem d_G_pass_51 : decode b_G_pass 51 = .ok (.aload_n 0, 1) := by decide +kernel
theorem d_G_pass_52 : decode b_G_pass 52 = .ok (.invokevirtual 149, 3) := by decide +kernel
theorem d_G_pass_55 : decode b_G_pass 55 = .ok (.iload_n 2, 1) := by decide +kernel
theorem d_G_pass_56 : decode b_G_pass 56 = .ok (.aload_n 0, 1) := by decide +kernel
theorem d_G_pass_57 : decode b_G_pass 57 = .ok (.invokevirtual 152, 3) := by decide +kernel
theorem d_G_pass_60 : decode b_G_pass 60 = .ok (.iadd, 1) := by decide +kernel
theorem d_G_pass_61 : decode b_G_pass 61 = .ok (.istore_n 2, 1) := by decide +kernel
theorem d_G_pass_62 : decode b_G_pass 62 = .ok (.iinc 3 1, 3) := by decide +kernel
theorem d_G_pass_65 : decode b_G_pass 65 = .ok (.goto (-19), 3) := by decide +kernel
theorem d_G_pass_68 : decode b_G_pass 68 = .ok (.iload_n 2, 1) := by decide +kernel
theorem d_G_pass_69 : decode b_G_pass 69 = .ok (.ireturn, 1) := by decide +kernel
theorem d_G_lorry_0 : decode b_G_lorry 0 = .ok (.aload_n 0, 1) := by decide +kernel
theorem d_G_lorry_1 : decode b_G_lorry 1 = .ok (.getfield 155, 3) := by decide +kernel
theorem d_G_lorry_4 : decode b_G_lorry 4 = .ok (.istore_n 2, 1) := by decide +kernel
theorem d_G_lorry_5 : decode b_G_lorry 5 = .ok (.iload_n 2, 1) := by decide +kernel
theorem d_G_lorry_6 : decode b_G_lorry 6 = .ok (.aload_n 0, 1) := by decide +kernel
theorem d_G_lorry_7 : decode b_G_lorry 7 = .ok (.getfield 17, 3) := by decide +kernel
theorem d_G_lorry_10 : decode b_G_lorry 10 = .ok (.arraylength, 1) := by decide +kernel
theorem d_G_lorry_11 : decode b_G_lorry 11 = .ok (.if_icmp .lt 13, 3) := by decide +kernel
theorem d_G_lorry_14 : decode b_G_lorry 14 = .ok (.new 87, 3) := by decide +kernel
theorem d_G_lorry_17 : decode b_G_lorry 17 = .ok (.dup, 1) := by decide +kernel
theorem d_G_lorry_18 : decode b_G_lorry 18 = .ok (.ldc 158, 2) := by decide +kernel
theorem d_G_lorry_20 : decode b_G_lorry 20 = .ok (.invokespecial 91, 3) := by decide +kernel
theorem d_G_lorry_23 : decode b_G_lorry 23 = .ok (.athrow, 1) := by decide +kernel
theorem d_G_lorry_24 : decode b_G_lorry 24 = .ok (.aload_n 0, 1) := by decide +kernel
theorem d_G_lorry_25 : decode b_G_lorry 25 = .ok (.getfield 17, 3) := by decide +kernel
theorem d_G_lorry_28 : decode b_G_lorry 28 = .ok (.iload_n 2, 1) := by decide +kernel
theorem d_G_lorry_29 : decode b_G_lorry 29 = .ok (.new 15, 3) := by decide +kernel
theorem d_G_lorry_32 : decode b_G_lorry 32 = .ok (.dup, 1) := by decide +kernel
theorem d_G_lorry_33 : decode b_G_lorry 33 = .ok (.iload_n 1, 1) := by decide +kernel
theorem d_G_lorry_34 : decode b_G_lorry 34 = .ok (.invokespecial 160, 3) := by decide +kernel
theorem d_G_lorry_37 : decode b_G_lorry 37 = .ok (.aastore, 1) := by decide +kernel
theorem d_G_lorry_38 : decode b_G_lorry 38 = .ok (.aload_n 0, 1) := by decide +kernel
theorem d_G_lorry_39 : decode b_G_lorry 39 = .ok (.iload_n 2, 1) := by decide +kernel
theorem d_G_lorry_40 : decode b_G_lorry 40 = .ok (.iconst 1, 1) := by decide +kernel
theorem d_G_lorry_41 : decode b_G_lorry 41 = .ok (.iadd, 1) := by decide +kernel
theorem d_G_lorry_42 : decode b_G_lorry 42 = .ok (.putfield 155, 3) := by decide +kernel
theorem d_G_lorry_45 : decode b_G_lorry 45 = .ok (.iload_n 2, 1) := by decide +kernel
theorem d_G_lorry_46 : decode b_G_lorry 46 = .ok (.ireturn, 1) := by decide +kernel
theorem d_G_order_0 : decode b_G_order 0 = .ok (.aload_n 0, 1) := by decide +kernel
theorem d_G_order_1 : decode b_G_order 1 = .ok (.iload_n 1, 1) := by decide +kernel
theorem d_G_order_2 : decode b_G_order 2 = .ok (.invokevirtual 163, 3) := by decide +kernel
theorem d_G_order_5 : decode b_G_order 5 = .ok (.astore_n 3, 1) := by decide +kernel
theorem d_G_order_6 : decode b_G_order 6 = .ok (.aload_n 3, 1) := by decide +kernel
theorem d_G_order_7 : decode b_G_order 7 = .ok (.ifnull 11, 3) := by decide +kernel
theorem d_G_order_10 : decode b_G_order 10 = .ok (.aload_n 0, 1) := by decide +kernel
theorem d_G_order_11 : decode b_G_order 11 = .ok (.iload_n 2, 1) := by decide +kernel
theorem d_G_order_12 : decode b_G_order 12 = .ok (.invokevirtual 174, 3) := by decide +kernel
theorem d_G_order_15 : decode b_G_order 15 = .ok (.ifnonnull 13, 3) := by decide +kernel
theorem d_G_order_18 : decode b_G_order 18 = .ok (.new 66, 3) := by decide +kernel
theorem d_G_order_21 : decode b_G_order 21 = .ok (.dup, 1) := by decide +kernel
theorem d_G_order_22 : decode b_G_order 22 = .ok (.ldc 178, 2) := by decide +kernel
theorem d_G_order_24 : decode b_G_order 24 = .ok (.invokespecial 70, 3) := by decide +kernel
theorem d_G_order_27 : decode b_G_order 27 = .ok (.athrow, 1) := by decide +kernel
theorem d_G_order_28 : decode b_G_order 28 = .ok (.aload_n 3, 1) := by decide +kernel
theorem d_G_order_29 : decode b_G_order 29 = .ok (.getfield 180, 3) := by decide +kernel
theorem d_G_order_32 : decode b_G_order 32 = .ok (.bipush 8, 2) := by decide +kernel
theorem d_G_order_34 : decode b_G_order 34 = .ok (.if_icmp .lt 13, 3) := by decide +kernel
theorem d_G_order_37 : decode b_G_order 37 = .ok (.new 87, 3) := by decide +kernel
theorem d_G_order_40 : decode b_G_order 40 = .ok (.dup, 1) := by decide +kernel
theorem d_G_order_41 : decode b_G_order 41 = .ok (.ldc 183, 2) := by decide +kernel
theorem d_G_order_43 : decode b_G_order 43 = .ok (.invokespecial 91, 3) := by decide +kernel
theorem d_G_order_46 : decode b_G_order 46 = .ok (.athrow, 1) := by decide +kernel
theorem d_G_order_47 : decode b_G_order 47 = .ok (.aload_n 3, 1) := by decide +kernel
theorem d_G_order_48 : decode b_G_order 48 = .ok (.iload_n 2, 1) := by decide +kernel
theorem d_G_order_49 : decode b_G_order 49 = .ok (.invokevirtual 185, 3) := by decide +kernel
theorem d_G_order_52 : decode b_G_order 52 = .ok (.aload_n 3, 1) := by decide +kernel
theorem d_G_order_53 : decode b_G_order 53 = .ok (.getfield 180, 3) := by decide +kernel
theorem d_G_order_56 : decode b_G_order 56 = .ok (.ireturn, 1) := by decide +kernel
theorem d_G_rest_0 : decode b_G_rest 0 = .ok (.aload_n 0, 1) := by decide +kernel
theorem d_G_rest_1 : decode b_G_rest 1 = .ok (.iload_n 1, 1) := by decide +kernel
theorem d_G_rest_2 : decode b_G_rest 2 = .ok (.invokevirtual 163, 3) := by decide +kernel
theorem d_G_rest_5 : decode b_G_rest 5 = .ok (.astore_n 2, 1) := by decide +kernel
theorem d_G_rest_6 : decode b_G_rest 6 = .ok (.aload_n 2, 1) := by decide +kernel
theorem d_G_rest_7 : decode b_G_rest 7 = .ok (.ifnonnull 13, 3) := by decide +kernel
theorem d_G_rest_10 : decode b_G_rest 10 = .ok (.new 66, 3) := by decide +kernel
theorem d_G_rest_13 : decode b_G_rest 13 = .ok (.dup, 1) := by decide +kernel
theorem d_G_rest_14 : decode b_G_rest 14 = .ok (.ldc 167, 2) := by decide +kernel
theorem d_G_rest_16 : decode b_G_rest 16 = .ok (.invokespecial 70, 3) := by decide +kernel
theorem d_G_rest_19 : decode b_G_rest 19 = .ok (.athrow, 1) := by decide +kernel
theorem d_G_rest_20 : decode b_G_rest 20 = .ok (.aload_n 2, 1) := by decide +kernel
theorem d_G_rest_21 : decode b_G_rest 21 = .ok (.getfield 189, 3) := by decide +kernel
theorem d_G_rest_24 : decode b_G_rest 24 = .ok (.iconst (-1), 1) := by decide +kernel
theorem d_G_rest_25 : decode b_G_rest 25 = .ok (.if_icmp .ne 13, 3) := by decide +kernel
theorem d_G_rest_28 : decode b_G_rest 28 = .ok (.new 87, 3) := by decide +kernel
theorem d_G_rest_31 : decode b_G_rest 31 = .ok (.dup, 1) := by decide +kernel
theorem d_G_rest_32 : decode b_G_rest 32 = .ok (.ldc 203, 2) := by decide +kernel
theorem d_G_rest_34 : decode b_G_rest 34 = .ok (.invokespecial 91, 3) := by decide +kernel
theorem d_G_rest_37 : decode b_G_rest 37 = .ok (.athrow, 1) := by decide +kernel
theorem d_G_rest_38 : decode b_G_rest 38 = .ok (.aload_n 2, 1) := by decide +kernel
theorem d_G_rest_39 : decode b_G_rest 39 = .ok (.getfield 205, 3) := by decide +kernel
theorem d_G_rest_42 : decode b_G_rest 42 = .ok (.istore_n 3, 1) := by decide +kernel
theorem d_G_rest_43 : decode b_G_rest 43 = .ok (.aload_n 2, 1) := by decide +kernel
theorem d_G_rest_44 : decode b_G_rest 44 = .ok (.iconst 0, 1) := by decide +kernel
theorem d_G_rest_45 : decode b_G_rest 45 = .ok (.putfield 205, 3) := by decide +kernel
theorem d_G_rest_48 : decode b_G_rest 48 = .ok (.aload_n 2, 1) := by decide +kernel
theorem d_G_rest_49 : decode b_G_rest 49 = .ok (.iconst 0, 1) := by decide +kernel
theorem d_G_rest_50 : decode b_G_rest 50 = .ok (.putfield 180, 3) := by decide +kernel
theorem d_G_rest_53 : decode b_G_rest 53 = .ok (.iload_n 3, 1) := by decide +kernel
theorem d_G_rest_54 : decode b_G_rest 54 = .ok (.ireturn, 1) := by decide +kernel
theorem d_G_ofRoad_0 : decode b_G_ofRoad 0 = .ok (.aload_n 0, 1) := by decide +kernel
theorem d_G_ofRoad_1 : decode b_G_ofRoad 1 = .ok (.iload_n 1, 1) := by decide +kernel
theorem d_G_ofRoad_2 : decode b_G_ofRoad 2 = .ok (.invokevirtual 174, 3) := by decide +kernel
theorem d_G_ofRoad_5 : decode b_G_ofRoad 5 = .ok (.astore_n 3, 1) := by decide +kernel
theorem d_G_ofRoad_6 : decode b_G_ofRoad 6 = .ok (.aload_n 3, 1) := by decide +kernel
theorem d_G_ofRoad_7 : decode b_G_ofRoad 7 = .ok (.ifnonnull 13, 3) := by decide +kernel
theorem d_G_ofRoad_10 : decode b_G_ofRoad 10 = .ok (.new 66, 3) := by decide +kernel
theorem d_G_ofRoad_13 : decode b_G_ofRoad 13 = .ok (.dup, 1) := by decide +kernel
theorem d_G_ofRoad_14 : decode b_G_ofRoad 14 = .ok (.ldc 222, 2) := by decide +kernel
theorem d_G_ofRoad_16 : decode b_G_ofRoad 16 = .ok (.invokespecial 70, 3) := by decide +kernel
theorem d_G_ofRoad_19 : decode b_G_ofRoad 19 = .ok (.athrow, 1) := by decide +kernel
theorem d_G_ofRoad_20 : decode b_G_ofRoad 20 = .ok (.iload_n 2, 1) := by decide +kernel
theorem d_G_ofRoad_21 : decode b_G_ofRoad 21 = .ok (.iconst 0, 1) := by decide +kernel
theorem d_G_ofRoad_22 : decode b_G_ofRoad 22 = .ok (.bipush 14, 2) := by decide +kernel
theorem d_G_ofRoad_24 : decode b_G_ofRoad 24 = .ok (.invokestatic 78, 3) := by decide +kernel
theorem d_G_ofRoad_27 : decode b_G_ofRoad 27 = .ok (.ifCond .ne 13, 3) := by decide +kernel
theorem d_G_ofRoad_30 : decode b_G_ofRoad 30 = .ok (.new 73, 3) := by decide +kernel
theorem d_G_ofRoad_33 : decode b_G_ofRoad 33 = .ok (.dup, 1) := by decide +kernel
theorem d_G_ofRoad_34 : decode b_G_ofRoad 34 = .ok (.ldc 230, 2) := by decide +kernel
theorem d_G_ofRoad_36 : decode b_G_ofRoad 36 = .ok (.invokespecial 77, 3) := by decide +kernel
theorem d_G_ofRoad_39 : decode b_G_ofRoad 39 = .ok (.athrow, 1) := by decide +kernel
theorem d_G_ofRoad_40 : decode b_G_ofRoad 40 = .ok (.aload_n 3, 1) := by decide +kernel
theorem d_G_ofRoad_41 : decode b_G_ofRoad 41 = .ok (.iload_n 2, 1) := by decide +kernel
theorem d_G_ofRoad_42 : decode b_G_ofRoad 42 = .ok (.invokevirtual 232, 3) := by decide +kernel
theorem d_G_ofRoad_45 : decode b_G_ofRoad 45 = .ok (.ireturn, 1) := by decide +kernel
theorem d_G_ofLorry_0 : decode b_G_ofLorry 0 = .ok (.aload_n 0, 1) := by decide +kernel
theorem d_G_ofLorry_1 : decode b_G_ofLorry 1 = .ok (.iload_n 1, 1) := by decide +kernel
theorem d_G_ofLorry_2 : decode b_G_ofLorry 2 = .ok (.invokevirtual 163, 3) := by decide +kernel
theorem d_G_ofLorry_5 : decode b_G_ofLorry 5 = .ok (.astore_n 3, 1) := by decide +kernel
theorem d_G_ofLorry_6 : decode b_G_ofLorry 6 = .ok (.aload_n 3, 1) := by decide +kernel
theorem d_G_ofLorry_7 : decode b_G_ofLorry 7 = .ok (.ifnonnull 13, 3) := by decide +kernel
theorem d_G_ofLorry_10 : decode b_G_ofLorry 10 = .ok (.new 66, 3) := by decide +kernel
theorem d_G_ofLorry_13 : decode b_G_ofLorry 13 = .ok (.dup, 1) := by decide +kernel
theorem d_G_ofLorry_14 : decode b_G_ofLorry 14 = .ok (.ldc 167, 2) := by decide +kernel
theorem d_G_ofLorry_16 : decode b_G_ofLorry 16 = .ok (.invokespecial 70, 3) := by decide +kernel
theorem d_G_ofLorry_19 : decode b_G_ofLorry 19 = .ok (.athrow, 1) := by decide +kernel
theorem d_G_ofLorry_20 : decode b_G_ofLorry 20 = .ok (.iload_n 2, 1) := by decide +kernel
theorem d_G_ofLorry_21 : decode b_G_ofLorry 21 = .ok (.iconst 0, 1) := by decide +kernel
theorem d_G_ofLorry_22 : decode b_G_ofLorry 22 = .ok (.bipush 8, 2) := by decide +kernel
theorem d_G_ofLorry_24 : decode b_G_ofLorry 24 = .ok (.invokestatic 78, 3) := by decide +kernel
theorem d_G_ofLorry_27 : decode b_G_ofLorry 27 = .ok (.ifCond .ne 13, 3) := by decide +kernel
theorem d_G_ofLorry_30 : decode b_G_ofLorry 30 = .ok (.new 73, 3) := by decide +kernel
theorem d_G_ofLorry_33 : decode b_G_ofLorry 33 = .ok (.dup, 1) := by decide +kernel
theorem d_G_ofLorry_34 : decode b_G_ofLorry 34 = .ok (.ldc 236, 2) := by decide +kernel
theorem d_G_ofLorry_36 : decode b_G_ofLorry 36 = .ok (.invokespecial 77, 3) := by decide +kernel
theorem d_G_ofLorry_39 : decode b_G_ofLorry 39 = .ok (.athrow, 1) := by decide +kernel
theorem d_G_ofLorry_40 : decode b_G_ofLorry 40 = .ok (.aload_n 3, 1) := by decide +kernel
theorem d_G_ofLorry_41 : decode b_G_ofLorry 41 = .ok (.iload_n 2, 1) := by decide +kernel
theorem d_G_ofLorry_42 : decode b_G_ofLorry 42 = .ok (.invokevirtual 238, 3) := by decide +kernel
theorem d_G_ofLorry_45 : decode b_G_ofLorry 45 = .ok (.ireturn, 1) := by decide +kernel
theorem d_G_many_0 : decode b_G_many 0 = .ok (.iload_n 1, 1) := by decide +kernel
theorem d_G_many_1 : decode b_G_many 1 = .ok (.iconst 0, 1) := by decide +kernel
theorem d_G_many_2 : decode b_G_many 2 = .ok (.bipush 14, 2) := by decide +kernel
theorem d_G_many_4 : decode b_G_many 4 = .ok (.invokestatic 78, 3) := by decide +kernel
theorem d_G_many_7 : decode b_G_many 7 = .ok (.ifCond .ne 13, 3) := by decide +kernel
theorem d_G_many_10 : decode b_G_many 10 = .ok (.new 73, 3) := by decide +kernel
theorem d_G_many_13 : decode b_G_many 13 = .ok (.dup, 1) := by decide +kernel
theorem d_G_many_14 : decode b_G_many 14 = .ok (.ldc 230, 2) := by decide +kernel
theorem d_G_many_16 : decode b_G_many 16 = .ok (.invokespecial 77, 3) := by decide +kernel
theorem d_G_many_19 : decode b_G_many 19 = .ok (.athrow, 1) := by decide +kernel
theorem d_G_many_20 : decode b_G_many 20 = .ok (.aload_n 0, 1) := by decide +kernel
theorem d_G_many_21 : decode b_G_many 21 = .ok (.iload_n 1, 1) := by decide +kernel
theorem d_G_many_22 : decode b_G_many 22 = .ok (.invokevirtual 239, 3) := by decide +kernel
theorem d_G_many_25 : decode b_G_many 25 = .ok (.ireturn, 1) := by decide +kernel
theorem d_G_slipperyIn_0 : decode b_G_slipperyIn 0 = .ok (.aload_n 0, 1) := by decide +kernel
theorem d_G_slipperyIn_1 : decode b_G_slipperyIn 1 = .ok (.iload_n 1, 1) := by decide +kernel
theorem d_G_slipperyIn_2 : decode b_G_slipperyIn 2 = .ok (.invokevirtual 174, 3) := by decide +kernel
theorem d_G_slipperyIn_5 : decode b_G_slipperyIn 5 = .ok (.astore_n 3, 1) := by decide +kernel
theorem d_G_slipperyIn_6 : decode b_G_slipperyIn 6 = .ok (.aload_n 3, 1) := by decide +kernel
theorem d_G_slipperyIn_7 : decode b_G_slipperyIn 7 = .ok (.ifnonnull 13, 3) := by decide +kernel
theorem d_G_slipperyIn_10 : decode b_G_slipperyIn 10 = .ok (.new 66, 3) := by decide +kernel
theorem d_G_slipperyIn_13 : decode b_G_slipperyIn 13 = .ok (.dup, 1) := by decide +kernel
theorem d_G_slipperyIn_14 : decode b_G_slipperyIn 14 = .ok (.ldc 222, 2) := by decide +kernel
theorem d_G_slipperyIn_16 : decode b_G_slipperyIn 16 = .ok (.invokespecial 70, 3) := by decide +kernel
theorem d_G_slipperyIn_19 : decode b_G_slipperyIn 19 = .ok (.athrow, 1) := by decide +kernel
theorem d_G_slipperyIn_20 : decode b_G_slipperyIn 20 = .ok (.iload_n 2, 1) := by decide +kernel
theorem d_G_slipperyIn_21 : decode b_G_slipperyIn 21 = .ok (.iconst 1, 1) := by decide +kernel
theorem d_G_slipperyIn_22 : decode b_G_slipperyIn 22 = .ok (.bipush 24, 2) := by decide +kernel
theorem d_G_slipperyIn_24 : decode b_G_slipperyIn 24 = .ok (.invokestatic 78, 3) := by decide +kernel
theorem d_G_slipperyIn_27 : decode b_G_slipperyIn 27 = .ok (.ifCond .ne 13, 3) := by decide +kernel
theorem d_G_slipperyIn_30 : decode b_G_slipperyIn 30 = .ok (.new 73, 3) := by decide +kernel
theorem d_G_slipperyIn_33 : decode b_G_slipperyIn 33 = .ok (.dup, 1) := by decide +kernel
theorem d_G_slipperyIn_34 : decode b_G_slipperyIn 34 = .ok (.ldc 251, 2) := by decide +kernel
theorem d_G_slipperyIn_36 : decode b_G_slipperyIn 36 = .ok (.invokespecial 77, 3) := by decide +kernel
theorem d_G_slipperyIn_39 : decode b_G_slipperyIn 39 = .ok (.athrow, 1) := by decide +kernel
theorem d_G_slipperyIn_40 : decode b_G_slipperyIn 40 = .ok (.aload_n 0, 1) := by decide +kernel
theorem d_G_slipperyIn_41 : decode b_G_slipperyIn 41 = .ok (.aload_n 3, 1) := by decide +kernel
theorem d_G_slipperyIn_42 : decode b_G_slipperyIn 42 = .ok (.iconst 0, 1) := by decide +kernel
theorem d_G_slipperyIn_43 : decode b_G_slipperyIn 43 = .ok (.iload_n 2, 1) := by decide +kernel
theorem d_G_slipperyIn_44 : decode b_G_slipperyIn 44 = .ok (.invokevirtual 253, 3) := by decide +kernel
theorem d_G_slipperyIn_47 : decode b_G_slipperyIn 47 = .ok (.ireturn, 1) := by decide +kernel
theorem d_G_saltFor_0 : decode b_G_saltFor 0 = .ok (.aload_n 0, 1) := by decide +kernel
theorem d_G_saltFor_1 : decode b_G_saltFor 1 = .ok (.iload_n 1, 1) := by decide +kernel
theorem d_G_saltFor_2 : decode b_G_saltFor 2 = .ok (.invokevirtual 174, 3) := by decide +kernel
theorem d_G_saltFor_5 : decode b_G_saltFor 5 = .ok (.astore_n 3, 1) := by decide +kernel
theorem d_G_saltFor_6 : decode b_G_saltFor 6 = .ok (.aload_n 3, 1) := by decide +kernel
theorem d_G_saltFor_7 : decode b_G_saltFor 7 = .ok (.ifnonnull 13, 3) := by decide +kernel
theorem d_G_saltFor_10 : decode b_G_saltFor 10 = .ok (.new 66, 3) := by decide +kernel
theorem d_G_saltFor_13 : decode b_G_saltFor 13 = .ok (.dup, 1) := by decide +kernel
theorem d_G_saltFor_14 : decode b_G_saltFor 14 = .ok (.ldc 222, 2) := by decide +kernel
theorem d_G_saltFor_16 : decode b_G_saltFor 16 = .ok (.invokespecial 70, 3) := by decide +kernel
theorem d_G_saltFor_19 : decode b_G_saltFor 19 = .ok (.athrow, 1) := by decide +kernel
theorem d_G_saltFor_20 : decode b_G_saltFor 20 = .ok (.iload_n 2, 1) := by decide +kernel
theorem d_G_saltFor_21 : decode b_G_saltFor 21 = .ok (.iconst 1, 1) := by decide +kernel
theorem d_G_saltFor_22 : decode b_G_saltFor 22 = .ok (.bipush 24, 2) := by decide +kernel
theorem d_G_saltFor_24 : decode b_G_saltFor 24 = .ok (.invokestatic 78, 3) := by decide +kernel
theorem d_G_saltFor_27 : decode b_G_saltFor 27 = .ok (.ifCond .ne 13, 3) := by decide +kernel
theorem d_G_saltFor_30 : decode b_G_saltFor 30 = .ok (.new 73, 3) := by decide +kernel
theorem d_G_saltFor_33 : decode b_G_saltFor 33 = .ok (.dup, 1) := by decide +kernel
theorem d_G_saltFor_34 : decode b_G_saltFor 34 = .ok (.ldc 251, 2) := by decide +kernel
theorem d_G_saltFor_36 : decode b_G_saltFor 36 = .ok (.invokespecial 77, 3) := by decide +kernel
theorem d_G_saltFor_39 : decode b_G_saltFor 39 = .ok (.athrow, 1) := by decide +kernel
theorem d_G_saltFor_40 : decode b_G_saltFor 40 = .ok (.aload_n 0, 1) := by decide +kernel
theorem d_G_saltFor_41 : decode b_G_saltFor 41 = .ok (.aload_n 3, 1) := by decide +kernel
theorem d_G_saltFor_42 : decode b_G_saltFor 42 = .ok (.iload_n 2, 1) := by decide +kernel
theorem d_G_saltFor_43 : decode b_G_saltFor 43 = .ok (.invokevirtual 257, 3) := by decide +kernel
theorem d_G_saltFor_46 : decode b_G_saltFor 46 = .ok (.ireturn, 1) := by decide +kernel
theorem d_G_bestOrders_0 : decode b_G_bestOrders 0 = .ok (.aload_n 0, 1) := by decide +kernel
theorem d_G_bestOrders_1 : decode b_G_bestOrders 1 = .ok (.iload_n 1, 1) := by decide +kernel
theorem d_G_bestOrders_2 : decode b_G_bestOrders 2 = .ok (.invokevirtual 163, 3) := by decide +kernel
theorem d_G_bestOrders_5 : decode b_G_bestOrders 5 = .ok (.ifnull 10, 3) := by decide +kernel
theorem d_G_bestOrders_8 : decode b_G_bestOrders 8 = .ok (.iload_n 2, 1) := by decide +kernel
theorem d_G_bestOrders_9 : decode b_G_bestOrders 9 = .ok (.invokestatic 62, 3) := by decide +kernel
theorem d_G_bestOrders_12 : decode b_G_bestOrders 12 = .ok (.ifCond .ne 14, 3) := by decide +kernel
theorem d_G_bestOrders_15 : decode b_G_bestOrders 15 = .ok (.new 66, 3) := by decide +kernel
theorem d_G_bestOrders_18 : decode b_G_bestOrders 18 = .ok (.dup, 1) := by decide +kernel
theorem d_G_bestOrders_19 : decode b_G_bestOrders 19 = .ok (.ldc_w 260, 3) := by decide +kernel
theorem d_G_bestOrders_22 : decode b_G_bestOrders 22 = .ok (.invokespecial 70, 3) := by decide +kernel
theorem d_G_bestOrders_25 : decode b_G_bestOrders 25 = .ok (.athrow, 1) := by decide +kernel
theorem d_G_bestOrders_26 : decode b_G_bestOrders 26 = .ok (.aload_n 0, 1) := by decide +kernel
theorem d_G_bestOrders_27 : decode b_G_bestOrders 27 = .ok (.getfield 54, 3) := by decide +kernel
theorem d_G_bestOrders_30 : decode b_G_bestOrders 30 = .ok (.aload_n 0, 1) := by decide +kernel
theorem d_G_bestOrders_31 : decode b_G_bestOrders 31 = .ok (.getfield 11, 3) := by decide +kernel
theorem d_G_bestOrders_34 : decode b_G_bestOrders 34 = .ok (.iload_n 2, 1) := by decide +kernel
theorem d_G_bestOrders_35 : decode b_G_bestOrders 35 = .ok (.invokevirtual 262, 3) := by decide +kernel
theorem d_G_bestOrders_38 : decode b_G_bestOrders 38 = .ok (.ireturn, 1) := by decide +kernel
theorem d_G_digest_0 : decode b_G_digest 0 = .ok (.ldc2_w 266, 3) := by decide +kernel
theorem d_G_digest_3 : decode b_G_digest 3 = .ok (.lstore_n 1, 1) := by decide +kernel
theorem d_G_digest_4 : decode b_G_digest 4 = .ok (.iconst 0, 1) := by decide +kernel
theorem d_G_digest_5 : decode b_G_digest 5 = .ok (.istore_n 3, 1) := by decide +kernel
theorem d_G_digest_6 : decode b_G_digest 6 = .ok (.iload_n 3, 1) := by decide +kernel
theorem d_G_digest_7 : decode b_G_digest 7 = .ok (.bipush 14, 2) := by decide +kernel
theorem d_G_digest_9 : decode b_G_digest 9 = .ok (.if_icmp .gt 22, 3) := by decide +kernel
theorem d_G_digest_12 : decode b_G_digest 12 = .ok (.lload_n 1, 1) := by decide +kernel
theorem d_G_digest_13 : decode b_G_digest 13 = .ok (.ldc2_w 268, 3) := by decide +kernel
theorem d_G_digest_16 : decode b_G_digest 16 = .ok (.lmul, 1) := by decide +kernel
theorem d_G_digest_17 : decode b_G_digest 17 = .ok (.aload_n 0, 1) := by decide +kernel
theorem d_G_digest_18 : decode b_G_digest 18 = .ok (.iload_n 3, 1) := by decide +kernel
theorem d_G_digest_19 : decode b_G_digest 19 = .ok (.invokevirtual 239, 3) := by decide +kernel
theorem d_G_digest_22 : decode b_G_digest 22 = .ok (.i2l, 1) := by decide +kernel
theorem d_G_digest_23 : decode b_G_digest 23 = .ok (.ladd, 1) := by decide +kernel
theorem d_G_digest_24 : decode b_G_digest 24 = .ok (.lstore_n 1, 1) := by decide +kernel
theorem d_G_digest_25 : decode b_G_digest 25 = .ok (.iinc 3 1, 3) := by decide +kernel
theorem d_G_digest_28 : decode b_G_digest 28 = .ok (.goto (-22), 3) := by decide +kernel
theorem d_G_digest_31 : decode b_G_digest 31 = .ok (.aload_n 0, 1) := by decide +kernel
theorem d_G_digest_32 : decode b_G_digest 32 = .ok (.getfield 11, 3) := by decide +kernel
theorem d_G_digest_35 : decode b_G_digest 35 = .ok (.astore_n 3, 1) := by decide +kernel
theorem d_G_digest_36 : decode b_G_digest 36 = .ok (.aload_n 3, 1) := by decide +kernel
theorem d_G_digest_37 : decode b_G_digest 37 = .ok (.arraylength, 1) := by decide +kernel
theorem d_G_digest_38 : decode b_G_digest 38 = .ok (.istore 4, 2) := by decide +kernel
theorem d_G_digest_40 : decode b_G_digest 40 = .ok (.iconst 0, 1) := by decide +kernel
theorem d_G_digest_41 : decode b_G_digest 41 = .ok (.istore 5, 2) := by decide +kernel
theorem d_G_digest_43 : decode b_G_digest 43 = .ok (.iload 5, 2) := by decide +kernel
theorem d_G_digest_45 : decode b_G_digest 45 = .ok (.iload 4, 2) := by decide +kernel
theorem d_G_digest_47 : decode b_G_digest 47 = .ok (.if_icmp .ge 28, 3) := by decide +kernel
theorem d_G_digest_50 : decode b_G_digest 50 = .ok (.aload_n 3, 1) := by decide +kernel
theorem d_G_digest_51 : decode b_G_digest 51 = .ok (.iload 5, 2) := by decide +kernel
theorem d_G_digest_53 : decode b_G_digest 53 = .ok (.aaload, 1) := by decide +kernel
theorem d_G_digest_54 : decode b_G_digest 54 = .ok (.astore 6, 2) := by decide +kernel
theorem d_G_digest_56 : decode b_G_digest 56 = .ok (.aload 6, 2) := by decide +kernel
theorem d_G_digest_58 : decode b_G_digest 58 = .ok (.ifnull 11, 3) := by decide +kernel
theorem d_G_digest_61 : decode b_G_digest 61 = .ok (.aload_n 0, 1) := by decide +kernel
theorem d_G_digest_62 : decode b_G_digest 62 = .ok (.aload 6, 2) := by decide +kernel
theorem d_G_digest_64 : decode b_G_digest 64 = .ok (.lload_n 1, 1) := by decide +kernel
theorem d_G_digest_65 : decode b_G_digest 65 = .ok (.invokevirtual 270, 3) := by decide +kernel
theorem d_G_digest_68 : decode b_G_digest 68 = .ok (.lstore_n 1, 1) := by decide +kernel
theorem d_G_digest_69 : decode b_G_digest 69 = .ok (.iinc 5 1, 3) := by decide +kernel
theorem d_G_digest_72 : decode b_G_digest 72 = .ok (.goto (-29), 3) := by decide +kernel
theorem d_G_digest_75 : decode b_G_digest 75 = .ok (.aload_n 0, 1) := by decide +kernel
theorem d_G_digest_76 : decode b_G_digest 76 = .ok (.getfield 17, 3) := by decide +kernel
theorem d_G_digest_79 : decode b_G_digest 79 = .ok (.astore_n 3, 1) := by decide +kernel
theorem d_G_digest_80 : decode b_G_digest 80 = .ok (.aload_n 3, 1) := by decide +kernel
theorem d_G_digest_81 : decode b_G_digest 81 = .ok (.arraylength, 1) := by decide +kernel
theorem d_G_digest_82 : decode b_G_digest 82 = .ok (.istore 4, 2) := by decide +kernel
theorem d_G_digest_84 : decode b_G_digest 84 = .ok (.iconst 0, 1) := by decide +kernel
theorem d_G_digest_85 : decode b_G_digest 85 = .ok (.istore 5, 2) := by decide +kernel
theorem d_G_digest_87 : decode b_G_digest 87 = .ok (.iload 5, 2) := by decide +kernel
theorem d_G_digest_89 : decode b_G_digest 89 = .ok (.iload 4, 2) := by decide +kernel
theorem d_G_digest_91 : decode b_G_digest 91 = .ok (.if_icmp .ge 27, 3) := by decide +kernel
theorem d_G_digest_94 : decode b_G_digest 94 = .ok (.aload_n 3, 1) := by decide +kernel
theorem d_G_digest_95 : decode b_G_digest 95 = .ok (.iload 5, 2) := by decide +kernel
theorem d_G_digest_97 : decode b_G_digest 97 = .ok (.aaload, 1) := by decide +kernel
theorem d_G_digest_98 : decode b_G_digest 98 = .ok (.astore 6, 2) := by decide +kernel
theorem d_G_digest_100 : decode b_G_digest 100 = .ok (.aload 6, 2) := by decide +kernel
theorem d_G_digest_102 : decode b_G_digest 102 = .ok (.ifnull 10, 3) := by decide +kernel
theorem d_G_digest_105 : decode b_G_digest 105 = .ok (.aload 6, 2) := by decide +kernel
theorem d_G_digest_107 : decode b_G_digest 107 = .ok (.lload_n 1, 1) := by decide +kernel
theorem d_G_digest_108 : decode b_G_digest 108 = .ok (.invokestatic 274, 3) := by decide +kernel
theorem d_G_digest_111 : decode b_G_digest 111 = .ok (.lstore_n 1, 1) := by decide +kernel
theorem d_G_digest_112 : decode b_G_digest 112 = .ok (.iinc 5 1, 3) := by decide +kernel
theorem d_G_digest_115 : decode b_G_digest 115 = .ok (.goto (-28), 3) := by decide +kernel
theorem d_G_digest_118 : decode b_G_digest 118 = .ok (.iconst 0, 1) := by decide +kernel
theorem d_G_digest_119 : decode b_G_digest 119 = .ok (.istore_n 3, 1) := by decide +kernel
theorem d_G_digest_120 : decode b_G_digest 120 = .ok (.iload_n 3, 1) := by decide +kernel
theorem d_G_digest_121 : decode b_G_digest 121 = .ok (.bipush 7, 2) := by decide +kernel
theorem d_G_digest_123 : decode b_G_digest 123 = .ok (.if_icmp .ge 23, 3) := by decide +kernel
theorem d_G_digest_126 : decode b_G_digest 126 = .ok (.lload_n 1, 1) := by decide +kernel
theorem d_G_digest_127 : decode b_G_digest 127 = .ok (.ldc2_w 268, 3) := by decide +kernel
theorem d_G_digest_130 : decode b_G_digest 130 = .ok (.lmul, 1) := by decide +kernel
theorem d_G_digest_131 : decode b_G_digest 131 = .ok (.aload_n 0, 1) := by decide +kernel
theorem d_G_digest_132 : decode b_G_digest 132 = .ok (.iconst 0, 1) := by decide +kernel
theorem d_G_digest_133 : decode b_G_digest 133 = .ok (.iload_n 3, 1) := by decide +kernel
theorem d_G_digest_134 : decode b_G_digest 134 = .ok (.invokevirtual 242, 3) := by decide +kernel
theorem d_G_digest_137 : decode b_G_digest 137 = .ok (.i2l, 1) := by decide +kernel
theorem d_G_digest_138 : decode b_G_digest 138 = .ok (.ladd, 1) := by decide +kernel
theorem d_G_digest_139 : decode b_G_digest 139 = .ok (.lstore_n 1, 1) := by decide +kernel
theorem d_G_digest_140 : decode b_G_digest 140 = .ok (.iinc 3 1, 3) := by decide +kernel
theorem d_G_digest_143 : decode b_G_digest 143 = .ok (.goto (-23), 3) := by decide +kernel
theorem d_G_digest_146 : decode b_G_digest 146 = .ok (.aload_n 0, 1) := by decide +kernel
theorem d_G_digest_147 : decode b_G_digest 147 = .ok (.getfield 155, 3) := by decide +kernel
theorem d_G_digest_150 : decode b_G_digest 150 = .ok (.ifCond .ne 7, 3) := by decide +kernel
theorem d_G_digest_153 : decode b_G_digest 153 = .ok (.lload_n 1, 1) := by decide +kernel
theorem d_G_digest_154 : decode b_G_digest 154 = .ok (.goto 22, 3) := by decide +kernel
theorem d_G_digest_157 : decode b_G_digest 157 = .ok (.lload_n 1, 1) := by decide +kernel
theorem d_G_digest_158 : decode b_G_digest 158 = .ok (.ldc2_w 268, 3) := by decide +kernel
theorem d_G_digest_161 : decode b_G_digest 161 = .ok (.lmul, 1) := by decide +kernel
theorem d_G_digest_162 : decode b_G_digest 162 = .ok (.aload_n 0, 1) := by decide +kernel
theorem d_G_digest_163 : decode b_G_digest 163 = .ok (.getfield 54, 3) := by decide +kernel
theorem d_G_digest_166 : decode b_G_digest 166 = .ok (.aload_n 0, 1) := by decide +kernel
theorem d_G_digest_167 : decode b_G_digest 167 = .ok (.getfield 11, 3) := by decide +kernel
theorem d_G_digest_170 : decode b_G_digest 170 = .ok (.iconst 0, 1) := by decide +kernel
theorem d_G_digest_171 : decode b_G_digest 171 = .ok (.invokevirtual 262, 3) := by decide +kernel
theorem d_G_digest_174 : decode b_G_digest 174 = .ok (.i2l, 1) := by decide +kernel
theorem d_G_digest_175 : decode b_G_digest 175 = .ok (.ladd, 1) := by decide +kernel
theorem d_G_digest_176 : decode b_G_digest 176 = .ok (.lreturn, 1) := by decide +kernel
theorem d_G_digestOfRoad_0 : decode b_G_digestOfRoad 0 = .ok (.lload_n 2, 1) := by decide +kernel
theorem d_G_digestOfRoad_1 : decode b_G_digestOfRoad 1 = .ok (.lstore 4, 2) := by decide +kernel
theorem d_G_digestOfRoad_3 : decode b_G_digestOfRoad 3 = .ok (.iconst 0, 1) := by decide +kernel
theorem d_G_digestOfRoad_4 : decode b_G_digestOfRoad 4 = .ok (.istore 6, 2) := by decide +kernel
theorem d_G_digestOfRoad_6 : decode b_G_digestOfRoad 6 = .ok (.iload 6, 2) := by decide +kernel
theorem d_G_digestOfRoad_8 : decode b_G_digestOfRoad 8 = .ok (.bipush 14, 2) := by decide +kernel
theorem d_G_digestOfRoad_10 : decode b_G_digestOfRoad 10 = .ok (.if_icmp .gt 25, 3) := by decide +kernel
theorem d_G_digestOfRoad_13 : decode b_G_digestOfRoad 13 = .ok (.lload 4, 2) := by decide +kernel
theorem d_G_digestOfRoad_15 : decode b_G_digestOfRoad 15 = .ok (.ldc2_w 268, 3) := by decide +kernel
theorem d_G_digestOfRoad_18 : decode b_G_digestOfRoad 18 = .ok (.lmul, 1) := by decide +kernel
theorem d_G_digestOfRoad_19 : decode b_G_digestOfRoad 19 = .ok (.aload_n 1, 1) := by decide +kernel
theorem d_G_digestOfRoad_20 : decode b_G_digestOfRoad 20 = .ok (.iload 6, 2) := by decide +kernel
theorem d_G_digestOfRoad_22 : decode b_G_digestOfRoad 22 = .ok (.invokevirtual 232, 3) := by decide +kernel
theorem d_G_digestOfRoad_25 : decode b_G_digestOfRoad 25 = .ok (.i2l, 1) := by decide +kernel
theorem d_G_digestOfRoad_26 : decode b_G_digestOfRoad 26 = .ok (.ladd, 1) := by decide +kernel
theorem d_G_digestOfRoad_27 : decode b_G_digestOfRoad 27 = .ok (.lstore 4, 2) := by decide +kernel
theorem d_G_digestOfRoad_29 : decode b_G_digestOfRoad 29 = .ok (.iinc 6 1, 3) := by decide +kernel
theorem d_G_digestOfRoad_32 : decode b_G_digestOfRoad 32 = .ok (.goto (-26), 3) := by decide +kernel
theorem d_G_digestOfRoad_35 : decode b_G_digestOfRoad 35 = .ok (.lload 4, 2) := by decide +kernel
theorem d_G_digestOfRoad_37 : decode b_G_digestOfRoad 37 = .ok (.ldc2_w 268, 3) := by decide +kernel
theorem d_G_digestOfRoad_40 : decode b_G_digestOfRoad 40 = .ok (.lmul, 1) := by decide +kernel
theorem d_G_digestOfRoad_41 : decode b_G_digestOfRoad 41 = .ok (.aload_n 0, 1) := by decide +kernel
theorem d_G_digestOfRoad_42 : decode b_G_digestOfRoad 42 = .ok (.aload_n 1, 1) := by decide +kernel
theorem d_G_digestOfRoad_43 : decode b_G_digestOfRoad 43 = .ok (.iconst 0, 1) := by decide +kernel
theorem d_G_digestOfRoad_44 : decode b_G_digestOfRoad 44 = .ok (.bipush 8, 2) := by decide +kernel
theorem d_G_digestOfRoad_46 : decode b_G_digestOfRoad 46 = .ok (.invokevirtual 253, 3) := by decide +kernel
theorem d_G_digestOfRoad_49 : decode b_G_digestOfRoad 49 = .ok (.i2l, 1) := by decide +kernel
theorem d_G_digestOfRoad_50 : decode b_G_digestOfRoad 50 = .ok (.ladd, 1) := by decide +kernel
theorem d_G_digestOfRoad_51 : decode b_G_digestOfRoad 51 = .ok (.lstore 4, 2) := by decide +kernel
theorem d_G_digestOfRoad_53 : decode b_G_digestOfRoad 53 = .ok (.lload 4, 2) := by decide +kernel
theorem d_G_digestOfRoad_55 : decode b_G_digestOfRoad 55 = .ok (.ldc2_w 268, 3) := by decide +kernel
theorem d_G_digestOfRoad_58 : decode b_G_digestOfRoad 58 = .ok (.lmul, 1) := by decide +kernel
theorem d_G_digestOfRoad_59 : decode b_G_digestOfRoad 59 = .ok (.aload_n 0, 1) := by decide +kernel
theorem d_G_digestOfRoad_60 : decode b_G_digestOfRoad 60 = .ok (.aload_n 1, 1) := by decide +kernel
theorem d_G_digestOfRoad_61 : decode b_G_digestOfRoad 61 = .ok (.iconst 4, 1) := by decide +kernel
theorem d_G_digestOfRoad_62 : decode b_G_digestOfRoad 62 = .ok (.invokevirtual 257, 3) := by decide +kernel
theorem d_G_digestOfRoad_65 : decode b_G_digestOfRoad 65 = .ok (.i2l, 1) := by decide +kernel
theorem d_G_digestOfRoad_66 : decode b_G_digestOfRoad 66 = .ok (.ladd, 1) := by decide +kernel
theorem d_G_digestOfRoad_67 : decode b_G_digestOfRoad 67 = .ok (.lstore 4, 2) := by decide +kernel
theorem d_G_digestOfRoad_69 : decode b_G_digestOfRoad 69 = .ok (.aload_n 0, 1) := by decide +kernel
theorem d_G_digestOfRoad_70 : decode b_G_digestOfRoad 70 = .ok (.getfield 127, 3) := by decide +kernel
theorem d_G_digestOfRoad_73 : decode b_G_digestOfRoad 73 = .ok (.ifCond .ne 8, 3) := by decide +kernel
theorem d_G_digestOfRoad_76 : decode b_G_digestOfRoad 76 = .ok (.lload 4, 2) := by decide +kernel
theorem d_G_digestOfRoad_78 : decode b_G_digestOfRoad 78 = .ok (.goto 20, 3) := by decide +kernel
theorem d_G_digestOfRoad_81 : decode b_G_digestOfRoad 81 = .ok (.lload 4, 2) := by decide +kernel
theorem d_G_digestOfRoad_83 : decode b_G_digestOfRoad 83 = .ok (.ldc2_w 268, 3) := by decide +kernel
theorem d_G_digestOfRoad_86 : decode b_G_digestOfRoad 86 = .ok (.lmul, 1) := by decide +kernel
theorem d_G_digestOfRoad_87 : decode b_G_digestOfRoad 87 = .ok (.aload_n 0, 1) := by decide +kernel
theorem d_G_digestOfRoad_88 : decode b_G_digestOfRoad 88 = .ok (.aload_n 1, 1) := by decide +kernel
theorem d_G_digestOfRoad_89 : decode b_G_digestOfRoad 89 = .ok (.aload_n 0, 1) := by decide +kernel
theorem d_G_digestOfRoad_90 : decode b_G_digestOfRoad 90 = .ok (.getfield 127, 3) := by decide +kernel
theorem d_G_digestOfRoad_93 : decode b_G_digestOfRoad 93 = .ok (.invokevirtual 226, 3) := by decide +kernel
theorem d_G_digestOfRoad_96 : decode b_G_digestOfRoad 96 = .ok (.i2l, 1) := by decide +kernel
theorem d_G_digestOfRoad_97 : decode b_G_digestOfRoad 97 = .ok (.ladd, 1) := by decide +kernel
theorem d_G_digestOfRoad_98 : decode b_G_digestOfRoad 98 = .ok (.lreturn, 1) := by decide +kernel
theorem d_G_digestOfLorry_0 : decode b_G_digestOfLorry 0 = .ok (.lload_n 1, 1) := by decide +kernel
theorem d_G_digestOfLorry_1 : decode b_G_digestOfLorry 1 = .ok (.lstore_n 3, 1) := by decide +kernel
theorem d_G_digestOfLorry_2 : decode b_G_digestOfLorry 2 = .ok (.iconst 0, 1) := by decide +kernel
theorem d_G_digestOfLorry_3 : decode b_G_digestOfLorry 3 = .ok (.istore 5, 2) := by decide +kernel
theorem d_G_digestOfLorry_5 : decode b_G_digestOfLorry 5 = .ok (.iload 5, 2) := by decide +kernel
theorem d_G_digestOfLorry_7 : decode b_G_digestOfLorry 7 = .ok (.bipush 8, 2) := by decide +kernel
theorem d_G_digestOfLorry_9 : decode b_G_digestOfLorry 9 = .ok (.if_icmp .gt 23, 3) := by decide +kernel
theorem d_G_digestOfLorry_12 : decode b_G_digestOfLorry 12 = .ok (.lload_n 3, 1) := by decide +kernel
theorem d_G_digestOfLorry_13 : decode b_G_digestOfLorry 13 = .ok (.ldc2_w 268, 3) := by decide +kernel
theorem d_G_digestOfLorry_16 : decode b_G_digestOfLorry 16 = .ok (.lmul, 1) := by decide +kernel
theorem d_G_digestOfLorry_17 : decode b_G_digestOfLorry 17 = .ok (.aload_n 0, 1) := by decide +kernel
theorem d_G_digestOfLorry_18 : decode b_G_digestOfLorry 18 = .ok (.iload 5, 2) := by decide +kernel
theorem d_G_digestOfLorry_20 : decode b_G_digestOfLorry 20 = .ok (.invokevirtual 238, 3) := by decide +kernel
theorem d_G_digestOfLorry_23 : decode b_G_digestOfLorry 23 = .ok (.i2l, 1) := by decide +kernel
theorem d_G_digestOfLorry_24 : decode b_G_digestOfLorry 24 = .ok (.ladd, 1) := by decide +kernel
theorem d_G_digestOfLorry_25 : decode b_G_digestOfLorry 25 = .ok (.lstore_n 3, 1) := by decide +kernel
theorem d_G_digestOfLorry_26 : decode b_G_digestOfLorry 26 = .ok (.iinc 5 1, 3) := by decide +kernel
theorem d_G_digestOfLorry_29 : decode b_G_digestOfLorry 29 = .ok (.goto (-24), 3) := by decide +kernel
theorem d_G_digestOfLorry_32 : decode b_G_digestOfLorry 32 = .ok (.lload_n 3, 1) := by decide +kernel
theorem d_G_digestOfLorry_33 : decode b_G_digestOfLorry 33 = .ok (.lreturn, 1) := by decide +kernel
theorem d_G_isWithin_0 : decode b_G_isWithin 0 = .ok (.iload_n 0, 1) := by decide +kernel
theorem d_G_isWithin_1 : decode b_G_isWithin 1 = .ok (.iload_n 1, 1) := by decide +kernel
theorem d_G_isWithin_2 : decode b_G_isWithin 2 = .ok (.if_icmp .lt 12, 3) := by decide +kernel
theorem d_G_isWithin_5 : decode b_G_isWithin 5 = .ok (.iload_n 0, 1) := by decide +kernel
theorem d_G_isWithin_6 : decode b_G_isWithin 6 = .ok (.iload_n 2, 1) := by decide +kernel
theorem d_G_isWithin_7 : decode b_G_isWithin 7 = .ok (.if_icmp .gt 7, 3) := by decide +kernel
theorem d_G_isWithin_10 : decode b_G_isWithin 10 = .ok (.iconst 1, 1) := by decide +kernel
theorem d_G_isWithin_11 : decode b_G_isWithin 11 = .ok (.goto 4, 3) := by decide +kernel
theorem d_G_isWithin_14 : decode b_G_isWithin 14 = .ok (.iconst 0, 1) := by decide +kernel
theorem d_G_isWithin_15 : decode b_G_isWithin 15 = .ok (.ireturn, 1) := by decide +kernel
theorem d_G_isNode_0 : decode b_G_isNode 0 = .ok (.iload_n 0, 1) := by decide +kernel
theorem d_G_isNode_1 : decode b_G_isNode 1 = .ok (.iconst 0, 1) := by decide +kernel
theorem d_G_isNode_2 : decode b_G_isNode 2 = .ok (.bipush 6, 2) := by decide +kernel
theorem d_G_isNode_4 : decode b_G_isNode 4 = .ok (.invokestatic 78, 3) := by decide +kernel
theorem d_G_isNode_7 : decode b_G_isNode 7 = .ok (.ireturn, 1) := by decide +kernel
theorem d_G_isAir_0 : decode b_G_isAir 0 = .ok (.iload_n 0, 1) := by decide +kernel
theorem d_G_isAir_1 : decode b_G_isAir 1 = .ok (.bipush (-20), 2) := by decide +kernel
theorem d_G_isAir_3 : decode b_G_isAir 3 = .ok (.bipush 20, 2) := by decide +kernel
theorem d_G_isAir_5 : decode b_G_isAir 5 = .ok (.invokestatic 78, 3) := by decide +kernel
theorem d_G_isAir_8 : decode b_G_isAir 8 = .ok (.ireturn, 1) := by decide +kernel
theorem d_G_roadAt_0 : decode b_G_roadAt 0 = .ok (.iload_n 1, 1) := by decide +kernel
theorem d_G_roadAt_1 : decode b_G_roadAt 1 = .ok (.ifCond .lt 21, 3) := by decide +kernel
theorem d_G_roadAt_4 : decode b_G_roadAt 4 = .ok (.iload_n 1, 1) := by decide +kernel
theorem d_G_roadAt_5 : decode b_G_roadAt 5 = .ok (.aload_n 0, 1) := by decide +kernel
theorem d_G_roadAt_6 : decode b_G_roadAt 6 = .ok (.getfield 11, 3) := by decide +kernel
theorem d_G_roadAt_9 : decode b_G_roadAt 9 = .ok (.arraylength, 1) := by decide +kernel
theorem d_G_roadAt_10 : decode b_G_roadAt 10 = .ok (.if_icmp .ge 12, 3) := by decide +kernel
theorem d_G_roadAt_13 : decode b_G_roadAt 13 = .ok (.aload_n 0, 1) := by decide +kernel
theorem d_G_roadAt_14 : decode b_G_roadAt 14 = .ok (.getfield 11, 3) := by decide +kernel
theorem d_G_roadAt_17 : decode b_G_roadAt 17 = .ok (.iload_n 1, 1) := by decide +kernel
theorem d_G_roadAt_18 : decode b_G_roadAt 18 = .ok (.aaload, 1) := by decide +kernel
theorem d_G_roadAt_19 : decode b_G_roadAt 19 = .ok (.goto 4, 3) := by decide +kernel
theorem d_G_roadAt_22 : decode b_G_roadAt 22 = .ok (.aconst_null, 1) := by decide +kernel
theorem d_G_roadAt_23 : decode b_G_roadAt 23 = .ok (.areturn, 1) := by decide +kernel
theorem d_G_lorryAt_0 : decode b_G_lorryAt 0 = .ok (.iload_n 1, 1) := by decide +kernel
theorem d_G_lorryAt_1 : decode b_G_lorryAt 1 = .ok (.ifCond .lt 21, 3) := by decide +kernel
theorem d_G_lorryAt_4 : decode b_G_lorryAt 4 = .ok (.iload_n 1, 1) := by decide +kernel
theorem d_G_lorryAt_5 : decode b_G_lorryAt 5 = .ok (.aload_n 0, 1) := by decide +kernel
theorem d_G_lorryAt_6 : decode b_G_lorryAt 6 = .ok (.getfield 17, 3) := by decide +kernel
theorem d_G_lorryAt_9 : decode b_G_lorryAt 9 = .ok (.arraylength, 1) := by decide +kernel
theorem d_G_lorryAt_10 : decode b_G_lorryAt 10 = .ok (.if_icmp .ge 12, 3) := by decide +kernel
theorem d_G_lorryAt_13 : decode b_G_lorryAt 13 = .ok (.aload_n 0, 1) := by decide +kernel
theorem d_G_lorryAt_14 : decode b_G_lorryAt 14 = .ok (.getfield 17, 3) := by decide +kernel
theorem d_G_lorryAt_17 : decode b_G_lorryAt 17 = .ok (.iload_n 1, 1) := by decide +kernel
theorem d_G_lorryAt_18 : decode b_G_lorryAt 18 = .ok (.aaload, 1) := by decide +kernel
theorem d_G_lorryAt_19 : decode b_G_lorryAt 19 = .ok (.goto 4, 3) := by decide +kernel
theorem d_G_lorryAt_22 : decode b_G_lorryAt 22 = .ok (.aconst_null, 1) := by decide +kernel
theorem d_G_lorryAt_23 : decode b_G_lorryAt 23 = .ok (.areturn, 1) := by decide +kernel
theorem d_G_numberAt_0 : decode b_G_numberAt 0 = .ok (.iload_n 1, 1) := by decide +kernel
theorem d_G_numberAt_1 : decode b_G_numberAt 1 = .ok (.ifCond .lt 15, 3) := by decide +kernel
theorem d_G_numberAt_4 : decode b_G_numberAt 4 = .ok (.iload_n 1, 1) := by decide +kernel
theorem d_G_numberAt_5 : decode b_G_numberAt 5 = .ok (.aload_n 0, 1) := by decide +kernel
theorem d_G_numberAt_6 : decode b_G_numberAt 6 = .ok (.arraylength, 1) := by decide +kernel
theorem d_G_numberAt_7 : decode b_G_numberAt 7 = .ok (.if_icmp .ge 9, 3) := by decide +kernel
theorem d_G_numberAt_10 : decode b_G_numberAt 10 = .ok (.aload_n 0, 1) := by decide +kernel
theorem d_G_numberAt_11 : decode b_G_numberAt 11 = .ok (.iload_n 1, 1) := by decide +kernel
theorem d_G_numberAt_12 : decode b_G_numberAt 12 = .ok (.iaload, 1) := by decide +kernel
theorem d_G_numberAt_13 : decode b_G_numberAt 13 = .ok (.goto 6, 3) := by decide +kernel
theorem d_G_numberAt_16 : decode b_G_numberAt 16 = .ok (.ldc_w 278, 3) := by decide +kernel
theorem d_G_numberAt_19 : decode b_G_numberAt 19 = .ok (.ireturn, 1) := by decide +kernel
theorem d_G_lower_0 : decode b_G_lower 0 = .ok (.iload_n 1, 1) := by decide +kernel
theorem d_G_lower_1 : decode b_G_lower 1 = .ok (.ifCond .lt 20, 3) := by decide +kernel
theorem d_G_lower_4 : decode b_G_lower 4 = .ok (.iload_n 1, 1) := by decide +kernel
theorem d_G_lower_5 : decode b_G_lower 5 = .ok (.aload_n 0, 1) := by decide +kernel
theorem d_G_lower_6 : decode b_G_lower 6 = .ok (.arraylength, 1) := by decide +kernel
theorem d_G_lower_7 : decode b_G_lower 7 = .ok (.if_icmp .ge 14, 3) := by decide +kernel
theorem d_G_lower_10 : decode b_G_lower 10 = .ok (.iload_n 2, 1) := by decide +kernel
theorem d_G_lower_11 : decode b_G_lower 11 = .ok (.aload_n 0, 1) := by decide +kernel
theorem d_G_lower_12 : decode b_G_lower 12 = .ok (.iload_n 1, 1) := by decide +kernel
theorem d_G_lower_13 : decode b_G_lower 13 = .ok (.iaload, 1) := by decide +kernel
theorem d_G_lower_14 : decode b_G_lower 14 = .ok (.if_icmp .ge 7, 3) := by decide +kernel
theorem d_G_lower_17 : decode b_G_lower 17 = .ok (.aload_n 0, 1) := by decide +kernel
theorem d_G_lower_18 : decode b_G_lower 18 = .ok (.iload_n 1, 1) := by decide +kernel
theorem d_G_lower_19 : decode b_G_lower 19 = .ok (.iload_n 2, 1) := by decide +kernel
theorem d_G_lower_20 : decode b_G_lower 20 = .ok (.iastore, 1) := by decide +kernel
theorem d_G_lower_21 : decode b_G_lower 21 = .ok (.return_, 1) := by decide +kernel
theorem d_G_passQuarter_0 : decode b_G_passQuarter 0 = .ok (.aload_n 0, 1) := by decide +kernel
theorem d_G_passQuarter_1 : decode b_G_passQuarter 1 = .ok (.dup, 1) := by decide +kernel
theorem d_G_passQuarter_2 : decode b_G_passQuarter 2 = .ok (.getfield 127, 3) := by decide +kernel
theorem d_G_passQuarter_5 : decode b_G_passQuarter 5 = .ok (.iconst 1, 1) := by decide +kernel
theorem d_G_passQuarter_6 : decode b_G_passQuarter 6 = .ok (.iadd, 1) := by decide +kernel
theorem d_G_passQuarter_7 : decode b_G_passQuarter 7 = .ok (.putfield 127, 3) := by decide +kernel
theorem d_G_passQuarter_10 : decode b_G_passQuarter 10 = .ok (.aload_n 0, 1) := by decide +kernel
theorem d_G_passQuarter_11 : decode b_G_passQuarter 11 = .ok (.getfield 11, 3) := by decide +kernel
theorem d_G_passQuarter_14 : decode b_G_passQuarter 14 = .ok (.astore_n 1, 1) := by decide +kernel
theorem d_G_passQuarter_15 : decode b_G_passQuarter 15 = .ok (.aload_n 1, 1) := by decide +kernel
theorem d_G_passQuarter_16 : decode b_G_passQuarter 16 = .ok (.arraylength, 1) := by decide +kernel
theorem d_G_passQuarter_17 : decode b_G_passQuarter 17 = .ok (.istore_n 2, 1) := by decide +kernel
theorem d_G_passQuarter_18 : decode b_G_passQuarter 18 = .ok (.iconst 0, 1) := by decide +kernel
theorem d_G_passQuarter_19 : decode b_G_passQuarter 19 = .ok (.istore_n 3, 1) := by decide +kernel
theorem d_G_passQuarter_20 : decode b_G_passQuarter 20 = .ok (.iload_n 3, 1) := by decide +kernel
theorem d_G_passQuarter_21 : decode b_G_passQuarter 21 = .ok (.iload_n 2, 1) := by decide +kernel
theorem d_G_passQuarter_22 : decode b_G_passQuarter 22 = .ok (.if_icmp .ge 42, 3) := by decide +kernel
theorem d_G_passQuarter_25 : decode b_G_passQuarter 25 = .ok (.aload_n 1, 1) := by decide +kernel
theorem d_G_passQuarter_26 : decode b_G_passQuarter 26 = .ok (.iload_n 3, 1) := by decide +kernel
theorem d_G_passQuarter_27 : decode b_G_passQuarter 27 = .ok (.aaload, 1) := by decide +kernel
theorem d_G_passQuarter_28 : decode b_G_passQuarter 28 = .ok (.astore 4, 2) := by decide +kernel
theorem d_G_passQuarter_30 : decode b_G_passQuarter 30 = .ok (.aload 4, 2) := by decide +kernel
theorem d_G_passQuarter_32 : decode b_G_passQuarter 32 = .ok (.ifnull 26, 3) := by decide +kernel
theorem d_G_passQuarter_35 : decode b_G_passQuarter 35 = .ok (.aload 4, 2) := by decide +kernel
theorem d_G_passQuarter_37 : decode b_G_passQuarter 37 = .ok (.aload 4, 2) := by decide +kernel
theorem d_G_passQuarter_39 : decode b_G_passQuarter 39 = .ok (.getfield 245, 3) := by decide +kernel
theorem d_G_passQuarter_42 : decode b_G_passQuarter 42 = .ok (.aload_n 0, 1) := by decide +kernel
theorem d_G_passQuarter_43 : decode b_G_passQuarter 43 = .ok (.getfield 36, 3) := by decide +kernel
theorem d_G_passQuarter_46 : decode b_G_passQuarter 46 = .ok (.invokevirtual 279, 3) := by decide +kernel
theorem d_G_passQuarter_49 : decode b_G_passQuarter 49 = .ok (.aload 4, 2) := by decide +kernel
theorem d_G_passQuarter_51 : decode b_G_passQuarter 51 = .ok (.aload_n 0, 1) := by decide +kernel
theorem d_G_passQuarter_52 : decode b_G_passQuarter 52 = .ok (.getfield 127, 3) := by decide +kernel
theorem d_G_passQuarter_55 : decode b_G_passQuarter 55 = .ok (.invokevirtual 283, 3) := by decide +kernel
theorem d_G_passQuarter_58 : decode b_G_passQuarter 58 = .ok (.iinc 3 1, 3) := by decide +kernel
theorem d_G_passQuarter_61 : decode b_G_passQuarter 61 = .ok (.goto (-41), 3) := by decide +kernel
theorem d_G_passQuarter_64 : decode b_G_passQuarter 64 = .ok (.aload_n 0, 1) := by decide +kernel
theorem d_G_passQuarter_65 : decode b_G_passQuarter 65 = .ok (.getfield 17, 3) := by decide +kernel
theorem d_G_passQuarter_68 : decode b_G_passQuarter 68 = .ok (.astore_n 1, 1) := by decide +kernel
theorem d_G_passQuarter_69 : decode b_G_passQuarter 69 = .ok (.aload_n 1, 1) := by decide +kernel
theorem d_G_passQuarter_70 : decode b_G_passQuarter 70 = .ok (.arraylength, 1) := by decide +kernel
theorem d_G_passQuarter_71 : decode b_G_passQuarter 71 = .ok (.istore_n 2, 1) := by decide +kernel
theorem d_G_passQuarter_72 : decode b_G_passQuarter 72 = .ok (.iconst 0, 1) := by decide +kernel
theorem d_G_passQuarter_73 : decode b_G_passQuarter 73 = .ok (.istore_n 3, 1) := by decide +kernel
theorem d_G_passQuarter_74 : decode b_G_passQuarter 74 = .ok (.iload_n 3, 1) := by decide +kernel
theorem d_G_passQuarter_75 : decode b_G_passQuarter 75 = .ok (.iload_n 2, 1) := by decide +kernel
theorem d_G_passQuarter_76 : decode b_G_passQuarter 76 = .ok (.if_icmp .ge 25, 3) := by decide +kernel
theorem d_G_passQuarter_79 : decode b_G_passQuarter 79 = .ok (.aload_n 1, 1) := by decide +kernel
theorem d_G_passQuarter_80 : decode b_G_passQuarter 80 = .ok (.iload_n 3, 1) := by decide +kernel
theorem d_G_passQuarter_81 : decode b_G_passQuarter 81 = .ok (.aaload, 1) := by decide +kernel
theorem d_G_passQuarter_82 : decode b_G_passQuarter 82 = .ok (.astore 4, 2) := by decide +kernel
theorem d_G_passQuarter_84 : decode b_G_passQuarter 84 = .ok (.aload 4, 2) := by decide +kernel
theorem d_G_passQuarter_86 : decode b_G_passQuarter 86 = .ok (.ifnull 9, 3) := by decide +kernel
theorem d_G_passQuarter_89 : decode b_G_passQuarter 89 = .ok (.aload_n 0, 1) := by decide +kernel
theorem d_G_passQuarter_90 : decode b_G_passQuarter 90 = .ok (.aload 4, 2) := by decide +kernel
theorem d_G_passQuarter_92 : decode b_G_passQuarter 92 = .ok (.invokevirtual 286, 3) := by decide +kernel
theorem d_G_passQuarter_95 : decode b_G_passQuarter 95 = .ok (.iinc 3 1, 3) := by decide +kernel
theorem d_G_passQuarter_98 : decode b_G_passQuarter 98 = .ok (.goto (-24), 3) := by decide +kernel
theorem d_G_passQuarter_101 : decode b_G_passQuarter 101 = .ok (.aload_n 0, 1) := by decide +kernel
theorem d_G_passQuarter_102 : decode b_G_passQuarter 102 = .ok (.invokevirtual 290, 3) := by decide +kernel
theorem d_G_passQuarter_105 : decode b_G_passQuarter 105 = .ok (.return_, 1) := by decide +kernel
theorem d_G_work_0 : decode b_G_work 0 = .ok (.aload_n 1, 1) := by decide +kernel
theorem d_G_work_1 : decode b_G_work 1 = .ok (.getfield 180, 3) := by decide +kernel
theorem d_G_work_4 : decode b_G_work 4 = .ok (.ifCond .eq 12, 3) := by decide +kernel
theorem d_G_work_7 : decode b_G_work 7 = .ok (.aload_n 1, 1) := by decide +kernel
theorem d_G_work_8 : decode b_G_work 8 = .ok (.getfield 205, 3) := by decide +kernel
theorem d_G_work_11 : decode b_G_work 11 = .ok (.bipush 40, 2) := by decide +kernel
theorem d_G_work_13 : decode b_G_work 13 = .ok (.if_icmp .lt 4, 3) := by decide +kernel
theorem d_G_work_16 : decode b_G_work 16 = .ok (.return_, 1) := by decide +kernel
theorem d_G_work_17 : decode b_G_work 17 = .ok (.aload_n 1, 1) := by decide +kernel
theorem d_G_work_18 : decode b_G_work 18 = .ok (.dup, 1) := by decide +kernel
theorem d_G_work_19 : decode b_G_work 19 = .ok (.getfield 205, 3) := by decide +kernel
theorem d_G_work_22 : decode b_G_work 22 = .ok (.iconst 1, 1) := by decide +kernel
theorem d_G_work_23 : decode b_G_work 23 = .ok (.iadd, 1) := by decide +kernel
theorem d_G_work_24 : decode b_G_work 24 = .ok (.putfield 205, 3) := by decide +kernel
theorem d_G_work_27 : decode b_G_work 27 = .ok (.aload_n 0, 1) := by decide +kernel
theorem d_G_work_28 : decode b_G_work 28 = .ok (.aload_n 1, 1) := by decide +kernel
theorem d_G_work_29 : decode b_G_work 29 = .ok (.invokevirtual 293, 3) := by decide +kernel
theorem d_G_work_32 : decode b_G_work 32 = .ok (.invokevirtual 174, 3) := by decide +kernel
theorem d_G_work_35 : decode b_G_work 35 = .ok (.astore_n 2, 1) := by decide +kernel
theorem d_G_work_36 : decode b_G_work 36 = .ok (.aload_n 2, 1) := by decide +kernel
theorem d_G_work_37 : decode b_G_work 37 = .ok (.ifnull 22, 3) := by decide +kernel
theorem d_G_work_40 : decode b_G_work 40 = .ok (.aload_n 1, 1) := by decide +kernel
theorem d_G_work_41 : decode b_G_work 41 = .ok (.getfield 189, 3) := by decide +kernel
theorem d_G_work_44 : decode b_G_work 44 = .ok (.iconst (-1), 1) := by decide +kernel
theorem d_G_work_45 : decode b_G_work 45 = .ok (.if_icmp .eq 19, 3) := by decide +kernel
theorem d_G_work_48 : decode b_G_work 48 = .ok (.aload_n 2, 1) := by decide +kernel
theorem d_G_work_49 : decode b_G_work 49 = .ok (.aload_n 1, 1) := by decide +kernel
theorem d_G_work_50 : decode b_G_work 50 = .ok (.getfield 189, 3) := by decide +kernel
theorem d_G_work_53 : decode b_G_work 53 = .ok (.invokevirtual 296, 3) := by decide +kernel
theorem d_G_work_56 : decode b_G_work 56 = .ok (.ifCond .ne 8, 3) := by decide +kernel
theorem d_G_work_59 : decode b_G_work 59 = .ok (.aload_n 1, 1) := by decide +kernel
theorem d_G_work_60 : decode b_G_work 60 = .ok (.invokevirtual 299, 3) := by decide +kernel
theorem d_G_work_63 : decode b_G_work 63 = .ok (.return_, 1) := by decide +kernel
theorem d_G_work_64 : decode b_G_work 64 = .ok (.aload_n 1, 1) := by decide +kernel
theorem d_G_work_65 : decode b_G_work 65 = .ok (.getfield 189, 3) := by decide +kernel
theorem d_G_work_68 : decode b_G_work 68 = .ok (.iconst (-1), 1) := by decide +kernel
theorem d_G_work_69 : decode b_G_work 69 = .ok (.if_icmp .eq 20, 3) := by decide +kernel
theorem d_G_work_72 : decode b_G_work 72 = .ok (.aload_n 1, 1) := by decide +kernel
theorem d_G_work_73 : decode b_G_work 73 = .ok (.aload_n 2, 1) := by decide +kernel
theorem d_G_work_74 : decode b_G_work 74 = .ok (.aload_n 1, 1) := by decide +kernel
theorem d_G_work_75 : decode b_G_work 75 = .ok (.getfield 189, 3) := by decide +kernel
theorem d_G_work_78 : decode b_G_work 78 = .ok (.invokevirtual 302, 3) := by decide +kernel
theorem d_G_work_81 : decode b_G_work 81 = .ok (.putfield 305, 3) := by decide +kernel
theorem d_G_work_84 : decode b_G_work 84 = .ok (.aload_n 1, 1) := by decide +kernel
theorem d_G_work_85 : decode b_G_work 85 = .ok (.iconst (-1), 1) := by decide +kernel
theorem d_G_work_86 : decode b_G_work 86 = .ok (.putfield 189, 3) := by decide +kernel
theorem d_G_work_89 : decode b_G_work 89 = .ok (.aload_n 1, 1) := by decide +kernel
theorem d_G_work_90 : decode b_G_work 90 = .ok (.dup, 1) := by decide +kernel
theorem d_G_work_91 : decode b_G_work 91 = .ok (.getfield 308, 3) := by decide +kernel
theorem d_G_work_94 : decode b_G_work 94 = .ok (.iconst 1, 1) := by decide +kernel
theorem d_G_work_95 : decode b_G_work 95 = .ok (.iadd, 1) := by decide +kernel
theorem d_G_work_96 : decode b_G_work 96 = .ok (.putfield 308, 3) := by decide +kernel
theorem d_G_work_99 : decode b_G_work 99 = .ok (.aload_n 1, 1) := by decide +kernel
theorem d_G_work_100 : decode b_G_work 100 = .ok (.getfield 308, 3) := by decide +kernel
theorem d_G_work_103 : decode b_G_work 103 = .ok (.aload_n 2, 1) := by decide +kernel
theorem d_G_work_104 : decode b_G_work 104 = .ok (.getfield 311, 3) := by decide +kernel
theorem d_G_work_107 : decode b_G_work 107 = .ok (.if_icmp .lt 13, 3) := by decide +kernel
theorem d_G_work_110 : decode b_G_work 110 = .ok (.aload_n 1, 1) := by decide +kernel
theorem d_G_work_111 : decode b_G_work 111 = .ok (.invokevirtual 314, 3) := by decide +kernel
theorem d_G_work_114 : decode b_G_work 114 = .ok (.aload_n 0, 1) := by decide +kernel
theorem d_G_work_115 : decode b_G_work 115 = .ok (.aload_n 2, 1) := by decide +kernel
theorem d_G_work_116 : decode b_G_work 116 = .ok (.aload_n 1, 1) := by decide +kernel
theorem d_G_work_117 : decode b_G_work 117 = .ok (.invokevirtual 317, 3) := by decide +kernel
theorem d_G_work_120 : decode b_G_work 120 = .ok (.return_, 1) := by decide +kernel
theorem d_G_treat_0 : decode b_G_treat 0 = .ok (.aload_n 2, 1) := by decide +kernel
theorem d_G_treat_1 : decode b_G_treat 1 = .ok (.getfield 171, 3) := by decide +kernel
theorem d_G_treat_4 : decode b_G_treat 4 = .ok (.aload_n 1, 1) := by decide +kernel
theorem d_G_treat_5 : decode b_G_treat 5 = .ok (.getfield 311, 3) := by decide +kernel
theorem d_G_treat_8 : decode b_G_treat 8 = .ok (.imul, 1) := by decide +kernel
theorem d_G_treat_9 : decode b_G_treat 9 = .ok (.aload_n 2, 1) := by decide +kernel
theorem d_G_treat_10 : decode b_G_treat 10 = .ok (.getfield 194, 3) := by decide +kernel
theorem d_G_treat_13 : decode b_G_treat 13 = .ok (.invokestatic 197, 3) := by decide +kernel
theorem d_G_treat_16 : decode b_G_treat 16 = .ok (.istore_n 3, 1) := by decide +kernel
theorem d_G_treat_17 : decode b_G_treat 17 = .ok (.aload_n 2, 1) := by decide +kernel
theorem d_G_treat_18 : decode b_G_treat 18 = .ok (.dup, 1) := by decide +kernel
theorem d_G_treat_19 : decode b_G_treat 19 = .ok (.getfield 194, 3) := by decide +kernel
theorem d_G_treat_22 : decode b_G_treat 22 = .ok (.iload_n 3, 1) := by decide +kernel
theorem d_G_treat_23 : decode b_G_treat 23 = .ok (.isub, 1) := by decide +kernel
theorem d_G_treat_24 : decode b_G_treat 24 = .ok (.putfield 194, 3) := by decide +kernel
theorem d_G_treat_27 : decode b_G_treat 27 = .ok (.aload_n 2, 1) := by decide +kernel
theorem d_G_treat_28 : decode b_G_treat 28 = .ok (.dup, 1) := by decide +kernel
theorem d_G_treat_29 : decode b_G_treat 29 = .ok (.getfield 321, 3) := by decide +kernel
theorem d_G_treat_32 : decode b_G_treat 32 = .ok (.iload_n 3, 1) := by decide +kernel
theorem d_G_treat_33 : decode b_G_treat 33 = .ok (.iadd, 1) := by decide +kernel
theorem d_G_treat_34 : decode b_G_treat 34 = .ok (.putfield 321, 3) := by decide +kernel
theorem d_G_treat_37 : decode b_G_treat 37 = .ok (.aload_n 1, 1) := by decide +kernel
theorem d_G_treat_38 : decode b_G_treat 38 = .ok (.getfield 245, 3) := by decide +kernel
theorem d_G_treat_41 : decode b_G_treat 41 = .ok (.dup, 1) := by decide +kernel
theorem d_G_treat_42 : decode b_G_treat 42 = .ok (.getfield 324, 3) := by decide +kernel
theorem d_G_treat_45 : decode b_G_treat 45 = .ok (.iload_n 3, 1) := by decide +kernel
theorem d_G_treat_46 : decode b_G_treat 46 = .ok (.iadd, 1) := by decide +kernel
theorem d_G_treat_47 : decode b_G_treat 47 = .ok (.putfield 324, 3) := by decide +kernel
theorem d_G_treat_50 : decode b_G_treat 50 = .ok (.aload_n 2, 1) := by decide +kernel
theorem d_G_treat_51 : decode b_G_treat 51 = .ok (.getfield 327, 3) := by decide +kernel
theorem d_G_treat_54 : decode b_G_treat 54 = .ok (.ifCond .eq 27, 3) := by decide +kernel
theorem d_G_treat_57 : decode b_G_treat 57 = .ok (.aload_n 0, 1) := by decide +kernel
theorem d_G_treat_58 : decode b_G_treat 58 = .ok (.dup, 1) := by decide +kernel
theorem d_G_treat_59 : decode b_G_treat 59 = .ok (.getfield 330, 3) := by decide +kernel
theorem d_G_treat_62 : decode b_G_treat 62 = .ok (.aload_n 1, 1) := by decide +kernel
theorem d_G_treat_63 : decode b_G_treat 63 = .ok (.getfield 245, 3) := by decide +kernel
theorem d_G_treat_66 : decode b_G_treat 66 = .ok (.getfield 333, 3) := by decide +kernel
theorem d_G_treat_69 : decode b_G_treat 69 = .ok (.iadd, 1) := by decide +kernel
theorem d_G_treat_70 : decode b_G_treat 70 = .ok (.putfield 330, 3) := by decide +kernel
theorem d_G_treat_73 : decode b_G_treat 73 = .ok (.aload_n 1, 1) := by decide +kernel
theorem d_G_treat_74 : decode b_G_treat 74 = .ok (.getfield 245, 3) := by decide +kernel
theorem d_G_treat_77 : decode b_G_treat 77 = .ok (.iconst 0, 1) := by decide +kernel
theorem d_G_treat_78 : decode b_G_treat 78 = .ok (.putfield 333, 3) := by decide +kernel
theorem d_G_treat_81 : decode b_G_treat 81 = .ok (.iload_n 3, 1) := by decide +kernel
theorem d_G_treat_82 : decode b_G_treat 82 = .ok (.ifCond .gt 10, 3) := by decide +kernel
theorem d_G_treat_85 : decode b_G_treat 85 = .ok (.aload_n 2, 1) := by decide +kernel
theorem d_G_treat_86 : decode b_G_treat 86 = .ok (.getfield 327, 3) := by decide +kernel
theorem d_G_treat_89 : decode b_G_treat 89 = .ok (.ifCond .eq 11, 3) := by decide +kernel
theorem d_G_treat_92 : decode b_G_treat 92 = .ok (.aload_n 1, 1) := by decide +kernel
theorem d_G_treat_93 : decode b_G_treat 93 = .ok (.aload_n 0, 1) := by decide +kernel
theorem d_G_treat_94 : decode b_G_treat 94 = .ok (.getfield 127, 3) := by decide +kernel
theorem d_G_treat_97 : decode b_G_treat 97 = .ok (.invokevirtual 336, 3) := by decide +kernel
theorem d_G_treat_100 : decode b_G_treat 100 = .ok (.return_, 1) := by decide +kernel
theorem d_G_takeDeliveries_0 : decode b_G_takeDeliveries 0 = .ok (.iconst 0, 1) := by decide +kernel
theorem d_G_takeDeliveries_1 : decode b_G_takeDeliveries 1 = .ok (.istore_n 1, 1) := by decide +kernel
theorem d_G_takeDeliveries_2 : decode b_G_takeDeliveries 2 = .ok (.iload_n 1, 1) := by decide +kernel
theorem d_G_takeDeliveries_3 : decode b_G_takeDeliveries 3 = .ok (.aload_n 0, 1) := by decide +kernel
theorem d_G_takeDeliveries_4 : decode b_G_takeDeliveries 4 = .ok (.getfield 29, 3) := by decide +kernel
theorem d_G_takeDeliveries_7 : decode b_G_takeDeliveries 7 = .ok (.arraylength, 1) := by decide +kernel
theorem d_G_takeDeliveries_8 : decode b_G_takeDeliveries 8 = .ok (.if_icmp .ge 89, 3) := by decide +kernel
theorem d_G_takeDeliveries_11 : decode b_G_takeDeliveries 11 = .ok (.aload_n 0, 1) := by decide +kernel
theorem d_G_takeDeliveries_12 : decode b_G_takeDeliveries 12 = .ok (.getfield 29, 3) := by decide +kernel
theorem d_G_takeDeliveries_15 : decode b_G_takeDeliveries 15 = .ok (.iload_n 1, 1) := by decide +kernel
theorem d_G_takeDeliveries_16 : decode b_G_takeDeliveries 16 = .ok (.aaload, 1) := by decide +kernel
theorem d_G_takeDeliveries_17 : decode b_G_takeDeliveries 17 = .ok (.astore_n 2, 1) := by decide +kernel
theorem d_G_takeDeliveries_18 : decode b_G_takeDeliveries 18 = .ok (.aload_n 2, 1) := by decide +kernel
theorem d_G_takeDeliveries_19 : decode b_G_takeDeliveries 19 = .ok (.ifnull 72, 3) := by decide +kernel
theorem d_G_takeDeliveries_22 : decode b_G_takeDeliveries 22 = .ok (.aload_n 2, 1) := by decide +kernel
theorem d_G_takeDeliveries_23 : decode b_G_takeDeliveries 23 = .ok (.getfield 339, 3) := by decide +kernel
theorem d_G_takeDeliveries_26 : decode b_G_takeDeliveries 26 = .ok (.aload_n 0, 1) := by decide +kernel
theorem d_G_takeDeliveries_27 : decode b_G_takeDeliveries 27 = .ok (.getfield 127, 3) := by decide +kernel
theorem d_G_takeDeliveries_30 : decode b_G_takeDeliveries 30 = .ok (.if_icmp .ne 61, 3) := by decide +kernel
theorem d_G_takeDeliveries_33 : decode b_G_takeDeliveries 33 = .ok (.aload_n 2, 1) := by decide +kernel
theorem d_G_takeDeliveries_34 : decode b_G_takeDeliveries 34 = .ok (.getfield 342, 3) := by decide +kernel
theorem d_G_takeDeliveries_37 : decode b_G_takeDeliveries 37 = .ok (.sipush 999, 3) := by decide +kernel
theorem d_G_takeDeliveries_40 : decode b_G_takeDeliveries 40 = .ok (.aload_n 0, 1) := by decide +kernel
theorem d_G_takeDeliveries_41 : decode b_G_takeDeliveries 41 = .ok (.getfield 58, 3) := by decide +kernel
theorem d_G_takeDeliveries_44 : decode b_G_takeDeliveries 44 = .ok (.isub, 1) := by decide +kernel
theorem d_G_takeDeliveries_45 : decode b_G_takeDeliveries 45 = .ok (.invokestatic 197, 3) := by decide +kernel
theorem d_G_takeDeliveries_48 : decode b_G_takeDeliveries 48 = .ok (.istore_n 3, 1) := by decide +kernel
theorem d_G_takeDeliveries_49 : decode b_G_takeDeliveries 49 = .ok (.aload_n 0, 1) := by decide +kernel
theorem d_G_takeDeliveries_50 : decode b_G_takeDeliveries 50 = .ok (.dup, 1) := by decide +kernel
theorem d_G_takeDeliveries_51 : decode b_G_takeDeliveries 51 = .ok (.getfield 58, 3) := by decide +kernel
theorem d_G_takeDeliveries_54 : decode b_G_takeDeliveries 54 = .ok (.iload_n 3, 1) := by decide +kernel
theorem d_G_takeDeliveries_55 : decode b_G_takeDeliveries 55 = .ok (.iadd, 1) := by decide +kernel
theorem d_G_takeDeliveries_56 : decode b_G_takeDeliveries 56 = .ok (.putfield 58, 3) := by decide +kernel
theorem d_G_takeDeliveries_59 : decode b_G_takeDeliveries 59 = .ok (.aload_n 0, 1) := by decide +kernel
theorem d_G_takeDeliveries_60 : decode b_G_takeDeliveries 60 = .ok (.dup, 1) := by decide +kernel
theorem d_G_takeDeliveries_61 : decode b_G_takeDeliveries 61 = .ok (.getfield 345, 3) := by decide +kernel
theorem d_G_takeDeliveries_64 : decode b_G_takeDeliveries 64 = .ok (.iload_n 3, 1) := by decide +kernel
theorem d_G_takeDeliveries_65 : decode b_G_takeDeliveries 65 = .ok (.iadd, 1) := by decide +kernel
theorem d_G_takeDeliveries_66 : decode b_G_takeDeliveries 66 = .ok (.putfield 345, 3) := by decide +kernel
theorem d_G_takeDeliveries_69 : decode b_G_takeDeliveries 69 = .ok (.aload_n 0, 1) := by decide +kernel
theorem d_G_takeDeliveries_70 : decode b_G_takeDeliveries 70 = .ok (.dup, 1) := by decide +kernel
theorem d_G_takeDeliveries_71 : decode b_G_takeDeliveries 71 = .ok (.getfield 348, 3) := by decide +kernel
theorem d_G_takeDeliveries_74 : decode b_G_takeDeliveries 74 = .ok (.aload_n 2, 1) := by decide +kernel
theorem d_G_takeDeliveries_75 : decode b_G_takeDeliveries 75 = .ok (.getfield 342, 3) := by decide +kernel
theorem d_G_takeDeliveries_78 : decode b_G_takeDeliveries 78 = .ok (.iload_n 3, 1) := by decide +kernel
theorem d_G_takeDeliveries_79 : decode b_G_takeDeliveries 79 = .ok (.isub, 1) := by decide +kernel
theorem d_G_takeDeliveries_80 : decode b_G_takeDeliveries 80 = .ok (.iadd, 1) := by decide +kernel
theorem d_G_takeDeliveries_81 : decode b_G_takeDeliveries 81 = .ok (.putfield 348, 3) := by decide +kernel
theorem d_G_takeDeliveries_84 : decode b_G_takeDeliveries 84 = .ok (.aload_n 0, 1) := by decide +kernel
theorem d_G_takeDeliveries_85 : decode b_G_takeDeliveries 85 = .ok (.getfield 29, 3) := by decide +kernel
theorem d_G_takeDeliveries_88 : decode b_G_takeDeliveries 88 = .ok (.iload_n 1, 1) := by decide +kernel
theorem d_G_takeDeliveries_89 : decode b_G_takeDeliveries 89 = .ok (.aconst_null, 1) := by decide +kernel
theorem d_G_takeDeliveries_90 : decode b_G_takeDeliveries 90 = .ok (.aastore, 1) := by decide +kernel
theorem d_G_takeDeliveries_91 : decode b_G_takeDeliveries 91 = .ok (.iinc 1 1, 3) := by decide +kernel
theorem d_G_takeDeliveries_94 : decode b_G_takeDeliveries 94 = .ok (.goto (-92), 3) := by decide +kernel
theorem d_G_takeDeliveries_97 : decode b_G_takeDeliveries 97 = .ok (.return_, 1) := by decide +kernel
theorem d_G_answerTo_0 : decode b_G_answerTo 0 = .ok (.aload_n 1, 1) := by decide +kernel
theorem d_G_answerTo_1 : decode b_G_answerTo 1 = .ok (.iload_n 2, 1) := by decide +kernel
theorem d_G_answerTo_2 : decode b_G_answerTo 2 = .ok (.invokevirtual 355, 3) := by decide +kernel
theorem d_G_answerTo_5 : decode b_G_answerTo 5 = .ok (.ifCond .ne 5, 3) := by decide +kernel
theorem d_G_answerTo_8 : decode b_G_answerTo 8 = .ok (.iconst 0, 1) := by decide +kernel
theorem d_G_answerTo_9 : decode b_G_answerTo 9 = .ok (.ireturn, 1) := by decide +kernel
theorem d_G_answerTo_10 : decode b_G_answerTo 10 = .ok (.aload_n 1, 1) := by decide +kernel
theorem d_G_answerTo_11 : decode b_G_answerTo 11 = .ok (.iload_n 2, 1) := by decide +kernel
theorem d_G_answerTo_12 : decode b_G_answerTo 12 = .ok (.bipush 12, 2) := by decide +kernel
theorem d_G_answerTo_14 : decode b_G_answerTo 14 = .ok (.isub, 1) := by decide +kernel
theorem d_G_answerTo_15 : decode b_G_answerTo 15 = .ok (.iload_n 2, 1) := by decide +kernel
theorem d_G_answerTo_16 : decode b_G_answerTo 16 = .ok (.invokevirtual 358, 3) := by decide +kernel
theorem d_G_answerTo_19 : decode b_G_answerTo 19 = .ok (.ifCond .eq 5, 3) := by decide +kernel
theorem d_G_answerTo_22 : decode b_G_answerTo 22 = .ok (.iconst 1, 1) := by decide +kernel
theorem d_G_answerTo_23 : decode b_G_answerTo 23 = .ok (.ireturn, 1) := by decide +kernel
theorem d_G_answerTo_24 : decode b_G_answerTo 24 = .ok (.aload_n 0, 1) := by decide +kernel
theorem d_G_answerTo_25 : decode b_G_answerTo 25 = .ok (.aload_n 1, 1) := by decide +kernel
theorem d_G_answerTo_26 : decode b_G_answerTo 26 = .ok (.iload_n 2, 1) := by decide +kernel
theorem d_G_answerTo_27 : decode b_G_answerTo 27 = .ok (.invokevirtual 362, 3) := by decide +kernel
theorem d_G_answerTo_30 : decode b_G_answerTo 30 = .ok (.astore_n 3, 1) := by decide +kernel
theorem d_G_answerTo_31 : decode b_G_answerTo 31 = .ok (.aload_n 3, 1) := by decide +kernel
theorem d_G_answerTo_32 : decode b_G_answerTo 32 = .ok (.ifnonnull 5, 3) := by decide +kernel
theorem d_G_answerTo_35 : decode b_G_answerTo 35 = .ok (.iconst 2, 1) := by decide +kernel
theorem d_G_answerTo_36 : decode b_G_answerTo 36 = .ok (.ireturn, 1) := by decide +kernel
theorem d_G_answerTo_37 : decode b_G_answerTo 37 = .ok (.aload_n 3, 1) := by decide +kernel
theorem d_G_answerTo_38 : decode b_G_answerTo 38 = .ok (.getfield 366, 3) := by decide +kernel
theorem d_G_answerTo_41 : decode b_G_answerTo 41 = .ok (.ifCond .ne 7, 3) := by decide +kernel
theorem d_G_answerTo_44 : decode b_G_answerTo 44 = .ok (.iconst 3, 1) := by decide +kernel
theorem d_G_answerTo_45 : decode b_G_answerTo 45 = .ok (.goto 4, 3) := by decide +kernel
theorem d_G_answerTo_48 : decode b_G_answerTo 48 = .ok (.iconst 4, 1) := by decide +kernel
theorem d_G_answerTo_49 : decode b_G_answerTo 49 = .ok (.ireturn, 1) := by decide +kernel
theorem d_G_lastWarning_0 : decode b_G_lastWarning 0 = .ok (.aconst_null, 1) := by decide +kernel
theorem d_G_lastWarning_1 : decode b_G_lastWarning 1 = .ok (.astore_n 3, 1) := by decide +kernel
theorem d_G_lastWarning_2 : decode b_G_lastWarning 2 = .ok (.aload_n 0, 1) := by decide +kernel
theorem d_G_lastWarning_3 : decode b_G_lastWarning 3 = .ok (.getfield 23, 3) := by decide +kernel
theorem d_G_lastWarning_6 : decode b_G_lastWarning 6 = .ok (.astore 4, 2) := by decide +kernel
theorem d_G_lastWarning_8 : decode b_G_lastWarning 8 = .ok (.aload 4, 2) := by decide +kernel
theorem d_G_lastWarning_10 : decode b_G_lastWarning 10 = .ok (.arraylength, 1) := by decide +kernel
theorem d_G_lastWarning_11 : decode b_G_lastWarning 11 = .ok (.istore 5, 2) := by decide +kernel
theorem d_G_lastWarning_13 : decode b_G_lastWarning 13 = .ok (.iconst 0, 1) := by decide +kernel
theorem d_G_lastWarning_14 : decode b_G_lastWarning 14 = .ok (.istore 6, 2) := by decide +kernel
theorem d_G_lastWarning_16 : decode b_G_lastWarning 16 = .ok (.iload 6, 2) := by decide +kernel
theorem d_G_lastWarning_18 : decode b_G_lastWarning 18 = .ok (.iload 5, 2) := by decide +kernel
theorem d_G_lastWarning_20 : decode b_G_lastWarning 20 = .ok (.if_icmp .ge 62, 3) := by decide +kernel
theorem d_G_lastWarning_23 : decode b_G_lastWarning 23 = .ok (.aload 4, 2) := by decide +kernel
theorem d_G_lastWarning_25 : decode b_G_lastWarning 25 = .ok (.iload 6, 2) := by decide +kernel
theorem d_G_lastWarning_27 : decode b_G_lastWarning 27 = .ok (.aaload, 1) := by decide +kernel
theorem d_G_lastWarning_28 : decode b_G_lastWarning 28 = .ok (.astore 7, 2) := by decide +kernel
theorem d_G_lastWarning_30 : decode b_G_lastWarning 30 = .ok (.aload 7, 2) := by decide +kernel
theorem d_G_lastWarning_32 : decode b_G_lastWarning 32 = .ok (.ifnull 44, 3) := by decide +kernel
theorem d_G_lastWarning_35 : decode b_G_lastWarning 35 = .ok (.aload 7, 2) := by decide +kernel
theorem d_G_lastWarning_37 : decode b_G_lastWarning 37 = .ok (.getfield 367, 3) := by decide +kernel
theorem d_G_lastWarning_40 : decode b_G_lastWarning 40 = .ok (.iload_n 2, 1) := by decide +kernel
theorem d_G_lastWarning_41 : decode b_G_lastWarning 41 = .ok (.iconst 4, 1) := by decide +kernel
theorem d_G_lastWarning_42 : decode b_G_lastWarning 42 = .ok (.isub, 1) := by decide +kernel
theorem d_G_lastWarning_43 : decode b_G_lastWarning 43 = .ok (.iload_n 2, 1) := by decide +kernel
theorem d_G_lastWarning_44 : decode b_G_lastWarning 44 = .ok (.invokestatic 78, 3) := by decide +kernel
theorem d_G_lastWarning_47 : decode b_G_lastWarning 47 = .ok (.ifCond .eq 29, 3) := by decide +kernel
theorem d_G_lastWarning_50 : decode b_G_lastWarning 50 = .ok (.iload_n 2, 1) := by decide +kernel
theorem d_G_lastWarning_51 : decode b_G_lastWarning 51 = .ok (.aload 7, 2) := by decide +kernel
theorem d_G_lastWarning_53 : decode b_G_lastWarning 53 = .ok (.getfield 368, 3) := by decide +kernel
theorem d_G_lastWarning_56 : decode b_G_lastWarning 56 = .ok (.isub, 1) := by decide +kernel
theorem d_G_lastWarning_57 : decode b_G_lastWarning 57 = .ok (.aload_n 1, 1) := by decide +kernel
theorem d_G_lastWarning_58 : decode b_G_lastWarning 58 = .ok (.invokevirtual 371, 3) := by decide +kernel
theorem d_G_lastWarning_61 : decode b_G_lastWarning 61 = .ok (.if_icmp .lt 15, 3) := by decide +kernel
theorem d_G_lastWarning_64 : decode b_G_lastWarning 64 = .ok (.aload 7, 2) := by decide +kernel
theorem d_G_lastWarning_66 : decode b_G_lastWarning 66 = .ok (.aload_n 1, 1) := by decide +kernel
theorem d_G_lastWarning_67 : decode b_G_lastWarning 67 = .ok (.invokevirtual 351, 3) := by decide +kernel
theorem d_G_lastWarning_70 : decode b_G_lastWarning 70 = .ok (.ifCond .eq 6, 3) := by decide +kernel
theorem d_G_lastWarning_73 : decode b_G_lastWarning 73 = .ok (.aload 7, 2) := by decide +kernel
theorem d_G_lastWarning_75 : decode b_G_lastWarning 75 = .ok (.astore_n 3, 1) := by decide +kernel
theorem d_G_lastWarning_76 : decode b_G_lastWarning 76 = .ok (.iinc 6 1, 3) := by decide +kernel
theorem d_G_lastWarning_79 : decode b_G_lastWarning 79 = .ok (.goto (-63), 3) := by decide +kernel
theorem d_G_lastWarning_82 : decode b_G_lastWarning 82 = .ok (.aload_n 3, 1) := by decide +kernel
theorem d_G_lastWarning_83 : decode b_G_lastWarning 83 = .ok (.areturn, 1) := by decide +kernel
theorem d_G_countOf_0 : decode b_G_countOf 0 = .ok (.iload_n 1, 1) := by decide +kernel
theorem d_G_countOf_1 : decode b_G_countOf 1 = .ok (.tableswitch 141 0 13 #[71, 76, 81, 86, 91, 96, 101, 106, 111, 116, 121, 126, 131, 136], 71) := by decide +kernel
theorem d_G_countOf_72 : decode b_G_countOf 72 = .ok (.aload_n 0, 1) := by decide +kernel
theorem d_G_countOf_73 : decode b_G_countOf 73 = .ok (.getfield 84, 3) := by decide +kernel
theorem d_G_countOf_76 : decode b_G_countOf 76 = .ok (.ireturn, 1) := by decide +kernel
theorem d_G_countOf_77 : decode b_G_countOf 77 = .ok (.aload_n 0, 1) := by decide +kernel
theorem d_G_countOf_78 : decode b_G_countOf 78 = .ok (.getfield 127, 3) := by decide +kernel
theorem d_G_countOf_81 : decode b_G_countOf 81 = .ok (.ireturn, 1) := by decide +kernel
theorem d_G_countOf_82 : decode b_G_countOf 82 = .ok (.aload_n 0, 1) := by decide +kernel
theorem d_G_countOf_83 : decode b_G_countOf 83 = .ok (.getfield 155, 3) := by decide +kernel
theorem d_G_countOf_86 : decode b_G_countOf 86 = .ok (.ireturn, 1) := by decide +kernel
theorem d_G_countOf_87 : decode b_G_countOf 87 = .ok (.aload_n 0, 1) := by decide +kernel
theorem d_G_countOf_88 : decode b_G_countOf 88 = .ok (.getfield 58, 3) := by decide +kernel
theorem d_G_countOf_91 : decode b_G_countOf 91 = .ok (.ireturn, 1) := by decide +kernel
theorem d_G_countOf_92 : decode b_G_countOf 92 = .ok (.aload_n 0, 1) := by decide +kernel
theorem d_G_countOf_93 : decode b_G_countOf 93 = .ok (.invokevirtual 130, 3) := by decide +kernel
theorem d_G_countOf_96 : decode b_G_countOf 96 = .ok (.ireturn, 1) := by decide +kernel
theorem d_G_countOf_97 : decode b_G_countOf 97 = .ok (.aload_n 0, 1) := by decide +kernel
theorem d_G_countOf_98 : decode b_G_countOf 98 = .ok (.invokevirtual 374, 3) := by decide +kernel
theorem d_G_countOf_101 : decode b_G_countOf 101 = .ok (.ireturn, 1) := by decide +kernel
theorem d_G_countOf_102 : decode b_G_countOf 102 = .ok (.aload_n 0, 1) := by decide +kernel
theorem d_G_countOf_103 : decode b_G_countOf 103 = .ok (.invokevirtual 377, 3) := by decide +kernel
theorem d_G_countOf_106 : decode b_G_countOf 106 = .ok (.ireturn, 1) := by decide +kernel
theorem d_G_countOf_107 : decode b_G_countOf 107 = .ok (.aload_n 0, 1) := by decide +kernel
theorem d_G_countOf_108 : decode b_G_countOf 108 = .ok (.invokevirtual 380, 3) := by decide +kernel
theorem d_G_countOf_111 : decode b_G_countOf 111 = .ok (.ireturn, 1) := by decide +kernel
theorem d_G_countOf_112 : decode b_G_countOf 112 = .ok (.aload_n 0, 1) := by decide +kernel
theorem d_G_countOf_113 : decode b_G_countOf 113 = .ok (.getfield 348, 3) := by decide +kernel
theorem d_G_countOf_116 : decode b_G_countOf 116 = .ok (.ireturn, 1) := by decide +kernel
theorem d_G_countOf_117 : decode b_G_countOf 117 = .ok (.aload_n 0, 1) := by decide +kernel
theorem d_G_countOf_118 : decode b_G_countOf 118 = .ok (.invokevirtual 383, 3) := by decide +kernel
theorem d_G_countOf_121 : decode b_G_countOf 121 = .ok (.ireturn, 1) := by decide +kernel
theorem d_G_countOf_122 : decode b_G_countOf 122 = .ok (.aload_n 0, 1) := by decide +kernel
theorem d_G_countOf_123 : decode b_G_countOf 123 = .ok (.getfield 330, 3) := by decide +kernel
theorem d_G_countOf_126 : decode b_G_countOf 126 = .ok (.ireturn, 1) := by decide +kernel
theorem d_G_countOf_127 : decode b_G_countOf 127 = .ok (.aload_n 0, 1) := by decide +kernel
theorem d_G_countOf_128 : decode b_G_countOf 128 = .ok (.getfield 122, 3) := by decide +kernel
theorem d_G_countOf_131 : decode b_G_countOf 131 = .ok (.ireturn, 1) := by decide +kernel
theorem d_G_countOf_132 : decode b_G_countOf 132 = .ok (.aload_n 0, 1) := by decide +kernel
theorem d_G_countOf_133 : decode b_G_countOf 133 = .ok (.invokevirtual 210, 3) := by decide +kernel
theorem d_G_countOf_136 : decode b_G_countOf 136 = .ok (.ireturn, 1) := by decide +kernel
theorem d_G_countOf_137 : decode b_G_countOf 137 = .ok (.aload_n 0, 1) := by decide +kernel
theorem d_G_countOf_138 : decode b_G_countOf 138 = .ok (.getfield 345, 3) := by decide +kernel
theorem d_G_countOf_141 : decode b_G_countOf 141 = .ok (.ireturn, 1) := by decide +kernel
theorem d_G_countOf_142 : decode b_G_countOf 142 = .ok (.aload_n 0, 1) := by decide +kernel
theorem d_G_countOf_143 : decode b_G_countOf 143 = .ok (.invokevirtual 152, 3) := by decide +kernel
theorem d_G_countOf_146 : decode b_G_countOf 146 = .ok (.ireturn, 1) := by decide +kernel
theorem d_G_saltInHoppers_0 : decode b_G_saltInHoppers 0 = .ok (.iconst 0, 1) := by decide +kernel
theorem d_G_saltInHoppers_1 : decode b_G_saltInHoppers 1 = .ok (.istore_n 1, 1) := by decide +kernel
theorem d_G_saltInHoppers_2 : decode b_G_saltInHoppers 2 = .ok (.aload_n 0, 1) := by decide +kernel
theorem d_G_saltInHoppers_3 : decode b_G_saltInHoppers 3 = .ok (.getfield 17, 3) := by decide +kernel
theorem d_G_saltInHoppers_6 : decode b_G_saltInHoppers 6 = .ok (.astore_n 2, 1) := by decide +kernel
theorem d_G_saltInHoppers_7 : decode b_G_saltInHoppers 7 = .ok (.aload_n 2, 1) := by decide +kernel
theorem d_G_saltInHoppers_8 : decode b_G_saltInHoppers 8 = .ok (.arraylength, 1) := by decide +kernel
theorem d_G_saltInHoppers_9 : decode b_G_saltInHoppers 9 = .ok (.istore_n 3, 1) := by decide +kernel
theorem d_G_saltInHoppers_10 : decode b_G_saltInHoppers 10 = .ok (.iconst 0, 1) := by decide +kernel
theorem d_G_saltInHoppers_11 : decode b_G_saltInHoppers 11 = .ok (.istore 4, 2) := by decide +kernel
theorem d_G_saltInHoppers_13 : decode b_G_saltInHoppers 13 = .ok (.iload 4, 2) := by decide +kernel
theorem d_G_saltInHoppers_15 : decode b_G_saltInHoppers 15 = .ok (.iload_n 3, 1) := by decide +kernel
theorem d_G_saltInHoppers_16 : decode b_G_saltInHoppers 16 = .ok (.if_icmp .ge 32, 3) := by decide +kernel
theorem d_G_saltInHoppers_19 : decode b_G_saltInHoppers 19 = .ok (.aload_n 2, 1) := by decide +kernel
theorem d_G_saltInHoppers_20 : decode b_G_saltInHoppers 20 = .ok (.iload 4, 2) := by decide +kernel
theorem d_G_saltInHoppers_22 : decode b_G_saltInHoppers 22 = .ok (.aaload, 1) := by decide +kernel
theorem d_G_saltInHoppers_23 : decode b_G_saltInHoppers 23 = .ok (.astore 5, 2) := by decide +kernel
theorem d_G_saltInHoppers_25 : decode b_G_saltInHoppers 25 = .ok (.iload_n 1, 1) := by decide +kernel
theorem d_G_saltInHoppers_26 : decode b_G_saltInHoppers 26 = .ok (.aload 5, 2) := by decide +kernel
theorem d_G_saltInHoppers_28 : decode b_G_saltInHoppers 28 = .ok (.ifnonnull 7, 3) := by decide +kernel
theorem d_G_saltInHoppers_31 : decode b_G_saltInHoppers 31 = .ok (.iconst 0, 1) := by decide +kernel
theorem d_G_saltInHoppers_32 : decode b_G_saltInHoppers 32 = .ok (.goto 8, 3) := by decide +kernel
theorem d_G_saltInHoppers_35 : decode b_G_saltInHoppers 35 = .ok (.aload 5, 2) := by decide +kernel
theorem d_G_saltInHoppers_37 : decode b_G_saltInHoppers 37 = .ok (.getfield 194, 3) := by decide +kernel
theorem d_G_saltInHoppers_40 : decode b_G_saltInHoppers 40 = .ok (.iadd, 1) := by decide +kernel
theorem d_G_saltInHoppers_41 : decode b_G_saltInHoppers 41 = .ok (.istore_n 1, 1) := by decide +kernel
theorem d_G_saltInHoppers_42 : decode b_G_saltInHoppers 42 = .ok (.iinc 4 1, 3) := by decide +kernel
theorem d_G_saltInHoppers_45 : decode b_G_saltInHoppers 45 = .ok (.goto (-32), 3) := by decide +kernel
theorem d_G_saltInHoppers_48 : decode b_G_saltInHoppers 48 = .ok (.iload_n 1, 1) := by decide +kernel
theorem d_G_saltInHoppers_49 : decode b_G_saltInHoppers 49 = .ok (.ireturn, 1) := by decide +kernel
theorem d_G_saltOnRoads_0 : decode b_G_saltOnRoads 0 = .ok (.iconst 0, 1) := by decide +kernel
theorem d_G_saltOnRoads_1 : decode b_G_saltOnRoads 1 = .ok (.istore_n 1, 1) := by decide +kernel
theorem d_G_saltOnRoads_2 : decode b_G_saltOnRoads 2 = .ok (.aload_n 0, 1) := by decide +kernel
theorem d_G_saltOnRoads_3 : decode b_G_saltOnRoads 3 = .ok (.getfield 11, 3) := by decide +kernel
theorem d_G_saltOnRoads_6 : decode b_G_saltOnRoads 6 = .ok (.astore_n 2, 1) := by decide +kernel
theorem d_G_saltOnRoads_7 : decode b_G_saltOnRoads 7 = .ok (.aload_n 2, 1) := by decide +kernel
theorem d_G_saltOnRoads_8 : decode b_G_saltOnRoads 8 = .ok (.arraylength, 1) := by decide +kernel
theorem d_G_saltOnRoads_9 : decode b_G_saltOnRoads 9 = .ok (.istore_n 3, 1) := by decide +kernel
theorem d_G_saltOnRoads_10 : decode b_G_saltOnRoads 10 = .ok (.iconst 0, 1) := by decide +kernel
theorem d_G_saltOnRoads_11 : decode b_G_saltOnRoads 11 = .ok (.istore 4, 2) := by decide +kernel
theorem d_G_saltOnRoads_13 : decode b_G_saltOnRoads 13 = .ok (.iload 4, 2) := by decide +kernel
theorem d_G_saltOnRoads_15 : decode b_G_saltOnRoads 15 = .ok (.iload_n 3, 1) := by decide +kernel
theorem d_G_saltOnRoads_16 : decode b_G_saltOnRoads 16 = .ok (.if_icmp .ge 35, 3) := by decide +kernel
theorem d_G_saltOnRoads_19 : decode b_G_saltOnRoads 19 = .ok (.aload_n 2, 1) := by decide +kernel
theorem d_G_saltOnRoads_20 : decode b_G_saltOnRoads 20 = .ok (.iload 4, 2) := by decide +kernel
theorem d_G_saltOnRoads_22 : decode b_G_saltOnRoads 22 = .ok (.aaload, 1) := by decide +kernel
theorem d_G_saltOnRoads_23 : decode b_G_saltOnRoads 23 = .ok (.astore 5, 2) := by decide +kernel
theorem d_G_saltOnRoads_25 : decode b_G_saltOnRoads 25 = .ok (.iload_n 1, 1) := by decide +kernel
theorem d_G_saltOnRoads_26 : decode b_G_saltOnRoads 26 = .ok (.aload 5, 2) := by decide +kernel
theorem d_G_saltOnRoads_28 : decode b_G_saltOnRoads 28 = .ok (.ifnonnull 7, 3) := by decide +kernel
theorem d_G_saltOnRoads_31 : decode b_G_saltOnRoads 31 = .ok (.iconst 0, 1) := by decide +kernel
theorem d_G_saltOnRoads_32 : decode b_G_saltOnRoads 32 = .ok (.goto 11, 3) := by decide +kernel
theorem d_G_saltOnRoads_35 : decode b_G_saltOnRoads 35 = .ok (.aload 5, 2) := by decide +kernel
theorem d_G_saltOnRoads_37 : decode b_G_saltOnRoads 37 = .ok (.getfield 245, 3) := by decide +kernel
theorem d_G_saltOnRoads_40 : decode b_G_saltOnRoads 40 = .ok (.getfield 324, 3) := by decide +kernel
theorem d_G_saltOnRoads_43 : decode b_G_saltOnRoads 43 = .ok (.iadd, 1) := by decide +kernel
theorem d_G_saltOnRoads_44 : decode b_G_saltOnRoads 44 = .ok (.istore_n 1, 1) := by decide +kernel
theorem d_G_saltOnRoads_45 : decode b_G_saltOnRoads 45 = .ok (.iinc 4 1, 3) := by decide +kernel
theorem d_G_saltOnRoads_48 : decode b_G_saltOnRoads 48 = .ok (.goto (-35), 3) := by decide +kernel
theorem d_G_saltOnRoads_51 : decode b_G_saltOnRoads 51 = .ok (.iload_n 1, 1) := by decide +kernel
theorem d_G_saltOnRoads_52 : decode b_G_saltOnRoads 52 = .ok (.ireturn, 1) := by decide +kernel
theorem d_G_saltInRiver_0 : decode b_G_saltInRiver 0 = .ok (.iconst 0, 1) := by decide +kernel
theorem d_G_saltInRiver_1 : decode b_G_saltInRiver 1 = .ok (.istore_n 1, 1) := by decide +kernel
theorem d_G_saltInRiver_2 : decode b_G_saltInRiver 2 = .ok (.aload_n 0, 1) := by decide +kernel
theorem d_G_saltInRiver_3 : decode b_G_saltInRiver 3 = .ok (.getfield 11, 3) := by decide +kernel
theorem d_G_saltInRiver_6 : decode b_G_saltInRiver 6 = .ok (.astore_n 2, 1) := by decide +kernel
theorem d_G_saltInRiver_7 : decode b_G_saltInRiver 7 = .ok (.aload_n 2, 1) := by decide +kernel
theorem d_G_saltInRiver_8 : decode b_G_saltInRiver 8 = .ok (.arraylength, 1) := by decide +kernel
theorem d_G_saltInRiver_9 : decode b_G_saltInRiver 9 = .ok (.istore_n 3, 1) := by decide +kernel
theorem d_G_saltInRiver_10 : decode b_G_saltInRiver 10 = .ok (.iconst 0, 1) := by decide +kernel
theorem d_G_saltInRiver_11 : decode b_G_saltInRiver 11 = .ok (.istore 4, 2) := by decide +kernel
theorem d_G_saltInRiver_13 : decode b_G_saltInRiver 13 = .ok (.iload 4, 2) := by decide +kernel
theorem d_G_saltInRiver_15 : decode b_G_saltInRiver 15 = .ok (.iload_n 3, 1) := by decide +kernel
theorem d_G_saltInRiver_16 : decode b_G_saltInRiver 16 = .ok (.if_icmp .ge 35, 3) := by decide +kernel
theorem d_G_saltInRiver_19 : decode b_G_saltInRiver 19 = .ok (.aload_n 2, 1) := by decide +kernel
theorem d_G_saltInRiver_20 : decode b_G_saltInRiver 20 = .ok (.iload 4, 2) := by decide +kernel
theorem d_G_saltInRiver_22 : decode b_G_saltInRiver 22 = .ok (.aaload, 1) := by decide +kernel
theorem d_G_saltInRiver_23 : decode b_G_saltInRiver 23 = .ok (.astore 5, 2) := by decide +kernel
theorem d_G_saltInRiver_25 : decode b_G_saltInRiver 25 = .ok (.iload_n 1, 1) := by decide +kernel
theorem d_G_saltInRiver_26 : decode b_G_saltInRiver 26 = .ok (.aload 5, 2) := by decide +kernel
theorem d_G_saltInRiver_28 : decode b_G_saltInRiver 28 = .ok (.ifnonnull 7, 3) := by decide +kernel
theorem d_G_saltInRiver_31 : decode b_G_saltInRiver 31 = .ok (.iconst 0, 1) := by decide +kernel
theorem d_G_saltInRiver_32 : decode b_G_saltInRiver 32 = .ok (.goto 11, 3) := by decide +kernel
theorem d_G_saltInRiver_35 : decode b_G_saltInRiver 35 = .ok (.aload 5, 2) := by decide +kernel
theorem d_G_saltInRiver_37 : decode b_G_saltInRiver 37 = .ok (.getfield 245, 3) := by decide +kernel
theorem d_G_saltInRiver_40 : decode b_G_saltInRiver 40 = .ok (.getfield 386, 3) := by decide +kernel
theorem d_G_saltInRiver_43 : decode b_G_saltInRiver 43 = .ok (.iadd, 1) := by decide +kernel
theorem d_G_saltInRiver_44 : decode b_G_saltInRiver 44 = .ok (.istore_n 1, 1) := by decide +kernel
theorem d_G_saltInRiver_45 : decode b_G_saltInRiver 45 = .ok (.iinc 4 1, 3) := by decide +kernel
theorem d_G_saltInRiver_48 : decode b_G_saltInRiver 48 = .ok (.goto (-35), 3) := by decide +kernel
theorem d_G_saltInRiver_51 : decode b_G_saltInRiver 51 = .ok (.iload_n 1, 1) := by decide +kernel
theorem d_G_saltInRiver_52 : decode b_G_saltInRiver 52 = .ok (.ireturn, 1) := by decide +kernel
theorem d_G_saltOnFields_0 : decode b_G_saltOnFields 0 = .ok (.iconst 0, 1) := by decide +kernel
theorem d_G_saltOnFields_1 : decode b_G_saltOnFields 1 = .ok (.istore_n 1, 1) := by decide +kernel
theorem d_G_saltOnFields_2 : decode b_G_saltOnFields 2 = .ok (.aload_n 0, 1) := by decide +kernel
theorem d_G_saltOnFields_3 : decode b_G_saltOnFields 3 = .ok (.getfield 11, 3) := by decide +kernel
theorem d_G_saltOnFields_6 : decode b_G_saltOnFields 6 = .ok (.astore_n 2, 1) := by decide +kernel
theorem d_G_saltOnFields_7 : decode b_G_saltOnFields 7 = .ok (.aload_n 2, 1) := by decide +kernel
theorem d_G_saltOnFields_8 : decode b_G_saltOnFields 8 = .ok (.arraylength, 1) := by decide +kernel
theorem d_G_saltOnFields_9 : decode b_G_saltOnFields 9 = .ok (.istore_n 3, 1) := by decide +kernel
theorem d_G_saltOnFields_10 : decode b_G_saltOnFields 10 = .ok (.iconst 0, 1) := by decide +kernel
theorem d_G_saltOnFields_11 : decode b_G_saltOnFields 11 = .ok (.istore 4, 2) := by decide +kernel
theorem d_G_saltOnFields_13 : decode b_G_saltOnFields 13 = .ok (.iload 4, 2) := by decide +kernel
theorem d_G_saltOnFields_15 : decode b_G_saltOnFields 15 = .ok (.iload_n 3, 1) := by decide +kernel
theorem d_G_saltOnFields_16 : decode b_G_saltOnFields 16 = .ok (.if_icmp .ge 35, 3) := by decide +kernel
theorem d_G_saltOnFields_19 : decode b_G_saltOnFields 19 = .ok (.aload_n 2, 1) := by decide +kernel
theorem d_G_saltOnFields_20 : decode b_G_saltOnFields 20 = .ok (.iload 4, 2) := by decide +kernel
theorem d_G_saltOnFields_22 : decode b_G_saltOnFields 22 = .ok (.aaload, 1) := by decide +kernel
theorem d_G_saltOnFields_23 : decode b_G_saltOnFields 23 = .ok (.astore 5, 2) := by decide +kernel
theorem d_G_saltOnFields_25 : decode b_G_saltOnFields 25 = .ok (.iload_n 1, 1) := by decide +kernel
theorem d_G_saltOnFields_26 : decode b_G_saltOnFields 26 = .ok (.aload 5, 2) := by decide +kernel
theorem d_G_saltOnFields_28 : decode b_G_saltOnFields 28 = .ok (.ifnonnull 7, 3) := by decide +kernel
theorem d_G_saltOnFields_31 : decode b_G_saltOnFields 31 = .ok (.iconst 0, 1) := by decide +kernel
theorem d_G_saltOnFields_32 : decode b_G_saltOnFields 32 = .ok (.goto 11, 3) := by decide +kernel
theorem d_G_saltOnFields_35 : decode b_G_saltOnFields 35 = .ok (.aload 5, 2) := by decide +kernel
theorem d_G_saltOnFields_37 : decode b_G_saltOnFields 37 = .ok (.getfield 245, 3) := by decide +kernel
theorem d_G_saltOnFields_40 : decode b_G_saltOnFields 40 = .ok (.getfield 389, 3) := by decide +kernel
theorem d_G_saltOnFields_43 : decode b_G_saltOnFields 43 = .ok (.iadd, 1) := by decide +kernel
theorem d_G_saltOnFields_44 : decode b_G_saltOnFields 44 = .ok (.istore_n 1, 1) := by decide +kernel
theorem d_G_saltOnFields_45 : decode b_G_saltOnFields 45 = .ok (.iinc 4 1, 3) := by decide +kernel
theorem d_G_saltOnFields_48 : decode b_G_saltOnFields 48 = .ok (.goto (-35), 3) := by decide +kernel
theorem d_G_saltOnFields_51 : decode b_G_saltOnFields 51 = .ok (.iload_n 1, 1) := by decide +kernel
theorem d_G_saltOnFields_52 : decode b_G_saltOnFields 52 = .ok (.ireturn, 1) := by decide +kernel
theorem d_G_waterRunOff_0 : decode b_G_waterRunOff 0 = .ok (.iconst 0, 1) := by decide +kernel
theorem d_G_waterRunOff_1 : decode b_G_waterRunOff 1 = .ok (.istore_n 1, 1) := by decide +kernel
theorem d_G_waterRunOff_2 : decode b_G_waterRunOff 2 = .ok (.aload_n 0, 1) := by decide +kernel
theorem d_G_waterRunOff_3 : decode b_G_waterRunOff 3 = .ok (.getfield 11, 3) := by decide +kernel
theorem d_G_waterRunOff_6 : decode b_G_waterRunOff 6 = .ok (.astore_n 2, 1) := by decide +kernel
theorem d_G_waterRunOff_7 : decode b_G_waterRunOff 7 = .ok (.aload_n 2, 1) := by decide +kernel
theorem d_G_waterRunOff_8 : decode b_G_waterRunOff 8 = .ok (.arraylength, 1) := by decide +kernel
theorem d_G_waterRunOff_9 : decode b_G_waterRunOff 9 = .ok (.istore_n 3, 1) := by decide +kernel
theorem d_G_waterRunOff_10 : decode b_G_waterRunOff 10 = .ok (.iconst 0, 1) := by decide +kernel
theorem d_G_waterRunOff_11 : decode b_G_waterRunOff 11 = .ok (.istore 4, 2) := by decide +kernel
theorem d_G_waterRunOff_13 : decode b_G_waterRunOff 13 = .ok (.iload 4, 2) := by decide +kernel
theorem d_G_waterRunOff_15 : decode b_G_waterRunOff 15 = .ok (.iload_n 3, 1) := by decide +kernel
theorem d_G_waterRunOff_16 : decode b_G_waterRunOff 16 = .ok (.if_icmp .ge 35, 3) := by decide +kernel
theorem d_G_waterRunOff_19 : decode b_G_waterRunOff 19 = .ok (.aload_n 2, 1) := by decide +kernel
theorem d_G_waterRunOff_20 : decode b_G_waterRunOff 20 = .ok (.iload 4, 2) := by decide +kernel
theorem d_G_waterRunOff_22 : decode b_G_waterRunOff 22 = .ok (.aaload, 1) := by decide +kernel
theorem d_G_waterRunOff_23 : decode b_G_waterRunOff 23 = .ok (.astore 5, 2) := by decide +kernel
theorem d_G_waterRunOff_25 : decode b_G_waterRunOff 25 = .ok (.iload_n 1, 1) := by decide +kernel
theorem d_G_waterRunOff_26 : decode b_G_waterRunOff 26 = .ok (.aload 5, 2) := by decide +kernel
theorem d_G_waterRunOff_28 : decode b_G_waterRunOff 28 = .ok (.ifnonnull 7, 3) := by decide +kernel
theorem d_G_waterRunOff_31 : decode b_G_waterRunOff 31 = .ok (.iconst 0, 1) := by decide +kernel
theorem d_G_waterRunOff_32 : decode b_G_waterRunOff 32 = .ok (.goto 11, 3) := by decide +kernel
theorem d_G_waterRunOff_35 : decode b_G_waterRunOff 35 = .ok (.aload 5, 2) := by decide +kernel
theorem d_G_waterRunOff_37 : decode b_G_waterRunOff 37 = .ok (.getfield 245, 3) := by decide +kernel
theorem d_G_waterRunOff_40 : decode b_G_waterRunOff 40 = .ok (.getfield 392, 3) := by decide +kernel
theorem d_G_waterRunOff_43 : decode b_G_waterRunOff 43 = .ok (.iadd, 1) := by decide +kernel
theorem d_G_waterRunOff_44 : decode b_G_waterRunOff 44 = .ok (.istore_n 1, 1) := by decide +kernel
theorem d_G_waterRunOff_45 : decode b_G_waterRunOff 45 = .ok (.iinc 4 1, 3) := by decide +kernel
theorem d_G_waterRunOff_48 : decode b_G_waterRunOff 48 = .ok (.goto (-35), 3) := by decide +kernel
theorem d_G_waterRunOff_51 : decode b_G_waterRunOff 51 = .ok (.iload_n 1, 1) := by decide +kernel
theorem d_G_waterRunOff_52 : decode b_G_waterRunOff 52 = .ok (.ireturn, 1) := by decide +kernel
theorem d_G_deliveriesOnTheirWay_0 : decode b_G_deliveriesOnTheirWay 0 = .ok (.iconst 0, 1) := by decide +kernel
theorem d_G_deliveriesOnTheirWay_1 : decode b_G_deliveriesOnTheirWay 1 = .ok (.istore_n 1, 1) := by decide +kernel
theorem d_G_deliveriesOnTheirWay_2 : decode b_G_deliveriesOnTheirWay 2 = .ok (.aload_n 0, 1) := by decide +kernel
theorem d_G_deliveriesOnTheirWay_3 : decode b_G_deliveriesOnTheirWay 3 = .ok (.getfield 29, 3) := by decide +kernel
theorem d_G_deliveriesOnTheirWay_6 : decode b_G_deliveriesOnTheirWay 6 = .ok (.astore_n 2, 1) := by decide +kernel
theorem d_G_deliveriesOnTheirWay_7 : decode b_G_deliveriesOnTheirWay 7 = .ok (.aload_n 2, 1) := by decide +kernel
theorem d_G_deliveriesOnTheirWay_8 : decode b_G_deliveriesOnTheirWay 8 = .ok (.arraylength, 1) := by decide +kernel
theorem d_G_deliveriesOnTheirWay_9 : decode b_G_deliveriesOnTheirWay 9 = .ok (.istore_n 3, 1) := by decide +kernel
theorem d_G_deliveriesOnTheirWay_10 : decode b_G_deliveriesOnTheirWay 10 = .ok (.iconst 0, 1) := by decide +kernel
theorem d_G_deliveriesOnTheirWay_11 : decode b_G_deliveriesOnTheirWay 11 = .ok (.istore 4, 2) := by decide +kernel
theorem d_G_deliveriesOnTheirWay_13 : decode b_G_deliveriesOnTheirWay 13 = .ok (.iload 4, 2) := by decide +kernel
theorem d_G_deliveriesOnTheirWay_15 : decode b_G_deliveriesOnTheirWay 15 = .ok (.iload_n 3, 1) := by decide +kernel
theorem d_G_deliveriesOnTheirWay_16 : decode b_G_deliveriesOnTheirWay 16 = .ok (.if_icmp .ge 28, 3) := by decide +kernel
theorem d_G_deliveriesOnTheirWay_19 : decode b_G_deliveriesOnTheirWay 19 = .ok (.aload_n 2, 1) := by decide +kernel
theorem d_G_deliveriesOnTheirWay_20 : decode b_G_deliveriesOnTheirWay 20 = .ok (.iload 4, 2) := by decide +kernel
theorem d_G_deliveriesOnTheirWay_22 : decode b_G_deliveriesOnTheirWay 22 = .ok (.aaload, 1) := by decide +kernel
theorem d_G_deliveriesOnTheirWay_23 : decode b_G_deliveriesOnTheirWay 23 = .ok (.astore 5, 2) := by decide +kernel
theorem d_G_deliveriesOnTheirWay_25 : decode b_G_deliveriesOnTheirWay 25 = .ok (.iload_n 1, 1) := by decide +kernel
theorem d_G_deliveriesOnTheirWay_26 : decode b_G_deliveriesOnTheirWay 26 = .ok (.aload 5, 2) := by decide +kernel
theorem d_G_deliveriesOnTheirWay_28 : decode b_G_deliveriesOnTheirWay 28 = .ok (.ifnonnull 7, 3) := by decide +kernel
theorem d_G_deliveriesOnTheirWay_31 : decode b_G_deliveriesOnTheirWay 31 = .ok (.iconst 0, 1) := by decide +kernel
theorem d_G_deliveriesOnTheirWay_32 : decode b_G_deliveriesOnTheirWay 32 = .ok (.goto 4, 3) := by decide +kernel
theorem d_G_deliveriesOnTheirWay_35 : decode b_G_deliveriesOnTheirWay 35 = .ok (.iconst 1, 1) := by decide +kernel
theorem d_G_deliveriesOnTheirWay_36 : decode b_G_deliveriesOnTheirWay 36 = .ok (.iadd, 1) := by decide +kernel
theorem d_G_deliveriesOnTheirWay_37 : decode b_G_deliveriesOnTheirWay 37 = .ok (.istore_n 1, 1) := by decide +kernel
theorem d_G_deliveriesOnTheirWay_38 : decode b_G_deliveriesOnTheirWay 38 = .ok (.iinc 4 1, 3) := by decide +kernel
theorem d_G_deliveriesOnTheirWay_41 : decode b_G_deliveriesOnTheirWay 41 = .ok (.goto (-28), 3) := by decide +kernel
theorem d_G_deliveriesOnTheirWay_44 : decode b_G_deliveriesOnTheirWay 44 = .ok (.iload_n 1, 1) := by decide +kernel
theorem d_G_deliveriesOnTheirWay_45 : decode b_G_deliveriesOnTheirWay 45 = .ok (.ireturn, 1) := by decide +kernel
theorem d_G_slipperyNow_0 : decode b_G_slipperyNow 0 = .ok (.iconst 0, 1) := by decide +kernel
theorem d_G_slipperyNow_1 : decode b_G_slipperyNow 1 = .ok (.istore_n 1, 1) := by decide +kernel
theorem d_G_slipperyNow_2 : decode b_G_slipperyNow 2 = .ok (.aload_n 0, 1) := by decide +kernel
theorem d_G_slipperyNow_3 : decode b_G_slipperyNow 3 = .ok (.getfield 11, 3) := by decide +kernel
theorem d_G_slipperyNow_6 : decode b_G_slipperyNow 6 = .ok (.astore_n 2, 1) := by decide +kernel
theorem d_G_slipperyNow_7 : decode b_G_slipperyNow 7 = .ok (.aload_n 2, 1) := by decide +kernel
theorem d_G_slipperyNow_8 : decode b_G_slipperyNow 8 = .ok (.arraylength, 1) := by decide +kernel
theorem d_G_slipperyNow_9 : decode b_G_slipperyNow 9 = .ok (.istore_n 3, 1) := by decide +kernel
theorem d_G_slipperyNow_10 : decode b_G_slipperyNow 10 = .ok (.iconst 0, 1) := by decide +kernel
theorem d_G_slipperyNow_11 : decode b_G_slipperyNow 11 = .ok (.istore 4, 2) := by decide +kernel
theorem d_G_slipperyNow_13 : decode b_G_slipperyNow 13 = .ok (.iload 4, 2) := by decide +kernel
theorem d_G_slipperyNow_15 : decode b_G_slipperyNow 15 = .ok (.iload_n 3, 1) := by decide +kernel
theorem d_G_slipperyNow_16 : decode b_G_slipperyNow 16 = .ok (.if_icmp .ge 40, 3) := by decide +kernel
theorem d_G_slipperyNow_19 : decode b_G_slipperyNow 19 = .ok (.aload_n 2, 1) := by decide +kernel
theorem d_G_slipperyNow_20 : decode b_G_slipperyNow 20 = .ok (.iload 4, 2) := by decide +kernel
theorem d_G_slipperyNow_22 : decode b_G_slipperyNow 22 = .ok (.aaload, 1) := by decide +kernel
theorem d_G_slipperyNow_23 : decode b_G_slipperyNow 23 = .ok (.astore 5, 2) := by decide +kernel
theorem d_G_slipperyNow_25 : decode b_G_slipperyNow 25 = .ok (.iload_n 1, 1) := by decide +kernel
theorem d_G_slipperyNow_26 : decode b_G_slipperyNow 26 = .ok (.aload 5, 2) := by decide +kernel
theorem d_G_slipperyNow_28 : decode b_G_slipperyNow 28 = .ok (.ifnull 19, 3) := by decide +kernel
theorem d_G_slipperyNow_31 : decode b_G_slipperyNow 31 = .ok (.aload 5, 2) := by decide +kernel
theorem d_G_slipperyNow_33 : decode b_G_slipperyNow 33 = .ok (.aload_n 0, 1) := by decide +kernel
theorem d_G_slipperyNow_34 : decode b_G_slipperyNow 34 = .ok (.getfield 127, 3) := by decide +kernel
theorem d_G_slipperyNow_37 : decode b_G_slipperyNow 37 = .ok (.invokevirtual 355, 3) := by decide +kernel
theorem d_G_slipperyNow_40 : decode b_G_slipperyNow 40 = .ok (.ifCond .eq 7, 3) := by decide +kernel
theorem d_G_slipperyNow_43 : decode b_G_slipperyNow 43 = .ok (.iconst 1, 1) := by decide +kernel
theorem d_G_slipperyNow_44 : decode b_G_slipperyNow 44 = .ok (.goto 4, 3) := by decide +kernel
theorem d_G_slipperyNow_47 : decode b_G_slipperyNow 47 = .ok (.iconst 0, 1) := by decide +kernel
theorem d_G_slipperyNow_48 : decode b_G_slipperyNow 48 = .ok (.iadd, 1) := by decide +kernel
theorem d_G_slipperyNow_49 : decode b_G_slipperyNow 49 = .ok (.istore_n 1, 1) := by decide +kernel
theorem d_G_slipperyNow_50 : decode b_G_slipperyNow 50 = .ok (.iinc 4 1, 3) := by decide +kernel
theorem d_G_slipperyNow_53 : decode b_G_slipperyNow 53 = .ok (.goto (-40), 3) := by decide +kernel
theorem d_G_slipperyNow_56 : decode b_G_slipperyNow 56 = .ok (.iload_n 1, 1) := by decide +kernel
theorem d_G_slipperyNow_57 : decode b_G_slipperyNow 57 = .ok (.ireturn, 1) := by decide +kernel
theorem d_G_shortestWay_0 : decode b_G_shortestWay 0 = .ok (.aload_n 0, 1) := by decide +kernel
theorem d_G_shortestWay_1 : decode b_G_shortestWay 1 = .ok (.getfield 47, 3) := by decide +kernel
theorem d_G_shortestWay_4 : decode b_G_shortestWay 4 = .ok (.ldc_w 278, 3) := by decide +kernel
theorem d_G_shortestWay_7 : decode b_G_shortestWay 7 = .ok (.invokestatic 394, 3) := by decide +kernel
theorem d_G_shortestWay_10 : decode b_G_shortestWay 10 = .ok (.aload_n 0, 1) := by decide +kernel
theorem d_G_shortestWay_11 : decode b_G_shortestWay 11 = .ok (.getfield 47, 3) := by decide +kernel
theorem d_G_shortestWay_14 : decode b_G_shortestWay 14 = .ok (.iload_n 1, 1) := by decide +kernel
theorem d_G_shortestWay_15 : decode b_G_shortestWay 15 = .ok (.iconst 0, 1) := by decide +kernel
theorem d_G_shortestWay_16 : decode b_G_shortestWay 16 = .ok (.invokestatic 400, 3) := by decide +kernel
theorem d_G_shortestWay_19 : decode b_G_shortestWay 19 = .ok (.iconst 1, 1) := by decide +kernel
theorem d_G_shortestWay_20 : decode b_G_shortestWay 20 = .ok (.istore_n 3, 1) := by decide +kernel
theorem d_G_shortestWay_21 : decode b_G_shortestWay 21 = .ok (.iload_n 3, 1) := by decide +kernel
theorem d_G_shortestWay_22 : decode b_G_shortestWay 22 = .ok (.bipush 7, 2) := by decide +kernel
theorem d_G_shortestWay_24 : decode b_G_shortestWay 24 = .ok (.if_icmp .ge 86, 3) := by decide +kernel
theorem d_G_shortestWay_27 : decode b_G_shortestWay 27 = .ok (.aload_n 0, 1) := by decide +kernel
theorem d_G_shortestWay_28 : decode b_G_shortestWay 28 = .ok (.getfield 11, 3) := by decide +kernel
theorem d_G_shortestWay_31 : decode b_G_shortestWay 31 = .ok (.astore 4, 2) := by decide +kernel
theorem d_G_shortestWay_33 : decode b_G_shortestWay 33 = .ok (.aload 4, 2) := by decide +kernel
theorem d_G_shortestWay_35 : decode b_G_shortestWay 35 = .ok (.arraylength, 1) := by decide +kernel
theorem d_G_shortestWay_36 : decode b_G_shortestWay 36 = .ok (.istore 5, 2) := by decide +kernel
theorem d_G_shortestWay_38 : decode b_G_shortestWay 38 = .ok (.iconst 0, 1) := by decide +kernel
theorem d_G_shortestWay_39 : decode b_G_shortestWay 39 = .ok (.istore 6, 2) := by decide +kernel
theorem d_G_shortestWay_41 : decode b_G_shortestWay 41 = .ok (.iload 6, 2) := by decide +kernel
theorem d_G_shortestWay_43 : decode b_G_shortestWay 43 = .ok (.iload 5, 2) := by decide +kernel
theorem d_G_shortestWay_45 : decode b_G_shortestWay 45 = .ok (.if_icmp .ge 59, 3) := by decide +kernel
theorem d_G_shortestWay_48 : decode b_G_shortestWay 48 = .ok (.aload 4, 2) := by decide +kernel
theorem d_G_shortestWay_50 : decode b_G_shortestWay 50 = .ok (.iload 6, 2) := by decide +kernel
theorem d_G_shortestWay_52 : decode b_G_shortestWay 52 = .ok (.aaload, 1) := by decide +kernel
theorem d_G_shortestWay_53 : decode b_G_shortestWay 53 = .ok (.astore 7, 2) := by decide +kernel
theorem d_G_shortestWay_55 : decode b_G_shortestWay 55 = .ok (.aload 7, 2) := by decide +kernel
theorem d_G_shortestWay_57 : decode b_G_shortestWay 57 = .ok (.ifnull 41, 3) := by decide +kernel
theorem d_G_shortestWay_60 : decode b_G_shortestWay 60 = .ok (.aload_n 0, 1) := by decide +kernel
theorem d_G_shortestWay_61 : decode b_G_shortestWay 61 = .ok (.aload 7, 2) := by decide +kernel
theorem d_G_shortestWay_63 : decode b_G_shortestWay 63 = .ok (.getfield 404, 3) := by decide +kernel
theorem d_G_shortestWay_66 : decode b_G_shortestWay 66 = .ok (.aload 7, 2) := by decide +kernel
theorem d_G_shortestWay_68 : decode b_G_shortestWay 68 = .ok (.getfield 407, 3) := by decide +kernel
theorem d_G_shortestWay_71 : decode b_G_shortestWay 71 = .ok (.aload 7, 2) := by decide +kernel
theorem d_G_shortestWay_73 : decode b_G_shortestWay 73 = .ok (.getfield 311, 3) := by decide +kernel
theorem d_G_shortestWay_76 : decode b_G_shortestWay 76 = .ok (.invokevirtual 410, 3) := by decide +kernel
theorem d_G_shortestWay_79 : decode b_G_shortestWay 79 = .ok (.aload_n 0, 1) := by decide +kernel
theorem d_G_shortestWay_80 : decode b_G_shortestWay 80 = .ok (.aload 7, 2) := by decide +kernel
theorem d_G_shortestWay_82 : decode b_G_shortestWay 82 = .ok (.getfield 407, 3) := by decide +kernel
theorem d_G_shortestWay_85 : decode b_G_shortestWay 85 = .ok (.aload 7, 2) := by decide +kernel
theorem d_G_shortestWay_87 : decode b_G_shortestWay 87 = .ok (.getfield 404, 3) := by decide +kernel
theorem d_G_shortestWay_90 : decode b_G_shortestWay 90 = .ok (.aload 7, 2) := by decide +kernel
theorem d_G_shortestWay_92 : decode b_G_shortestWay 92 = .ok (.getfield 311, 3) := by decide +kernel
theorem d_G_shortestWay_95 : decode b_G_shortestWay 95 = .ok (.invokevirtual 410, 3) := by decide +kernel
theorem d_G_shortestWay_98 : decode b_G_shortestWay 98 = .ok (.iinc 6 1, 3) := by decide +kernel
theorem d_G_shortestWay_101 : decode b_G_shortestWay 101 = .ok (.goto (-60), 3) := by decide +kernel
theorem d_G_shortestWay_104 : decode b_G_shortestWay 104 = .ok (.iinc 3 1, 3) := by decide +kernel
theorem d_G_shortestWay_107 : decode b_G_shortestWay 107 = .ok (.goto (-86), 3) := by decide +kernel
theorem d_G_shortestWay_110 : decode b_G_shortestWay 110 = .ok (.aload_n 0, 1) := by decide +kernel
theorem d_G_shortestWay_111 : decode b_G_shortestWay 111 = .ok (.getfield 47, 3) := by decide +kernel
theorem d_G_shortestWay_114 : decode b_G_shortestWay 114 = .ok (.iload_n 2, 1) := by decide +kernel
theorem d_G_shortestWay_115 : decode b_G_shortestWay 115 = .ok (.invokestatic 413, 3) := by decide +kernel
theorem d_G_shortestWay_118 : decode b_G_shortestWay 118 = .ok (.istore_n 3, 1) := by decide +kernel
theorem d_G_shortestWay_119 : decode b_G_shortestWay 119 = .ok (.iload_n 3, 1) := by decide +kernel
theorem d_G_shortestWay_120 : decode b_G_shortestWay 120 = .ok (.ldc_w 278, 3) := by decide +kernel
theorem d_G_shortestWay_123 : decode b_G_shortestWay 123 = .ok (.if_icmp .ne 7, 3) := by decide +kernel
theorem d_G_shortestWay_126 : decode b_G_shortestWay 126 = .ok (.iconst (-1), 1) := by decide +kernel
theorem d_G_shortestWay_127 : decode b_G_shortestWay 127 = .ok (.goto 4, 3) := by decide +kernel
theorem d_G_shortestWay_130 : decode b_G_shortestWay 130 = .ok (.iload_n 3, 1) := by decide +kernel
theorem d_G_shortestWay_131 : decode b_G_shortestWay 131 = .ok (.ireturn, 1) := by decide +kernel
theorem d_G_lowerWay_0 : decode b_G_lowerWay 0 = .ok (.aload_n 0, 1) := by decide +kernel
theorem d_G_lowerWay_1 : decode b_G_lowerWay 1 = .ok (.getfield 47, 3) := by decide +kernel
theorem d_G_lowerWay_4 : decode b_G_lowerWay 4 = .ok (.iload_n 1, 1) := by decide +kernel
theorem d_G_lowerWay_5 : decode b_G_lowerWay 5 = .ok (.invokestatic 413, 3) := by decide +kernel
theorem d_G_lowerWay_8 : decode b_G_lowerWay 8 = .ok (.istore 4, 2) := by decide +kernel
theorem d_G_lowerWay_10 : decode b_G_lowerWay 10 = .ok (.iload 4, 2) := by decide +kernel
theorem d_G_lowerWay_12 : decode b_G_lowerWay 12 = .ok (.ldc_w 278, 3) := by decide +kernel
theorem d_G_lowerWay_15 : decode b_G_lowerWay 15 = .ok (.if_icmp .eq 15, 3) := by decide +kernel
theorem d_G_lowerWay_18 : decode b_G_lowerWay 18 = .ok (.aload_n 0, 1) := by decide +kernel
theorem d_G_lowerWay_19 : decode b_G_lowerWay 19 = .ok (.getfield 47, 3) := by decide +kernel
theorem d_G_lowerWay_22 : decode b_G_lowerWay 22 = .ok (.iload_n 2, 1) := by decide +kernel
theorem d_G_lowerWay_23 : decode b_G_lowerWay 23 = .ok (.iload 4, 2) := by decide +kernel
theorem d_G_lowerWay_25 : decode b_G_lowerWay 25 = .ok (.iload_n 3, 1) := by decide +kernel
theorem d_G_lowerWay_26 : decode b_G_lowerWay 26 = .ok (.iadd, 1) := by decide +kernel
theorem d_G_lowerWay_27 : decode b_G_lowerWay 27 = .ok (.invokestatic 400, 3) := by decide +kernel
theorem d_G_lowerWay_30 : decode b_G_lowerWay 30 = .ok (.return_, 1) := by decide +kernel
theorem d_G_firstSlippery_0 : decode b_G_firstSlippery 0 = .ok (.aload_n 0, 1) := by decide +kernel
theorem d_G_firstSlippery_1 : decode b_G_firstSlippery 1 = .ok (.getfield 43, 3) := by decide +kernel
theorem d_G_firstSlippery_4 : decode b_G_firstSlippery 4 = .ok (.aload_n 1, 1) := by decide +kernel
theorem d_G_firstSlippery_5 : decode b_G_firstSlippery 5 = .ok (.getfield 245, 3) := by decide +kernel
theorem d_G_firstSlippery_8 : decode b_G_firstSlippery 8 = .ok (.invokevirtual 417, 3) := by decide +kernel
theorem d_G_firstSlippery_11 : decode b_G_firstSlippery 11 = .ok (.aload_n 0, 1) := by decide +kernel
theorem d_G_firstSlippery_12 : decode b_G_firstSlippery 12 = .ok (.getfield 43, 3) := by decide +kernel
theorem d_G_firstSlippery_15 : decode b_G_firstSlippery 15 = .ok (.dup, 1) := by decide +kernel
theorem d_G_firstSlippery_16 : decode b_G_firstSlippery 16 = .ok (.getfield 324, 3) := by decide +kernel
theorem d_G_firstSlippery_19 : decode b_G_firstSlippery 19 = .ok (.iload_n 2, 1) := by decide +kernel
theorem d_G_firstSlippery_20 : decode b_G_firstSlippery 20 = .ok (.iadd, 1) := by decide +kernel
theorem d_G_firstSlippery_21 : decode b_G_firstSlippery 21 = .ok (.putfield 324, 3) := by decide +kernel
theorem d_G_firstSlippery_24 : decode b_G_firstSlippery 24 = .ok (.iconst 1, 1) := by decide +kernel
theorem d_G_firstSlippery_25 : decode b_G_firstSlippery 25 = .ok (.istore 4, 2) := by decide +kernel
theorem d_G_firstSlippery_27 : decode b_G_firstSlippery 27 = .ok (.iload 4, 2) := by decide +kernel
theorem d_G_firstSlippery_29 : decode b_G_firstSlippery 29 = .ok (.iload_n 3, 1) := by decide +kernel
theorem d_G_firstSlippery_30 : decode b_G_firstSlippery 30 = .ok (.if_icmp .gt 34, 3) := by decide +kernel
theorem d_G_firstSlippery_33 : decode b_G_firstSlippery 33 = .ok (.aload_n 1, 1) := by decide +kernel
theorem d_G_firstSlippery_34 : decode b_G_firstSlippery 34 = .ok (.aload_n 0, 1) := by decide +kernel
theorem d_G_firstSlippery_35 : decode b_G_firstSlippery 35 = .ok (.getfield 43, 3) := by decide +kernel
theorem d_G_firstSlippery_38 : decode b_G_firstSlippery 38 = .ok (.aload_n 0, 1) := by decide +kernel
theorem d_G_firstSlippery_39 : decode b_G_firstSlippery 39 = .ok (.getfield 36, 3) := by decide +kernel
theorem d_G_firstSlippery_42 : decode b_G_firstSlippery 42 = .ok (.invokevirtual 279, 3) := by decide +kernel
theorem d_G_firstSlippery_45 : decode b_G_firstSlippery 45 = .ok (.aload_n 0, 1) := by decide +kernel
theorem d_G_firstSlippery_46 : decode b_G_firstSlippery 46 = .ok (.getfield 43, 3) := by decide +kernel
theorem d_G_firstSlippery_49 : decode b_G_firstSlippery 49 = .ok (.invokevirtual 421, 3) := by decide +kernel
theorem d_G_firstSlippery_52 : decode b_G_firstSlippery 52 = .ok (.ifCond .eq 6, 3) := by decide +kernel
theorem d_G_firstSlippery_55 : decode b_G_firstSlippery 55 = .ok (.iload 4, 2) := by decide +kernel
theorem d_G_firstSlippery_57 : decode b_G_firstSlippery 57 = .ok (.ireturn, 1) := by decide +kernel
theorem d_G_firstSlippery_58 : decode b_G_firstSlippery 58 = .ok (.iinc 4 1, 3) := by decide +kernel
theorem d_G_firstSlippery_61 : decode b_G_firstSlippery 61 = .ok (.goto (-34), 3) := by decide +kernel
theorem d_G_firstSlippery_64 : decode b_G_firstSlippery 64 = .ok (.iconst (-1), 1) := by decide +kernel
theorem d_G_firstSlippery_65 : decode b_G_firstSlippery 65 = .ok (.ireturn, 1) := by decide +kernel
theorem d_G_leastSalt_0 : decode b_G_leastSalt 0 = .ok (.iconst 0, 1) := by decide +kernel
theorem d_G_leastSalt_1 : decode b_G_leastSalt 1 = .ok (.istore_n 3, 1) := by decide +kernel
theorem d_G_leastSalt_2 : decode b_G_leastSalt 2 = .ok (.iload_n 3, 1) := by decide +kernel
theorem d_G_leastSalt_3 : decode b_G_leastSalt 3 = .ok (.bipush 60, 2) := by decide +kernel
theorem d_G_leastSalt_5 : decode b_G_leastSalt 5 = .ok (.if_icmp .gt 22, 3) := by decide +kernel
theorem d_G_leastSalt_8 : decode b_G_leastSalt 8 = .ok (.aload_n 0, 1) := by decide +kernel
theorem d_G_leastSalt_9 : decode b_G_leastSalt 9 = .ok (.aload_n 1, 1) := by decide +kernel
theorem d_G_leastSalt_10 : decode b_G_leastSalt 10 = .ok (.iload_n 3, 1) := by decide +kernel
theorem d_G_leastSalt_11 : decode b_G_leastSalt 11 = .ok (.iload_n 2, 1) := by decide +kernel
theorem d_G_leastSalt_12 : decode b_G_leastSalt 12 = .ok (.invokevirtual 253, 3) := by decide +kernel
theorem d_G_leastSalt_15 : decode b_G_leastSalt 15 = .ok (.iconst (-1), 1) := by decide +kernel
theorem d_G_leastSalt_16 : decode b_G_leastSalt 16 = .ok (.if_icmp .ne 5, 3) := by decide +kernel
theorem d_G_leastSalt_19 : decode b_G_leastSalt 19 = .ok (.iload_n 3, 1) := by decide +kernel
theorem d_G_leastSalt_20 : decode b_G_leastSalt 20 = .ok (.ireturn, 1) := by decide +kernel
theorem d_G_leastSalt_21 : decode b_G_leastSalt 21 = .ok (.iinc 3 1, 3) := by decide +kernel
theorem d_G_leastSalt_24 : decode b_G_leastSalt 24 = .ok (.goto (-22), 3) := by decide +kernel
theorem d_G_leastSalt_27 : decode b_G_leastSalt 27 = .ok (.iconst (-1), 1) := by decide +kernel
theorem d_G_leastSalt_28 : decode b_G_leastSalt 28 = .ok (.ireturn, 1) := by decide +kernel
theorem d_Told_init_0 : decode b_Told_init 0 = .ok (.aload_n 0, 1) := by decide +kernel
theorem d_Told_init_1 : decode b_Told_init 1 = .ok (.invokespecial 1, 3) := by decide +kernel
theorem d_Told_init_4 : decode b_Told_init 4 = .ok (.aload_n 0, 1) := by decide +kernel
theorem d_Told_init_5 : decode b_Told_init 5 = .ok (.new 7, 3) := by decide +kernel
theorem d_Told_init_8 : decode b_Told_init 8 = .ok (.dup, 1) := by decide +kernel
theorem d_Told_init_9 : decode b_Told_init 9 = .ok (.invokespecial 9, 3) := by decide +kernel
theorem d_Told_init_12 : decode b_Told_init 12 = .ok (.putfield 10, 3) := by decide +kernel
theorem d_Told_init_15 : decode b_Told_init 15 = .ok (.aload_n 0, 1) := by decide +kernel
theorem d_Told_init_16 : decode b_Told_init 16 = .ok (.bipush 8, 2) := by decide +kernel
theorem d_Told_init_18 : decode b_Told_init 18 = .ok (.bipush 15, 2) := by decide +kernel
theorem d_Told_init_20 : decode b_Told_init 20 = .ok (.multianewarray 16 2, 4) := by decide +kernel
theorem d_Told_init_24 : decode b_Told_init 24 = .ok (.putfield 18, 3) := by decide +kernel
theorem d_Told_init_27 : decode b_Told_init 27 = .ok (.aload_n 0, 1) := by decide +kernel
theorem d_Told_init_28 : decode b_Told_init 28 = .ok (.bipush 8, 2) := by decide +kernel
theorem d_Told_init_30 : decode b_Told_init 30 = .ok (.sipush 200, 3) := by decide +kernel
theorem d_Told_init_33 : decode b_Told_init 33 = .ok (.multianewarray 21 2, 4) := by decide +kernel
theorem d_Told_init_37 : decode b_Told_init 37 = .ok (.putfield 23, 3) := by decide +kernel
theorem d_Told_init_40 : decode b_Told_init 40 = .ok (.aload_n 0, 1) := by decide +kernel
theorem d_Told_init_41 : decode b_Told_init 41 = .ok (.bipush 8, 2) := by decide +kernel
theorem d_Told_init_43 : decode b_Told_init 43 = .ok (.sipush 200, 3) := by decide +kernel
theorem d_Told_init_46 : decode b_Told_init 46 = .ok (.multianewarray 21 2, 4) := by decide +kernel
theorem d_Told_init_50 : decode b_Told_init 50 = .ok (.putfield 26, 3) := by decide +kernel
theorem d_Told_init_53 : decode b_Told_init 53 = .ok (.aload_n 0, 1) := by decide +kernel
theorem d_Told_init_54 : decode b_Told_init 54 = .ok (.iconst 3, 1) := by decide +kernel
theorem d_Told_init_55 : decode b_Told_init 55 = .ok (.bipush 9, 2) := by decide +kernel
theorem d_Told_init_57 : decode b_Told_init 57 = .ok (.multianewarray 16 2, 4) := by decide +kernel
theorem d_Told_init_61 : decode b_Told_init 61 = .ok (.putfield 29, 3) := by decide +kernel
theorem d_Told_init_64 : decode b_Told_init 64 = .ok (.aload_n 0, 1) := by decide +kernel
theorem d_Told_init_65 : decode b_Told_init 65 = .ok (.iconst 3, 1) := by decide +kernel
theorem d_Told_init_66 : decode b_Told_init 66 = .ok (.bipush 8, 2) := by decide +kernel
theorem d_Told_init_68 : decode b_Told_init 68 = .ok (.multianewarray 16 2, 4) := by decide +kernel
theorem d_Told_init_72 : decode b_Told_init 72 = .ok (.putfield 32, 3) := by decide +kernel
theorem d_Told_init_75 : decode b_Told_init 75 = .ok (.aload_n 0, 1) := by decide +kernel
theorem d_Told_init_76 : decode b_Told_init 76 = .ok (.iconst 5, 1) := by decide +kernel
theorem d_Told_init_77 : decode b_Told_init 77 = .ok (.putfield 35, 3) := by decide +kernel
theorem d_Told_init_80 : decode b_Told_init 80 = .ok (.aload_n 0, 1) := by decide +kernel
theorem d_Told_init_81 : decode b_Told_init 81 = .ok (.bipush 100, 2) := by decide +kernel
theorem d_Told_init_83 : decode b_Told_init 83 = .ok (.putfield 39, 3) := by decide +kernel
theorem d_Told_init_86 : decode b_Told_init 86 = .ok (.aload_n 0, 1) := by decide +kernel
theorem d_Told_init_87 : decode b_Told_init 87 = .ok (.aload_n 1, 1) := by decide +kernel
theorem d_Told_init_88 : decode b_Told_init 88 = .ok (.putfield 42, 3) := by decide +kernel
theorem d_Told_init_91 : decode b_Told_init 91 = .ok (.aload_n 0, 1) := by decide +kernel
theorem d_Told_init_92 : decode b_Told_init 92 = .ok (.iload_n 2, 1) := by decide +kernel
theorem d_Told_init_93 : decode b_Told_init 93 = .ok (.putfield 46, 3) := by decide +kernel
theorem d_Told_init_96 : decode b_Told_init 96 = .ok (.return_, 1) := by decide +kernel
theorem d_Told_draw_0 : decode b_Told_draw 0 = .ok (.aload_n 0, 1) := by decide +kernel
theorem d_Told_draw_1 : decode b_Told_draw 1 = .ok (.getfield 42, 3) := by decide +kernel
theorem d_Told_draw_4 : decode b_Told_draw 4 = .ok (.aload_n 0, 1) := by decide +kernel
theorem d_Told_draw_5 : decode b_Told_draw 5 = .ok (.getfield 46, 3) := by decide +kernel
theorem d_Told_draw_8 : decode b_Told_draw 8 = .ok (.bipush 24, 2) := by decide +kernel
theorem d_Told_draw_10 : decode b_Told_draw 10 = .ok (.irem, 1) := by decide +kernel
theorem d_Told_draw_11 : decode b_Told_draw 11 = .ok (.invokestatic 49, 3) := by decide +kernel
theorem d_Told_draw_14 : decode b_Told_draw 14 = .ok (.aload_n 0, 1) := by decide +kernel
theorem d_Told_draw_15 : decode b_Told_draw 15 = .ok (.getfield 46, 3) := by decide +kernel
theorem d_Told_draw_18 : decode b_Told_draw 18 = .ok (.bipush 24, 2) := by decide +kernel
theorem d_Told_draw_20 : decode b_Told_draw 20 = .ok (.idiv, 1) := by decide +kernel
theorem d_Told_draw_21 : decode b_Told_draw 21 = .ok (.bipush 8, 2) := by decide +kernel
theorem d_Told_draw_23 : decode b_Told_draw 23 = .ok (.irem, 1) := by decide +kernel
theorem d_Told_draw_24 : decode b_Told_draw 24 = .ok (.ishr, 1) := by decide +kernel
theorem d_Told_draw_25 : decode b_Told_draw 25 = .ok (.sipush 307, 3) := by decide +kernel
theorem d_Told_draw_28 : decode b_Told_draw 28 = .ok (.aload_n 0, 1) := by decide +kernel
theorem d_Told_draw_29 : decode b_Told_draw 29 = .ok (.getfield 46, 3) := by decide +kernel
theorem d_Told_draw_32 : decode b_Told_draw 32 = .ok (.imul, 1) := by decide +kernel
theorem d_Told_draw_33 : decode b_Told_draw 33 = .ok (.iadd, 1) := by decide +kernel
theorem d_Told_draw_34 : decode b_Told_draw 34 = .ok (.iload_n 1, 1) := by decide +kernel
theorem d_Told_draw_35 : decode b_Told_draw 35 = .ok (.invokestatic 55, 3) := by decide +kernel
theorem d_Told_draw_38 : decode b_Told_draw 38 = .ok (.istore_n 2, 1) := by decide +kernel
theorem d_Told_draw_39 : decode b_Told_draw 39 = .ok (.aload_n 0, 1) := by decide +kernel
theorem d_Told_draw_40 : decode b_Told_draw 40 = .ok (.dup, 1) := by decide +kernel
theorem d_Told_draw_41 : decode b_Told_draw 41 = .ok (.getfield 46, 3) := by decide +kernel
theorem d_Told_draw_44 : decode b_Told_draw 44 = .ok (.iconst 1, 1) := by decide +kernel
theorem d_Told_draw_45 : decode b_Told_draw 45 = .ok (.iadd, 1) := by decide +kernel
theorem d_Told_draw_46 : decode b_Told_draw 46 = .ok (.putfield 46, 3) := by decide +kernel
theorem d_Told_draw_49 : decode b_Told_draw 49 = .ok (.iload_n 2, 1) := by decide +kernel
theorem d_Told_draw_50 : decode b_Told_draw 50 = .ok (.ireturn, 1) := by decide +kernel
theorem d_Told_road_0 : decode b_Told_road 0 = .ok (.bipush 15, 2) := by decide +kernel
theorem d_Told_road_2 : decode b_Told_road 2 = .ok (.newarray .int, 2) := by decide +kernel
theorem d_Told_road_4 : decode b_Told_road 4 = .ok (.dup, 1) := by decide +kernel
theorem d_Told_road_5 : decode b_Told_road 5 = .ok (.iconst 0, 1) := by decide +kernel
theorem d_Told_road_6 : decode b_Told_road 6 = .ok (.iload_n 1, 1) := by decide +kernel
theorem d_Told_road_7 : decode b_Told_road 7 = .ok (.iastore, 1) := by decide +kernel
theorem d_Told_road_8 : decode b_Told_road 8 = .ok (.dup, 1) := by decide +kernel
theorem d_Told_road_9 : decode b_Told_road 9 = .ok (.iconst 1, 1) := by decide +kernel
theorem d_Told_road_10 : decode b_Told_road 10 = .ok (.iload_n 2, 1) := by decide +kernel
theorem d_Told_road_11 : decode b_Told_road 11 = .ok (.iastore, 1) := by decide +kernel
theorem d_Told_road_12 : decode b_Told_road 12 = .ok (.dup, 1) := by decide +kernel
theorem d_Told_road_13 : decode b_Told_road 13 = .ok (.iconst 2, 1) := by decide +kernel
theorem d_Told_road_14 : decode b_Told_road 14 = .ok (.iload_n 3, 1) := by decide +kernel
theorem d_Told_road_15 : decode b_Told_road 15 = .ok (.iastore, 1) := by decide +kernel
theorem d_Told_road_16 : decode b_Told_road 16 = .ok (.dup, 1) := by decide +kernel
theorem d_Told_road_17 : decode b_Told_road 17 = .ok (.iconst 3, 1) := by decide +kernel
theorem d_Told_road_18 : decode b_Told_road 18 = .ok (.iload 4, 2) := by decide +kernel
theorem d_Told_road_20 : decode b_Told_road 20 = .ok (.iastore, 1) := by decide +kernel
theorem d_Told_road_21 : decode b_Told_road 21 = .ok (.dup, 1) := by decide +kernel
theorem d_Told_road_22 : decode b_Told_road 22 = .ok (.iconst 4, 1) := by decide +kernel
theorem d_Told_road_23 : decode b_Told_road 23 = .ok (.iload 5, 2) := by decide +kernel
theorem d_Told_road_25 : decode b_Told_road 25 = .ok (.iastore, 1) := by decide +kernel
theorem d_Told_road_26 : decode b_Told_road 26 = .ok (.dup, 1) := by decide +kernel
theorem d_Told_road_27 : decode b_Told_road 27 = .ok (.iconst 5, 1) := by decide +kernel
theorem d_Told_road_28 : decode b_Told_road 28 = .ok (.iload 6, 2) := by decide +kernel
theorem d_Told_road_30 : decode b_Told_road 30 = .ok (.iastore, 1) := by decide +kernel
theorem d_Told_road_31 : decode b_Told_road 31 = .ok (.dup, 1) := by decide +kernel
theorem d_Told_road_32 : decode b_Told_road 32 = .ok (.bipush 6, 2) := by decide +kernel
theorem d_Told_road_34 : decode b_Told_road 34 = .ok (.iload 7, 2) := by decide +kernel
theorem d_Told_road_36 : decode b_Told_road 36 = .ok (.ifCond .eq 7, 3) := by decide +kernel
theorem d_Told_road_39 : decode b_Told_road 39 = .ok (.iconst 1, 1) := by decide +kernel
theorem d_Told_road_40 : decode b_Told_road 40 = .ok (.goto 4, 3) := by decide +kernel
theorem d_Told_road_43 : decode b_Told_road 43 = .ok (.iconst 0, 1) := by decide +kernel
theorem d_Told_road_44 : decode b_Told_road 44 = .ok (.iastore, 1) := by decide +kernel
theorem d_Told_road_45 : decode b_Told_road 45 = .ok (.dup, 1) := by decide +kernel
theorem d_Told_road_46 : decode b_Told_road 46 = .ok (.bipush 7, 2) := by decide +kernel
theorem d_Told_road_48 : decode b_Told_road 48 = .ok (.iconst 3, 1) := by decide +kernel
theorem d_Told_road_49 : decode b_Told_road 49 = .ok (.iastore, 1) := by decide +kernel
theorem d_Told_road_50 : decode b_Told_road 50 = .ok (.dup, 1) := by decide +kernel
theorem d_Told_road_51 : decode b_Told_road 51 = .ok (.bipush 8, 2) := by decide +kernel
theorem d_Told_road_53 : decode b_Told_road 53 = .ok (.iconst 0, 1) := by decide +kernel
theorem d_Told_road_54 : decode b_Told_road 54 = .ok (.iastore, 1) := by decide +kernel
theorem d_Told_road_55 : decode b_Told_road 55 = .ok (.dup, 1) := by decide +kernel
theorem d_Told_road_56 : decode b_Told_road 56 = .ok (.bipush 9, 2) := by decide +kernel
theorem d_Told_road_58 : decode b_Told_road 58 = .ok (.iconst 0, 1) := by decide +kernel
theorem d_Told_road_59 : decode b_Told_road 59 = .ok (.iastore, 1) := by decide +kernel
theorem d_Told_road_60 : decode b_Told_road 60 = .ok (.dup, 1) := by decide +kernel
theorem d_Told_road_61 : decode b_Told_road 61 = .ok (.bipush 10, 2) := by decide +kernel
theorem d_Told_road_63 : decode b_Told_road 63 = .ok (.iconst 0, 1) := by decide +kernel
theorem d_Told_road_64 : decode b_Told_road 64 = .ok (.iastore, 1) := by decide +kernel
theorem d_Told_road_65 : decode b_Told_road 65 = .ok (.dup, 1) := by decide +kernel
theorem d_Told_road_66 : decode b_Told_road 66 = .ok (.bipush 11, 2) := by decide +kernel
theorem d_Told_road_68 : decode b_Told_road 68 = .ok (.iconst 0, 1) := by decide +kernel
theorem d_Told_road_69 : decode b_Told_road 69 = .ok (.iastore, 1) := by decide +kernel
theorem d_Told_road_70 : decode b_Told_road 70 = .ok (.dup, 1) := by decide +kernel
theorem d_Told_road_71 : decode b_Told_road 71 = .ok (.bipush 12, 2) := by decide +kernel
theorem d_Told_road_73 : decode b_Told_road 73 = .ok (.iconst 0, 1) := by decide +kernel
theorem d_Told_road_74 : decode b_Told_road 74 = .ok (.iastore, 1) := by decide +kernel
theorem d_Told_road_75 : decode b_Told_road 75 = .ok (.dup, 1) := by decide +kernel
theorem d_Told_road_76 : decode b_Told_road 76 = .ok (.bipush 13, 2) := by decide +kernel
theorem d_Told_road_78 : decode b_Told_road 78 = .ok (.iconst 0, 1) := by decide +kernel
theorem d_Told_road_79 : decode b_Told_road 79 = .ok (.iastore, 1) := by decide +kernel
theorem d_Told_road_80 : decode b_Told_road 80 = .ok (.dup, 1) := by decide +kernel
theorem d_Told_road_81 : decode b_Told_road 81 = .ok (.bipush 14, 2) := by decide +kernel
theorem d_Told_road_83 : decode b_Told_road 83 = .ok (.iconst (-1), 1) := by decide +kernel
theorem d_Told_road_84 : decode b_Told_road 84 = .ok (.iastore, 1) := by decide +kernel
theorem d_Told_road_85 : decode b_Told_road 85 = .ok (.astore 8, 2) := by decide +kernel
theorem d_Told_road_87 : decode b_Told_road 87 = .ok (.aload_n 0, 1) := by decide +kernel
theorem d_Told_road_88 : decode b_Told_road 88 = .ok (.getfield 18, 3) := by decide +kernel
theorem d_Told_road_91 : decode b_Told_road 91 = .ok (.aload_n 0, 1) := by decide +kernel
theorem d_Told_road_92 : decode b_Told_road 92 = .ok (.dup, 1) := by decide +kernel
theorem d_Told_road_93 : decode b_Told_road 93 = .ok (.getfield 59, 3) := by decide +kernel
theorem d_Told_road_96 : decode b_Told_road 96 = .ok (.dup_x1, 1) := by decide +kernel
theorem d_Told_road_97 : decode b_Told_road 97 = .ok (.iconst 1, 1) := by decide +kernel
theorem d_Told_road_98 : decode b_Told_road 98 = .ok (.iadd, 1) := by decide +kernel
theorem d_Told_road_99 : decode b_Told_road 99 = .ok (.putfield 59, 3) := by decide +kernel
theorem d_Told_road_102 : decode b_Told_road 102 = .ok (.aload 8, 2) := by decide +kernel
theorem d_Told_road_104 : decode b_Told_road 104 = .ok (.aastore, 1) := by decide +kernel
theorem d_Told_road_105 : decode b_Told_road 105 = .ok (.aload_n 0, 1) := by decide +kernel
theorem d_Told_road_106 : decode b_Told_road 106 = .ok (.getfield 10, 3) := by decide +kernel
theorem d_Told_road_109 : decode b_Told_road 109 = .ok (.iload_n 1, 1) := by decide +kernel
theorem d_Told_road_110 : decode b_Told_road 110 = .ok (.iload_n 2, 1) := by decide +kernel
theorem d_Told_road_111 : decode b_Told_road 111 = .ok (.iload_n 3, 1) := by decide +kernel
theorem d_Told_road_112 : decode b_Told_road 112 = .ok (.iload 4, 2) := by decide +kernel
theorem d_Told_road_114 : decode b_Told_road 114 = .ok (.iload 5, 2) := by decide +kernel
theorem d_Told_road_116 : decode b_Told_road 116 = .ok (.iload 6, 2) := by decide +kernel
theorem d_Told_road_118 : decode b_Told_road 118 = .ok (.iload 7, 2) := by decide +kernel
theorem d_Told_road_120 : decode b_Told_road 120 = .ok (.invokevirtual 62, 3) := by decide +kernel
theorem d_Told_road_123 : decode b_Told_road 123 = .ok (.aload_n 0, 1) := by decide +kernel
theorem d_Told_road_124 : decode b_Told_road 124 = .ok (.getfield 59, 3) := by decide +kernel
theorem d_Told_road_127 : decode b_Told_road 127 = .ok (.iconst 1, 1) := by decide +kernel
theorem d_Told_road_128 : decode b_Told_road 128 = .ok (.isub, 1) := by decide +kernel
theorem d_Told_road_129 : decode b_Told_road 129 = .ok (.if_icmp .ne 7, 3) := by decide +kernel
theorem d_Told_road_132 : decode b_Told_road 132 = .ok (.iconst 1, 1) := by decide +kernel
theorem d_Told_road_133 : decode b_Told_road 133 = .ok (.goto 4, 3) := by decide +kernel
theorem d_Told_road_136 : decode b_Told_road 136 = .ok (.iconst 0, 1) := by decide +kernel
theorem d_Told_road_137 : decode b_Told_road 137 = .ok (.ireturn, 1) := by decide +kernel
theorem d_Told_lorry_0 : decode b_Told_lorry 0 = .ok (.bipush 9, 2) := by decide +kernel
theorem d_Told_lorry_2 : decode b_Told_lorry 2 = .ok (.newarray .int, 2) := by decide +kernel
theorem d_Told_lorry_4 : decode b_Told_lorry 4 = .ok (.dup, 1) := by decide +kernel
theorem d_Told_lorry_5 : decode b_Told_lorry 5 = .ok (.iconst 0, 1) := by decide +kernel
theorem d_Told_lorry_6 : decode b_Told_lorry 6 = .ok (.iconst 0, 1) := by decide +kernel
theorem d_Told_lorry_7 : decode b_Told_lorry 7 = .ok (.iastore, 1) := by decide +kernel
theorem d_Told_lorry_8 : decode b_Told_lorry 8 = .ok (.dup, 1) := by decide +kernel
theorem d_Told_lorry_9 : decode b_Told_lorry 9 = .ok (.iconst 1, 1) := by decide +kernel
theorem d_Told_lorry_10 : decode b_Told_lorry 10 = .ok (.iconst (-1), 1) := by decide +kernel
theorem d_Told_lorry_11 : decode b_Told_lorry 11 = .ok (.iastore, 1) := by decide +kernel
theorem d_Told_lorry_12 : decode b_Told_lorry 12 = .ok (.dup, 1) := by decide +kernel
theorem d_Told_lorry_13 : decode b_Told_lorry 13 = .ok (.iconst 2, 1) := by decide +kernel
theorem d_Told_lorry_14 : decode b_Told_lorry 14 = .ok (.iconst 0, 1) := by decide +kernel
theorem d_Told_lorry_15 : decode b_Told_lorry 15 = .ok (.iastore, 1) := by decide +kernel
theorem d_Told_lorry_16 : decode b_Told_lorry 16 = .ok (.dup, 1) := by decide +kernel
theorem d_Told_lorry_17 : decode b_Told_lorry 17 = .ok (.iconst 3, 1) := by decide +kernel
theorem d_Told_lorry_18 : decode b_Told_lorry 18 = .ok (.iconst 0, 1) := by decide +kernel
theorem d_Told_lorry_19 : decode b_Told_lorry 19 = .ok (.iastore, 1) := by decide +kernel
theorem d_Told_lorry_20 : decode b_Told_lorry 20 = .ok (.dup, 1) := by decide +kernel
theorem d_Told_lorry_21 : decode b_Told_lorry 21 = .ok (.iconst 4, 1) := by decide +kernel
theorem d_Told_lorry_22 : decode b_Told_lorry 22 = .ok (.iconst 2, 1) := by decide +kernel
theorem d_Told_lorry_23 : decode b_Told_lorry 23 = .ok (.iastore, 1) := by decide +kernel
theorem d_Told_lorry_24 : decode b_Told_lorry 24 = .ok (.dup, 1) := by decide +kernel
theorem d_Told_lorry_25 : decode b_Told_lorry 25 = .ok (.iconst 5, 1) := by decide +kernel
theorem d_Told_lorry_26 : decode b_Told_lorry 26 = .ok (.iload_n 1, 1) := by decide +kernel
theorem d_Told_lorry_27 : decode b_Told_lorry 27 = .ok (.ifCond .eq 7, 3) := by decide +kernel
theorem d_Told_lorry_30 : decode b_Told_lorry 30 = .ok (.iconst 1, 1) := by decide +kernel
theorem d_Told_lorry_31 : decode b_Told_lorry 31 = .ok (.goto 4, 3) := by decide +kernel
theorem d_Told_lorry_34 : decode b_Told_lorry 34 = .ok (.iconst 0, 1) := by decide +kernel
theorem d_Told_lorry_35 : decode b_Told_lorry 35 = .ok (.iastore, 1) := by decide +kernel
theorem d_Told_lorry_36 : decode b_Told_lorry 36 = .ok (.dup, 1) := by decide +kernel
theorem d_Told_lorry_37 : decode b_Told_lorry 37 = .ok (.bipush 6, 2) := by decide +kernel
theorem d_Told_lorry_39 : decode b_Told_lorry 39 = .ok (.iconst 0, 1) := by decide +kernel
theorem d_Told_lorry_40 : decode b_Told_lorry 40 = .ok (.iastore, 1) := by decide +kernel
theorem d_Told_lorry_41 : decode b_Told_lorry 41 = .ok (.dup, 1) := by decide +kernel
theorem d_Told_lorry_42 : decode b_Told_lorry 42 = .ok (.bipush 7, 2) := by decide +kernel
theorem d_Told_lorry_44 : decode b_Told_lorry 44 = .ok (.iconst 0, 1) := by decide +kernel
theorem d_Told_lorry_45 : decode b_Told_lorry 45 = .ok (.iastore, 1) := by decide +kernel
theorem d_Told_lorry_46 : decode b_Told_lorry 46 = .ok (.dup, 1) := by decide +kernel
theorem d_Told_lorry_47 : decode b_Told_lorry 47 = .ok (.bipush 8, 2) := by decide +kernel
theorem d_Told_lorry_49 : decode b_Told_lorry 49 = .ok (.iconst 0, 1) := by decide +kernel
theorem d_Told_lorry_50 : decode b_Told_lorry 50 = .ok (.iastore, 1) := by decide +kernel
theorem d_Told_lorry_51 : decode b_Told_lorry 51 = .ok (.astore_n 2, 1) := by decide +kernel
theorem d_Told_lorry_52 : decode b_Told_lorry 52 = .ok (.aload_n 0, 1) := by decide +kernel
theorem d_Told_lorry_53 : decode b_Told_lorry 53 = .ok (.getfield 29, 3) := by decide +kernel
theorem d_Told_lorry_56 : decode b_Told_lorry 56 = .ok (.aload_n 0, 1) := by decide +kernel
theorem d_Told_lorry_57 : decode b_Told_lorry 57 = .ok (.dup, 1) := by decide +kernel
theorem d_Told_lorry_58 : decode b_Told_lorry 58 = .ok (.getfield 66, 3) := by decide +kernel
theorem d_Told_lorry_61 : decode b_Told_lorry 61 = .ok (.dup_x1, 1) := by decide +kernel
theorem d_Told_lorry_62 : decode b_Told_lorry 62 = .ok (.iconst 1, 1) := by decide +kernel
theorem d_Told_lorry_63 : decode b_Told_lorry 63 = .ok (.iadd, 1) := by decide +kernel
theorem d_Told_lorry_64 : decode b_Told_lorry 64 = .ok (.putfield 66, 3) := by decide +kernel
theorem d_Told_lorry_67 : decode b_Told_lorry 67 = .ok (.aload_n 2, 1) := by decide +kernel
theorem d_Told_lorry_68 : decode b_Told_lorry 68 = .ok (.aastore, 1) := by decide +kernel
theorem d_Told_lorry_69 : decode b_Told_lorry 69 = .ok (.aload_n 0, 1) := by decide +kernel
theorem d_Told_lorry_70 : decode b_Told_lorry 70 = .ok (.getfield 10, 3) := by decide +kernel
theorem d_Told_lorry_73 : decode b_Told_lorry 73 = .ok (.iload_n 1, 1) := by decide +kernel
theorem d_Told_lorry_74 : decode b_Told_lorry 74 = .ok (.invokevirtual 69, 3) := by decide +kernel
theorem d_Told_lorry_77 : decode b_Told_lorry 77 = .ok (.aload_n 0, 1) := by decide +kernel
theorem d_Told_lorry_78 : decode b_Told_lorry 78 = .ok (.getfield 66, 3) := by decide +kernel
theorem d_Told_lorry_81 : decode b_Told_lorry 81 = .ok (.iconst 1, 1) := by decide +kernel
theorem d_Told_lorry_82 : decode b_Told_lorry 82 = .ok (.isub, 1) := by decide +kernel
theorem d_Told_lorry_83 : decode b_Told_lorry 83 = .ok (.if_icmp .ne 7, 3) := by decide +kernel
theorem d_Told_lorry_86 : decode b_Told_lorry 86 = .ok (.iconst 1, 1) := by decide +kernel
theorem d_Told_lorry_87 : decode b_Told_lorry 87 = .ok (.goto 4, 3) := by decide +kernel
theorem d_Told_lorry_90 : decode b_Told_lorry 90 = .ok (.iconst 0, 1) := by decide +kernel
theorem d_Told_lorry_91 : decode b_Told_lorry 91 = .ok (.ireturn, 1) := by decide +kernel
theorem d_Told_sky_0 : decode b_Told_sky 0 = .ok (.aload_n 0, 1) := by decide +kernel
theorem d_Told_sky_1 : decode b_Told_sky 1 = .ok (.getfield 10, 3) := by decide +kernel
theorem d_Told_sky_4 : decode b_Told_sky 4 = .ok (.iload_n 1, 1) := by decide +kernel
theorem d_Told_sky_5 : decode b_Told_sky 5 = .ok (.iload_n 2, 1) := by decide +kernel
theorem d_Told_sky_6 : decode b_Told_sky 6 = .ok (.iconst 1, 1) := by decide +kernel
theorem d_Told_sky_7 : decode b_Told_sky 7 = .ok (.if_icmp .ne 7, 3) := by decide +kernel
theorem d_Told_sky_10 : decode b_Told_sky 10 = .ok (.iconst 1, 1) := by decide +kernel
theorem d_Told_sky_11 : decode b_Told_sky 11 = .ok (.goto 4, 3) := by decide +kernel
theorem d_Told_sky_14 : decode b_Told_sky 14 = .ok (.iconst 0, 1) := by decide +kernel
theorem d_Told_sky_15 : decode b_Told_sky 15 = .ok (.invokevirtual 73, 3) := by decide +kernel
theorem d_Told_sky_18 : decode b_Told_sky 18 = .ok (.aload_n 0, 1) := by decide +kernel
theorem d_Told_sky_19 : decode b_Told_sky 19 = .ok (.getfield 35, 3) := by decide +kernel
theorem d_Told_sky_22 : decode b_Told_sky 22 = .ok (.if_icmp .ne 26, 3) := by decide +kernel
theorem d_Told_sky_25 : decode b_Told_sky 25 = .ok (.aload_n 0, 1) := by decide +kernel
theorem d_Told_sky_26 : decode b_Told_sky 26 = .ok (.getfield 10, 3) := by decide +kernel
theorem d_Told_sky_29 : decode b_Told_sky 29 = .ok (.iload_n 3, 1) := by decide +kernel
theorem d_Told_sky_30 : decode b_Told_sky 30 = .ok (.iload 4, 2) := by decide +kernel
theorem d_Told_sky_32 : decode b_Told_sky 32 = .ok (.iload 5, 2) := by decide +kernel
theorem d_Told_sky_34 : decode b_Told_sky 34 = .ok (.invokevirtual 76, 3) := by decide +kernel
theorem d_Told_sky_37 : decode b_Told_sky 37 = .ok (.aload_n 0, 1) := by decide +kernel
theorem d_Told_sky_38 : decode b_Told_sky 38 = .ok (.getfield 80, 3) := by decide +kernel
theorem d_Told_sky_41 : decode b_Told_sky 41 = .ok (.if_icmp .ne 7, 3) := by decide +kernel
theorem d_Told_sky_44 : decode b_Told_sky 44 = .ok (.iconst 1, 1) := by decide +kernel
theorem d_Told_sky_45 : decode b_Told_sky 45 = .ok (.goto 4, 3) := by decide +kernel
theorem d_Told_sky_48 : decode b_Told_sky 48 = .ok (.iconst 0, 1) := by decide +kernel
theorem d_Told_sky_49 : decode b_Told_sky 49 = .ok (.istore 6, 2) := by decide +kernel
theorem d_Told_sky_51 : decode b_Told_sky 51 = .ok (.aload_n 0, 1) := by decide +kernel
theorem d_Told_sky_52 : decode b_Told_sky 52 = .ok (.iload_n 1, 1) := by decide +kernel
theorem d_Told_sky_53 : decode b_Told_sky 53 = .ok (.putfield 35, 3) := by decide +kernel
theorem d_Told_sky_56 : decode b_Told_sky 56 = .ok (.aload_n 0, 1) := by decide +kernel
theorem d_Told_sky_57 : decode b_Told_sky 57 = .ok (.iload_n 2, 1) := by decide +kernel
theorem d_Told_sky_58 : decode b_Told_sky 58 = .ok (.putfield 83, 3) := by decide +kernel
theorem d_Told_sky_61 : decode b_Told_sky 61 = .ok (.aload_n 0, 1) := by decide +kernel
theorem d_Told_sky_62 : decode b_Told_sky 62 = .ok (.iload_n 3, 1) := by decide +kernel
theorem d_Told_sky_63 : decode b_Told_sky 63 = .ok (.putfield 86, 3) := by decide +kernel
theorem d_Told_sky_66 : decode b_Told_sky 66 = .ok (.aload_n 0, 1) := by decide +kernel
theorem d_Told_sky_67 : decode b_Told_sky 67 = .ok (.iload 4, 2) := by decide +kernel
theorem d_Told_sky_69 : decode b_Told_sky 69 = .ok (.putfield 89, 3) := by decide +kernel
theorem d_Told_sky_72 : decode b_Told_sky 72 = .ok (.aload_n 0, 1) := by decide +kernel
theorem d_Told_sky_73 : decode b_Told_sky 73 = .ok (.iload 5, 2) := by decide +kernel
theorem d_Told_sky_75 : decode b_Told_sky 75 = .ok (.putfield 80, 3) := by decide +kernel
theorem d_Told_sky_78 : decode b_Told_sky 78 = .ok (.iload 6, 2) := by decide +kernel
theorem d_Told_sky_80 : decode b_Told_sky 80 = .ok (.ireturn, 1) := by decide +kernel
theorem d_Told_found_0 : decode b_Told_found 0 = .ok (.iconst 0, 1) := by decide +kernel
theorem d_Told_found_1 : decode b_Told_found 1 = .ok (.istore_n 2, 1) := by decide +kernel
theorem d_Told_found_2 : decode b_Told_found 2 = .ok (.iload_n 2, 1) := by decide +kernel
theorem d_Told_found_3 : decode b_Told_found 3 = .ok (.iload_n 1, 1) := by decide +kernel
theorem d_Told_found_4 : decode b_Told_found 4 = .ok (.if_icmp .ge 81, 3) := by decide +kernel
theorem d_Told_found_7 : decode b_Told_found 7 = .ok (.aload_n 0, 1) := by decide +kernel
theorem d_Told_found_8 : decode b_Told_found 8 = .ok (.iload_n 2, 1) := by decide +kernel
theorem d_Told_found_9 : decode b_Told_found 9 = .ok (.iconst 2, 1) := by decide +kernel
theorem d_Told_found_10 : decode b_Told_found 10 = .ok (.if_icmp .ge 7, 3) := by decide +kernel
theorem d_Told_found_13 : decode b_Told_found 13 = .ok (.iconst 1, 1) := by decide +kernel
theorem d_Told_found_14 : decode b_Told_found 14 = .ok (.goto 4, 3) := by decide +kernel
theorem d_Told_found_17 : decode b_Told_found 17 = .ok (.iconst 5, 1) := by decide +kernel
theorem d_Told_found_18 : decode b_Told_found 18 = .ok (.invokevirtual 141, 3) := by decide +kernel
theorem d_Told_found_21 : decode b_Told_found 21 = .ok (.istore_n 3, 1) := by decide +kernel
theorem d_Told_found_22 : decode b_Told_found 22 = .ok (.aload_n 0, 1) := by decide +kernel
theorem d_Told_found_23 : decode b_Told_found 23 = .ok (.iload_n 3, 1) := by decide +kernel
theorem d_Told_found_24 : decode b_Told_found 24 = .ok (.iload_n 3, 1) := by decide +kernel
theorem d_Told_found_25 : decode b_Told_found 25 = .ok (.iconst 1, 1) := by decide +kernel
theorem d_Told_found_26 : decode b_Told_found 26 = .ok (.iadd, 1) := by decide +kernel
theorem d_Told_found_27 : decode b_Told_found 27 = .ok (.aload_n 0, 1) := by decide +kernel
theorem d_Told_found_28 : decode b_Told_found 28 = .ok (.iconst 4, 1) := by decide +kernel
theorem d_Told_found_29 : decode b_Told_found 29 = .ok (.invokevirtual 141, 3) := by decide +kernel
theorem d_Told_found_32 : decode b_Told_found 32 = .ok (.iadd, 1) := by decide +kernel
theorem d_Told_found_33 : decode b_Told_found 33 = .ok (.iconst 5, 1) := by decide +kernel
theorem d_Told_found_34 : decode b_Told_found 34 = .ok (.irem, 1) := by decide +kernel
theorem d_Told_found_35 : decode b_Told_found 35 = .ok (.iconst 1, 1) := by decide +kernel
theorem d_Told_found_36 : decode b_Told_found 36 = .ok (.aload_n 0, 1) := by decide +kernel
theorem d_Told_found_37 : decode b_Told_found 37 = .ok (.iconst 4, 1) := by decide +kernel
theorem d_Told_found_38 : decode b_Told_found 38 = .ok (.invokevirtual 141, 3) := by decide +kernel
theorem d_Told_found_41 : decode b_Told_found 41 = .ok (.iadd, 1) := by decide +kernel
theorem d_Told_found_42 : decode b_Told_found 42 = .ok (.aload_n 0, 1) := by decide +kernel
theorem d_Told_found_43 : decode b_Told_found 43 = .ok (.iconst 3, 1) := by decide +kernel
theorem d_Told_found_44 : decode b_Told_found 44 = .ok (.invokevirtual 141, 3) := by decide +kernel
theorem d_Told_found_47 : decode b_Told_found 47 = .ok (.aload_n 0, 1) := by decide +kernel
theorem d_Told_found_48 : decode b_Told_found 48 = .ok (.bipush 10, 2) := by decide +kernel
theorem d_Told_found_50 : decode b_Told_found 50 = .ok (.invokevirtual 141, 3) := by decide +kernel
theorem d_Told_found_53 : decode b_Told_found 53 = .ok (.aload_n 0, 1) := by decide +kernel
theorem d_Told_found_54 : decode b_Told_found 54 = .ok (.iconst 3, 1) := by decide +kernel
theorem d_Told_found_55 : decode b_Told_found 55 = .ok (.invokevirtual 141, 3) := by decide +kernel
theorem d_Told_found_58 : decode b_Told_found 58 = .ok (.aload_n 0, 1) := by decide +kernel
theorem d_Told_found_59 : decode b_Told_found 59 = .ok (.iconst 3, 1) := by decide +kernel
theorem d_Told_found_60 : decode b_Told_found 60 = .ok (.invokevirtual 141, 3) := by decide +kernel
theorem d_Told_found_63 : decode b_Told_found 63 = .ok (.ifCond .ne 7, 3) := by decide +kernel
theorem d_Told_found_66 : decode b_Told_found 66 = .ok (.iconst 1, 1) := by decide +kernel
theorem d_Told_found_67 : decode b_Told_found 67 = .ok (.goto 4, 3) := by decide +kernel
theorem d_Told_found_70 : decode b_Told_found 70 = .ok (.iconst 0, 1) := by decide +kernel
theorem d_Told_found_71 : decode b_Told_found 71 = .ok (.invokevirtual 144, 3) := by decide +kernel
theorem d_Told_found_74 : decode b_Told_found 74 = .ok (.ifCond .ne 5, 3) := by decide +kernel
theorem d_Told_found_77 : decode b_Told_found 77 = .ok (.iconst 0, 1) := by decide +kernel
theorem d_Told_found_78 : decode b_Told_found 78 = .ok (.ireturn, 1) := by decide +kernel
theorem d_Told_found_79 : decode b_Told_found 79 = .ok (.iinc 2 1, 3) := by decide +kernel
theorem d_Told_found_82 : decode b_Told_found 82 = .ok (.goto (-80), 3) := by decide +kernel
theorem d_Told_found_85 : decode b_Told_found 85 = .ok (.iconst 1, 1) := by decide +kernel
theorem d_Told_found_86 : decode b_Told_found 86 = .ok (.ireturn, 1) := by decide +kernel
theorem d_Math_max_7cf53_0 : decode b_Math_max_7cf53 0 = .ok (.iload_n 0, 1) := by decide +kernel
theorem d_Math_max_7cf53_1 : decode b_Math_max_7cf53 1 = .ok (.iload_n 1, 1) := by decide +kernel
theorem d_Math_max_7cf53_2 : decode b_Math_max_7cf53 2 = .ok (.if_icmp .lt 7, 3) := by decide +kernel
theorem d_Math_max_7cf53_5 : decode b_Math_max_7cf53 5 = .ok (.iload_n 0, 1) := by decide +kernel
theorem d_Math_max_7cf53_6 : decode b_Math_max_7cf53 6 = .ok (.goto 4, 3) := by decide +kernel
theorem d_Math_max_7cf53_9 : decode b_Math_max_7cf53 9 = .ok (.iload_n 1, 1) := by decide +kernel
theorem d_Math_max_7cf53_10 : decode b_Math_max_7cf53 10 = .ok (.ireturn, 1) := by decide +kernel
theorem d_Math_min_7cf53_0 : decode b_Math_min_7cf53 0 = .ok (.iload_n 0, 1) := by decide +kernel
theorem d_Math_min_7cf53_1 : decode b_Math_min_7cf53 1 = .ok (.iload_n 1, 1) := by decide +kernel
theorem d_Math_min_7cf53_2 : decode b_Math_min_7cf53 2 = .ok (.if_icmp .gt 7, 3) := by decide +kernel
theorem d_Math_min_7cf53_5 : decode b_Math_min_7cf53 5 = .ok (.iload_n 0, 1) := by decide +kernel
theorem d_Math_min_7cf53_6 : decode b_Math_min_7cf53 6 = .ok (.goto 4, 3) := by decide +kernel
theorem d_Math_min_7cf53_9 : decode b_Math_min_7cf53 9 = .ok (.iload_n 1, 1) := by decide +kernel
theorem d_Math_min_7cf53_10 : decode b_Math_min_7cf53 10 = .ok (.ireturn, 1) := by decide +kernel
theorem d_Arrays_fill_53178_0 : decode b_Arrays_fill_53178 0 = .ok (.iconst 0, 1) := by decide +kernel
theorem d_Arrays_fill_53178_1 : decode b_Arrays_fill_53178 1 = .ok (.istore_n 2, 1) := by decide +kernel
theorem d_Arrays_fill_53178_2 : decode b_Arrays_fill_53178 2 = .ok (.aload_n 0, 1) := by decide +kernel
theorem d_Arrays_fill_53178_3 : decode b_Arrays_fill_53178 3 = .ok (.arraylength, 1) := by decide +kernel
theorem d_Arrays_fill_53178_4 : decode b_Arrays_fill_53178 4 = .ok (.istore_n 3, 1) := by decide +kernel
theorem d_Arrays_fill_53178_5 : decode b_Arrays_fill_53178 5 = .ok (.iload_n 2, 1) := by decide +kernel
theorem d_Arrays_fill_53178_6 : decode b_Arrays_fill_53178 6 = .ok (.iload_n 3, 1) := by decide +kernel
theorem d_Arrays_fill_53178_7 : decode b_Arrays_fill_53178 7 = .ok (.if_icmp .ge 13, 3) := by decide +kernel
theorem d_Arrays_fill_53178_10 : decode b_Arrays_fill_53178 10 = .ok (.aload_n 0, 1) := by decide +kernel
theorem d_Arrays_fill_53178_11 : decode b_Arrays_fill_53178 11 = .ok (.iload_n 2, 1) := by decide +kernel
theorem d_Arrays_fill_53178_12 : decode b_Arrays_fill_53178 12 = .ok (.iload_n 1, 1) := by decide +kernel
theorem d_Arrays_fill_53178_13 : decode b_Arrays_fill_53178 13 = .ok (.iastore, 1) := by decide +kernel
theorem d_Arrays_fill_53178_14 : decode b_Arrays_fill_53178 14 = .ok (.iinc 2 1, 3) := by decide +kernel
theorem d_Arrays_fill_53178_17 : decode b_Arrays_fill_53178 17 = .ok (.goto (-12), 3) := by decide +kernel
theorem d_Arrays_fill_53178_20 : decode b_Arrays_fill_53178 20 = .ok (.return_, 1) := by decide +kernel
theorem d_Law_below_0 : decode b_Law_below 0 = .ok (.iload_n 0, 1) := by decide +kernel
theorem d_Law_below_1 : decode b_Law_below 1 = .ok (.ldc 7, 2) := by decide +kernel
theorem d_Law_below_3 : decode b_Law_below 3 = .ok (.iand, 1) := by decide +kernel
theorem d_Law_below_4 : decode b_Law_below 4 = .ok (.iload_n 1, 1) := by decide +kernel
theorem d_Law_below_5 : decode b_Law_below 5 = .ok (.irem, 1) := by decide +kernel
theorem d_Law_below_6 : decode b_Law_below 6 = .ok (.ireturn, 1) := by decide +kernel
theorem d_Law_cell_0 : decode b_Law_cell 0 = .ok (.iload_n 1, 1) := by decide +kernel
theorem d_Law_cell_1 : decode b_Law_cell 1 = .ok (.aload_n 0, 1) := by decide +kernel
theorem d_Law_cell_2 : decode b_Law_cell 2 = .ok (.arraylength, 1) := by decide +kernel
theorem d_Law_cell_3 : decode b_Law_cell 3 = .ok (.if_icmp .ge 9, 3) := by decide +kernel
theorem d_Law_cell_6 : decode b_Law_cell 6 = .ok (.aload_n 0, 1) := by decide +kernel
theorem d_Law_cell_7 : decode b_Law_cell 7 = .ok (.iload_n 1, 1) := by decide +kernel
theorem d_Law_cell_8 : decode b_Law_cell 8 = .ok (.iaload, 1) := by decide +kernel
theorem d_Law_cell_9 : decode b_Law_cell 9 = .ok (.goto 9, 3) := by decide +kernel
theorem d_Law_cell_12 : decode b_Law_cell 12 = .ok (.ldc 8, 2) := by decide +kernel
theorem d_Law_cell_14 : decode b_Law_cell 14 = .ok (.iload_n 1, 1) := by decide +kernel
theorem d_Law_cell_15 : decode b_Law_cell 15 = .ok (.iconst 3, 1) := by decide +kernel
theorem d_Law_cell_16 : decode b_Law_cell 16 = .ok (.iadd, 1) := by decide +kernel
theorem d_Law_cell_17 : decode b_Law_cell 17 = .ok (.imul, 1) := by decide +kernel
theorem d_Law_cell_18 : decode b_Law_cell 18 = .ok (.ireturn, 1) := by decide +kernel
theorem d_Law_law_0 : decode b_Law_law 0 = .ok (.iconst 0, 1) := by decide +kernel
theorem d_Law_law_1 : decode b_Law_law 1 = .ok (.istore_n 1, 1) := by decide +kernel
theorem d_Law_law_2 : decode b_Law_law 2 = .ok (.iload_n 1, 1) := by decide +kernel
theorem d_Law_law_3 : decode b_Law_law 3 = .ok (.iconst 3, 1) := by decide +kernel
theorem d_Law_law_4 : decode b_Law_law 4 = .ok (.if_icmp .ge 420, 3) := by decide +kernel
theorem d_Law_law_7 : decode b_Law_law 7 = .ok (.new 9, 3) := by decide +kernel
theorem d_Law_law_10 : decode b_Law_law 10 = .ok (.dup, 1) := by decide +kernel
theorem d_Law_law_11 : decode b_Law_law 11 = .ok (.aload_n 0, 1) := by decide +kernel
theorem d_Law_law_12 : decode b_Law_law 12 = .ok (.bipush 31, 2) := by decide +kernel
theorem d_Law_law_14 : decode b_Law_law 14 = .ok (.iload_n 1, 1) := by decide +kernel
theorem d_Law_law_15 : decode b_Law_law 15 = .ok (.imul, 1) := by decide +kernel
theorem d_Law_law_16 : decode b_Law_law 16 = .ok (.bipush 7, 2) := by decide +kernel
theorem d_Law_law_18 : decode b_Law_law 18 = .ok (.iadd, 1) := by decide +kernel
theorem d_Law_law_19 : decode b_Law_law 19 = .ok (.invokespecial 11, 3) := by decide +kernel
theorem d_Law_law_22 : decode b_Law_law 22 = .ok (.astore_n 2, 1) := by decide +kernel
theorem d_Law_law_23 : decode b_Law_law 23 = .ok (.new 9, 3) := by decide +kernel
theorem d_Law_law_26 : decode b_Law_law 26 = .ok (.dup, 1) := by decide +kernel
theorem d_Law_law_27 : decode b_Law_law 27 = .ok (.aload_n 0, 1) := by decide +kernel
theorem d_Law_law_28 : decode b_Law_law 28 = .ok (.bipush 31, 2) := by decide +kernel
theorem d_Law_law_30 : decode b_Law_law 30 = .ok (.iload_n 1, 1) := by decide +kernel
theorem d_Law_law_31 : decode b_Law_law 31 = .ok (.imul, 1) := by decide +kernel
theorem d_Law_law_32 : decode b_Law_law 32 = .ok (.bipush 7, 2) := by decide +kernel
theorem d_Law_law_34 : decode b_Law_law 34 = .ok (.iadd, 1) := by decide +kernel
theorem d_Law_law_35 : decode b_Law_law 35 = .ok (.invokespecial 11, 3) := by decide +kernel
theorem d_Law_law_38 : decode b_Law_law 38 = .ok (.astore_n 3, 1) := by decide +kernel
theorem d_Law_law_39 : decode b_Law_law 39 = .ok (.aload_n 2, 1) := by decide +kernel
theorem d_Law_law_40 : decode b_Law_law 40 = .ok (.getfield 14, 3) := by decide +kernel
theorem d_Law_law_43 : decode b_Law_law 43 = .ok (.astore 4, 2) := by decide +kernel
theorem d_Law_law_45 : decode b_Law_law 45 = .ok (.aload_n 2, 1) := by decide +kernel
theorem d_Law_law_46 : decode b_Law_law 46 = .ok (.iconst 5, 1) := by decide +kernel
theorem d_Law_law_47 : decode b_Law_law 47 = .ok (.invokevirtual 18, 3) := by decide +kernel
theorem d_Law_law_50 : decode b_Law_law 50 = .ok (.ifCond .eq 27, 3) := by decide +kernel
theorem d_Law_law_53 : decode b_Law_law 53 = .ok (.aload_n 3, 1) := by decide +kernel
theorem d_Law_law_54 : decode b_Law_law 54 = .ok (.iconst 5, 1) := by decide +kernel
theorem d_Law_law_55 : decode b_Law_law 55 = .ok (.invokevirtual 18, 3) := by decide +kernel
theorem d_Law_law_58 : decode b_Law_law 58 = .ok (.ifCond .eq 19, 3) := by decide +kernel
theorem d_Law_law_61 : decode b_Law_law 61 = .ok (.aload_n 2, 1) := by decide +kernel
theorem d_Law_law_62 : decode b_Law_law 62 = .ok (.iconst 1, 1) := by decide +kernel
theorem d_Law_law_63 : decode b_Law_law 63 = .ok (.invokevirtual 22, 3) := by decide +kernel
theorem d_Law_law_66 : decode b_Law_law 66 = .ok (.ifCond .eq 11, 3) := by decide +kernel
theorem d_Law_law_69 : decode b_Law_law 69 = .ok (.aload_n 3, 1) := by decide +kernel
theorem d_Law_law_70 : decode b_Law_law 70 = .ok (.iconst 1, 1) := by decide +kernel
theorem d_Law_law_71 : decode b_Law_law 71 = .ok (.invokevirtual 22, 3) := by decide +kernel
theorem d_Law_law_74 : decode b_Law_law 74 = .ok (.ifCond .ne 5, 3) := by decide +kernel
theorem d_Law_law_77 : decode b_Law_law 77 = .ok (.iconst 0, 1) := by decide +kernel
theorem d_Law_law_78 : decode b_Law_law 78 = .ok (.ireturn, 1) := by decide +kernel
theorem d_Law_law_79 : decode b_Law_law 79 = .ok (.iconst 0, 1) := by decide +kernel
theorem d_Law_law_80 : decode b_Law_law 80 = .ok (.istore 5, 2) := by decide +kernel
theorem d_Law_law_82 : decode b_Law_law 82 = .ok (.iload 5, 2) := by decide +kernel
theorem d_Law_law_84 : decode b_Law_law 84 = .ok (.bipush 10, 2) := by decide +kernel
theorem d_Law_law_86 : decode b_Law_law 86 = .ok (.if_icmp .ge 332, 3) := by decide +kernel
theorem d_Law_law_89 : decode b_Law_law 89 = .ok (.aload_n 2, 1) := by decide +kernel
theorem d_Law_law_90 : decode b_Law_law 90 = .ok (.bipush 14, 2) := by decide +kernel
theorem d_Law_law_92 : decode b_Law_law 92 = .ok (.invokevirtual 26, 3) := by decide +kernel
theorem d_Law_law_95 : decode b_Law_law 95 = .ok (.bipush 9, 2) := by decide +kernel
theorem d_Law_law_97 : decode b_Law_law 97 = .ok (.isub, 1) := by decide +kernel
theorem d_Law_law_98 : decode b_Law_law 98 = .ok (.istore 6, 2) := by decide +kernel
theorem d_Law_law_100 : decode b_Law_law 100 = .ok (.aload_n 2, 1) := by decide +kernel
theorem d_Law_law_101 : decode b_Law_law 101 = .ok (.iconst 2, 1) := by decide +kernel
theorem d_Law_law_102 : decode b_Law_law 102 = .ok (.invokevirtual 26, 3) := by decide +kernel
theorem d_Law_law_105 : decode b_Law_law 105 = .ok (.istore 7, 2) := by decide +kernel
theorem d_Law_law_107 : decode b_Law_law 107 = .ok (.aload_n 2, 1) := by decide +kernel
theorem d_Law_law_108 : decode b_Law_law 108 = .ok (.iconst 3, 1) := by decide +kernel
theorem d_Law_law_109 : decode b_Law_law 109 = .ok (.invokevirtual 26, 3) := by decide +kernel
theorem d_Law_law_112 : decode b_Law_law 112 = .ok (.istore 8, 2) := by decide +kernel
theorem d_Law_law_114 : decode b_Law_law 114 = .ok (.aload_n 2, 1) := by decide +kernel
theorem d_Law_law_115 : decode b_Law_law 115 = .ok (.iconst 4, 1) := by decide +kernel
theorem d_Law_law_116 : decode b_Law_law 116 = .ok (.invokevirtual 26, 3) := by decide +kernel
theorem d_Law_law_119 : decode b_Law_law 119 = .ok (.ifCond .ne 11, 3) := by decide +kernel
theorem d_Law_law_122 : decode b_Law_law 122 = .ok (.aload_n 2, 1) := by decide +kernel
theorem d_Law_law_123 : decode b_Law_law 123 = .ok (.iconst 3, 1) := by decide +kernel
theorem d_Law_law_124 : decode b_Law_law 124 = .ok (.invokevirtual 26, 3) := by decide +kernel
theorem d_Law_law_127 : decode b_Law_law 127 = .ok (.goto 4, 3) := by decide +kernel
theorem d_Law_law_130 : decode b_Law_law 130 = .ok (.iconst 0, 1) := by decide +kernel
theorem d_Law_law_131 : decode b_Law_law 131 = .ok (.istore 9, 2) := by decide +kernel
theorem d_Law_law_133 : decode b_Law_law 133 = .ok (.aload_n 2, 1) := by decide +kernel
theorem d_Law_law_134 : decode b_Law_law 134 = .ok (.iconst 3, 1) := by decide +kernel
theorem d_Law_law_135 : decode b_Law_law 135 = .ok (.invokevirtual 26, 3) := by decide +kernel
theorem d_Law_law_138 : decode b_Law_law 138 = .ok (.istore 10, 2) := by decide +kernel
theorem d_Law_law_140 : decode b_Law_law 140 = .ok (.aload_n 2, 1) := by decide +kernel
theorem d_Law_law_141 : decode b_Law_law 141 = .ok (.iload 6, 2) := by decide +kernel
theorem d_Law_law_143 : decode b_Law_law 143 = .ok (.iload 7, 2) := by decide +kernel
theorem d_Law_law_145 : decode b_Law_law 145 = .ok (.iload 8, 2) := by decide +kernel
theorem d_Law_law_147 : decode b_Law_law 147 = .ok (.iload 9, 2) := by decide +kernel
theorem d_Law_law_149 : decode b_Law_law 149 = .ok (.iload 10, 2) := by decide +kernel
theorem d_Law_law_151 : decode b_Law_law 151 = .ok (.invokevirtual 30, 3) := by decide +kernel
theorem d_Law_law_154 : decode b_Law_law 154 = .ok (.ifCond .eq 20, 3) := by decide +kernel
theorem d_Law_law_157 : decode b_Law_law 157 = .ok (.aload_n 3, 1) := by decide +kernel
theorem d_Law_law_158 : decode b_Law_law 158 = .ok (.iload 6, 2) := by decide +kernel
theorem d_Law_law_160 : decode b_Law_law 160 = .ok (.iload 7, 2) := by decide +kernel
theorem d_Law_law_162 : decode b_Law_law 162 = .ok (.iload 8, 2) := by decide +kernel
theorem d_Law_law_164 : decode b_Law_law 164 = .ok (.iload 9, 2) := by decide +kernel
theorem d_Law_law_166 : decode b_Law_law 166 = .ok (.iload 10, 2) := by decide +kernel
theorem d_Law_law_168 : decode b_Law_law 168 = .ok (.invokevirtual 30, 3) := by decide +kernel
theorem d_Law_law_171 : decode b_Law_law 171 = .ok (.ifCond .ne 5, 3) := by decide +kernel
theorem d_Law_law_174 : decode b_Law_law 174 = .ok (.iconst 0, 1) := by decide +kernel
theorem d_Law_law_175 : decode b_Law_law 175 = .ok (.ireturn, 1) := by decide +kernel
theorem d_Law_law_176 : decode b_Law_law 176 = .ok (.aload_n 2, 1) := by decide +kernel
theorem d_Law_law_177 : decode b_Law_law 177 = .ok (.iconst 5, 1) := by decide +kernel
theorem d_Law_law_178 : decode b_Law_law 178 = .ok (.invokevirtual 26, 3) := by decide +kernel
theorem d_Law_law_181 : decode b_Law_law 181 = .ok (.istore 11, 2) := by decide +kernel
theorem d_Law_law_183 : decode b_Law_law 183 = .ok (.iconst 1, 1) := by decide +kernel
theorem d_Law_law_184 : decode b_Law_law 184 = .ok (.aload_n 2, 1) := by decide +kernel
theorem d_Law_law_185 : decode b_Law_law 185 = .ok (.bipush 6, 2) := by decide +kernel
theorem d_Law_law_187 : decode b_Law_law 187 = .ok (.invokevirtual 26, 3) := by decide +kernel
theorem d_Law_law_190 : decode b_Law_law 190 = .ok (.iadd, 1) := by decide +kernel
theorem d_Law_law_191 : decode b_Law_law 191 = .ok (.istore 12, 2) := by decide +kernel
theorem d_Law_law_193 : decode b_Law_law 193 = .ok (.aload 4, 2) := by decide +kernel
theorem d_Law_law_195 : decode b_Law_law 195 = .ok (.invokevirtual 34, 3) := by decide +kernel
theorem d_Law_law_198 : decode b_Law_law 198 = .ok (.lstore 13, 2) := by decide +kernel
theorem d_Law_law_200 : decode b_Law_law 200 = .ok (.lload 13, 2) := by decide +kernel
theorem d_Law_law_202 : decode b_Law_law 202 = .ok (.aload_n 3, 1) := by decide +kernel
theorem d_Law_law_203 : decode b_Law_law 203 = .ok (.getfield 14, 3) := by decide +kernel
theorem d_Law_law_206 : decode b_Law_law 206 = .ok (.invokevirtual 34, 3) := by decide +kernel
theorem d_Law_law_209 : decode b_Law_law 209 = .ok (.lcmp, 1) := by decide +kernel
theorem d_Law_law_210 : decode b_Law_law 210 = .ok (.ifCond .eq 5, 3) := by decide +kernel
theorem d_Law_law_213 : decode b_Law_law 213 = .ok (.iconst 0, 1) := by decide +kernel
theorem d_Law_law_214 : decode b_Law_law 214 = .ok (.ireturn, 1) := by decide +kernel
theorem d_Law_law_215 : decode b_Law_law 215 = .ok (.aload 4, 2) := by decide +kernel
theorem d_Law_law_217 : decode b_Law_law 217 = .ok (.iload 11, 2) := by decide +kernel
theorem d_Law_law_219 : decode b_Law_law 219 = .ok (.iload 12, 2) := by decide +kernel
theorem d_Law_law_221 : decode b_Law_law 221 = .ok (.invokevirtual 40, 3) := by decide +kernel
theorem d_Law_law_224 : decode b_Law_law 224 = .ok (.istore 15, 2) := by decide +kernel
theorem d_Law_law_226 : decode b_Law_law 226 = .ok (.aload 4, 2) := by decide +kernel
theorem d_Law_law_228 : decode b_Law_law 228 = .ok (.iload 11, 2) := by decide +kernel
theorem d_Law_law_230 : decode b_Law_law 230 = .ok (.iload 12, 2) := by decide +kernel
theorem d_Law_law_232 : decode b_Law_law 232 = .ok (.invokevirtual 44, 3) := by decide +kernel
theorem d_Law_law_235 : decode b_Law_law 235 = .ok (.istore 16, 2) := by decide +kernel
theorem d_Law_law_237 : decode b_Law_law 237 = .ok (.iload 15, 2) := by decide +kernel
theorem d_Law_law_239 : decode b_Law_law 239 = .ok (.ifCond .ge 7, 3) := by decide +kernel
theorem d_Law_law_242 : decode b_Law_law 242 = .ok (.iconst 1, 1) := by decide +kernel
theorem d_Law_law_243 : decode b_Law_law 243 = .ok (.goto 4, 3) := by decide +kernel
theorem d_Law_law_246 : decode b_Law_law 246 = .ok (.iconst 0, 1) := by decide +kernel
theorem d_Law_law_247 : decode b_Law_law 247 = .ok (.iload 16, 2) := by decide +kernel
theorem d_Law_law_249 : decode b_Law_law 249 = .ok (.ifCond .ne 7, 3) := by decide +kernel
theorem d_Law_law_252 : decode b_Law_law 252 = .ok (.iconst 1, 1) := by decide +kernel
theorem d_Law_law_253 : decode b_Law_law 253 = .ok (.goto 4, 3) := by decide +kernel
theorem d_Law_law_256 : decode b_Law_law 256 = .ok (.iconst 0, 1) := by decide +kernel
theorem d_Law_law_257 : decode b_Law_law 257 = .ok (.if_icmp .ne 10, 3) := by decide +kernel
theorem d_Law_law_260 : decode b_Law_law 260 = .ok (.iload 15, 2) := by decide +kernel
theorem d_Law_law_262 : decode b_Law_law 262 = .ok (.iload 12, 2) := by decide +kernel
theorem d_Law_law_264 : decode b_Law_law 264 = .ok (.if_icmp .le 5, 3) := by decide +kernel
theorem d_Law_law_267 : decode b_Law_law 267 = .ok (.iconst 0, 1) := by decide +kernel
theorem d_Law_law_268 : decode b_Law_law 268 = .ok (.ireturn, 1) := by decide +kernel
theorem d_Law_law_269 : decode b_Law_law 269 = .ok (.iload 5, 2) := by decide +kernel
theorem d_Law_law_271 : decode b_Law_law 271 = .ok (.iconst 3, 1) := by decide +kernel
theorem d_Law_law_272 : decode b_Law_law 272 = .ok (.irem, 1) := by decide +kernel
theorem d_Law_law_273 : decode b_Law_law 273 = .ok (.iconst 2, 1) := by decide +kernel
theorem d_Law_law_274 : decode b_Law_law 274 = .ok (.if_icmp .ne 13, 3) := by decide +kernel
theorem d_Law_law_277 : decode b_Law_law 277 = .ok (.aload_n 2, 1) := by decide +kernel
theorem d_Law_law_278 : decode b_Law_law 278 = .ok (.aload_n 3, 1) := by decide +kernel
theorem d_Law_law_279 : decode b_Law_law 279 = .ok (.invokestatic 47, 3) := by decide +kernel
theorem d_Law_law_282 : decode b_Law_law 282 = .ok (.ifCond .ne 130, 3) := by decide +kernel
theorem d_Law_law_285 : decode b_Law_law 285 = .ok (.iconst 0, 1) := by decide +kernel
theorem d_Law_law_286 : decode b_Law_law 286 = .ok (.ireturn, 1) := by decide +kernel
theorem d_Law_law_287 : decode b_Law_law 287 = .ok (.aload 4, 2) := by decide +kernel
theorem d_Law_law_289 : decode b_Law_law 289 = .ok (.iload 11, 2) := by decide +kernel
theorem d_Law_law_291 : decode b_Law_law 291 = .ok (.bipush 13, 2) := by decide +kernel
theorem d_Law_law_293 : decode b_Law_law 293 = .ok (.invokevirtual 53, 3) := by decide +kernel
theorem d_Law_law_296 : decode b_Law_law 296 = .ok (.istore 17, 2) := by decide +kernel
theorem d_Law_law_298 : decode b_Law_law 298 = .ok (.iconst 1, 1) := by decide +kernel
theorem d_Law_law_299 : decode b_Law_law 299 = .ok (.istore 18, 2) := by decide +kernel
theorem d_Law_law_301 : decode b_Law_law 301 = .ok (.iload 18, 2) := by decide +kernel
theorem d_Law_law_303 : decode b_Law_law 303 = .ok (.iload 12, 2) := by decide +kernel
theorem d_Law_law_305 : decode b_Law_law 305 = .ok (.if_icmp .gt 73, 3) := by decide +kernel
theorem d_Law_law_308 : decode b_Law_law 308 = .ok (.aload 4, 2) := by decide +kernel
theorem d_Law_law_310 : decode b_Law_law 310 = .ok (.iconst 1, 1) := by decide +kernel
theorem d_Law_law_311 : decode b_Law_law 311 = .ok (.invokevirtual 56, 3) := by decide +kernel
theorem d_Law_law_314 : decode b_Law_law 314 = .ok (.istore 19, 2) := by decide +kernel
theorem d_Law_law_316 : decode b_Law_law 316 = .ok (.iload 19, 2) := by decide +kernel
theorem d_Law_law_318 : decode b_Law_law 318 = .ok (.ifCond .lt 52, 3) := by decide +kernel
theorem d_Law_law_321 : decode b_Law_law 321 = .ok (.iload 15, 2) := by decide +kernel
theorem d_Law_law_323 : decode b_Law_law 323 = .ok (.ifCond .lt 10, 3) := by decide +kernel
theorem d_Law_law_326 : decode b_Law_law 326 = .ok (.iload 18, 2) := by decide +kernel
theorem d_Law_law_328 : decode b_Law_law 328 = .ok (.iload 15, 2) := by decide +kernel
theorem d_Law_law_330 : decode b_Law_law 330 = .ok (.if_icmp .ge 17, 3) := by decide +kernel
theorem d_Law_law_333 : decode b_Law_law 333 = .ok (.aload 4, 2) := by decide +kernel
theorem d_Law_law_335 : decode b_Law_law 335 = .ok (.iload 11, 2) := by decide +kernel
theorem d_Law_law_337 : decode b_Law_law 337 = .ok (.bipush 13, 2) := by decide +kernel
theorem d_Law_law_339 : decode b_Law_law 339 = .ok (.invokevirtual 53, 3) := by decide +kernel
theorem d_Law_law_342 : decode b_Law_law 342 = .ok (.iload 17, 2) := by decide +kernel
theorem d_Law_law_344 : decode b_Law_law 344 = .ok (.if_icmp .ne 26, 3) := by decide +kernel
theorem d_Law_law_347 : decode b_Law_law 347 = .ok (.iload 18, 2) := by decide +kernel
theorem d_Law_law_349 : decode b_Law_law 349 = .ok (.iload 15, 2) := by decide +kernel
theorem d_Law_law_351 : decode b_Law_law 351 = .ok (.if_icmp .ne 21, 3) := by decide +kernel
theorem d_Law_law_354 : decode b_Law_law 354 = .ok (.aload 4, 2) := by decide +kernel
theorem d_Law_law_356 : decode b_Law_law 356 = .ok (.iload 11, 2) := by decide +kernel
theorem d_Law_law_358 : decode b_Law_law 358 = .ok (.bipush 13, 2) := by decide +kernel
theorem d_Law_law_360 : decode b_Law_law 360 = .ok (.invokevirtual 53, 3) := by decide +kernel
theorem d_Law_law_363 : decode b_Law_law 363 = .ok (.iload 17, 2) := by decide +kernel
theorem d_Law_law_365 : decode b_Law_law 365 = .ok (.iconst 1, 1) := by decide +kernel
theorem d_Law_law_366 : decode b_Law_law 366 = .ok (.iadd, 1) := by decide +kernel
theorem d_Law_law_367 : decode b_Law_law 367 = .ok (.if_icmp .eq 5, 3) := by decide +kernel
theorem d_Law_law_370 : decode b_Law_law 370 = .ok (.iconst 0, 1) := by decide +kernel
theorem d_Law_law_371 : decode b_Law_law 371 = .ok (.ireturn, 1) := by decide +kernel
theorem d_Law_law_372 : decode b_Law_law 372 = .ok (.iinc 18 1, 3) := by decide +kernel
theorem d_Law_law_375 : decode b_Law_law 375 = .ok (.goto (-74), 3) := by decide +kernel
theorem d_Law_law_378 : decode b_Law_law 378 = .ok (.aload_n 3, 1) := by decide +kernel
theorem d_Law_law_379 : decode b_Law_law 379 = .ok (.getfield 14, 3) := by decide +kernel
theorem d_Law_law_382 : decode b_Law_law 382 = .ok (.iload 12, 2) := by decide +kernel
theorem d_Law_law_384 : decode b_Law_law 384 = .ok (.invokevirtual 56, 3) := by decide +kernel
theorem d_Law_law_387 : decode b_Law_law 387 = .ok (.istore 18, 2) := by decide +kernel
theorem d_Law_law_389 : decode b_Law_law 389 = .ok (.iload 18, 2) := by decide +kernel
theorem d_Law_law_391 : decode b_Law_law 391 = .ok (.ifCond .lt 19, 3) := by decide +kernel
theorem d_Law_law_394 : decode b_Law_law 394 = .ok (.aload 4, 2) := by decide +kernel
theorem d_Law_law_396 : decode b_Law_law 396 = .ok (.invokevirtual 34, 3) := by decide +kernel
theorem d_Law_law_399 : decode b_Law_law 399 = .ok (.aload_n 3, 1) := by decide +kernel
theorem d_Law_law_400 : decode b_Law_law 400 = .ok (.getfield 14, 3) := by decide +kernel
theorem d_Law_law_403 : decode b_Law_law 403 = .ok (.invokevirtual 34, 3) := by decide +kernel
theorem d_Law_law_406 : decode b_Law_law 406 = .ok (.lcmp, 1) := by decide +kernel
theorem d_Law_law_407 : decode b_Law_law 407 = .ok (.ifCond .eq 5, 3) := by decide +kernel
theorem d_Law_law_410 : decode b_Law_law 410 = .ok (.iconst 0, 1) := by decide +kernel
theorem d_Law_law_411 : decode b_Law_law 411 = .ok (.ireturn, 1) := by decide +kernel
theorem d_Law_law_412 : decode b_Law_law 412 = .ok (.iinc 5 1, 3) := by decide +kernel
theorem d_Law_law_415 : decode b_Law_law 415 = .ok (.goto (-333), 3) := by decide +kernel
theorem d_Law_law_418 : decode b_Law_law 418 = .ok (.iinc 1 1, 3) := by decide +kernel
theorem d_Law_law_421 : decode b_Law_law 421 = .ok (.goto (-419), 3) := by decide +kernel
theorem d_Law_law_424 : decode b_Law_law 424 = .ok (.iconst 1, 1) := by decide +kernel
theorem d_Law_law_425 : decode b_Law_law 425 = .ok (.ireturn, 1) := by decide +kernel
theorem d_Law_isDriven_0 : decode b_Law_isDriven 0 = .ok (.aload_n 0, 1) := by decide +kernel
theorem d_Law_isDriven_1 : decode b_Law_isDriven 1 = .ok (.getfield 14, 3) := by decide +kernel
theorem d_Law_isDriven_4 : decode b_Law_isDriven 4 = .ok (.astore_n 2, 1) := by decide +kernel
theorem d_Law_isDriven_5 : decode b_Law_isDriven 5 = .ok (.aload_n 2, 1) := by decide +kernel
theorem d_Law_isDriven_6 : decode b_Law_isDriven 6 = .ok (.iconst 0, 1) := by decide +kernel
theorem d_Law_isDriven_7 : decode b_Law_isDriven 7 = .ok (.invokevirtual 59, 3) := by decide +kernel
theorem d_Law_isDriven_10 : decode b_Law_isDriven 10 = .ok (.aload_n 1, 1) := by decide +kernel
theorem d_Law_isDriven_11 : decode b_Law_isDriven 11 = .ok (.getfield 14, 3) := by decide +kernel
theorem d_Law_isDriven_14 : decode b_Law_isDriven 14 = .ok (.iconst 0, 1) := by decide +kernel
theorem d_Law_isDriven_15 : decode b_Law_isDriven 15 = .ok (.invokevirtual 59, 3) := by decide +kernel
theorem d_Law_isDriven_18 : decode b_Law_isDriven 18 = .ok (.if_icmp .eq 5, 3) := by decide +kernel
theorem d_Law_isDriven_21 : decode b_Law_isDriven 21 = .ok (.iconst 0, 1) := by decide +kernel
theorem d_Law_isDriven_22 : decode b_Law_isDriven 22 = .ok (.ireturn, 1) := by decide +kernel
theorem d_Law_isDriven_23 : decode b_Law_isDriven 23 = .ok (.aload_n 2, 1) := by decide +kernel
theorem d_Law_isDriven_24 : decode b_Law_isDriven 24 = .ok (.iconst 0, 1) := by decide +kernel
theorem d_Law_isDriven_25 : decode b_Law_isDriven 25 = .ok (.iconst 0, 1) := by decide +kernel
theorem d_Law_isDriven_26 : decode b_Law_isDriven 26 = .ok (.invokevirtual 62, 3) := by decide +kernel
theorem d_Law_isDriven_29 : decode b_Law_isDriven 29 = .ok (.istore_n 3, 1) := by decide +kernel
theorem d_Law_isDriven_30 : decode b_Law_isDriven 30 = .ok (.aload_n 2, 1) := by decide +kernel
theorem d_Law_isDriven_31 : decode b_Law_isDriven 31 = .ok (.iconst 0, 1) := by decide +kernel
theorem d_Law_isDriven_32 : decode b_Law_isDriven 32 = .ok (.iload_n 3, 1) := by decide +kernel
theorem d_Law_isDriven_33 : decode b_Law_isDriven 33 = .ok (.invokevirtual 65, 3) := by decide +kernel
theorem d_Law_isDriven_36 : decode b_Law_isDriven 36 = .ok (.istore 4, 2) := by decide +kernel
theorem d_Law_isDriven_38 : decode b_Law_isDriven 38 = .ok (.iconst 0, 1) := by decide +kernel
theorem d_Law_isDriven_39 : decode b_Law_isDriven 39 = .ok (.istore 5, 2) := by decide +kernel
theorem d_Law_isDriven_41 : decode b_Law_isDriven 41 = .ok (.iload 4, 2) := by decide +kernel
theorem d_Law_isDriven_43 : decode b_Law_isDriven 43 = .ok (.istore 6, 2) := by decide +kernel
theorem d_Law_isDriven_45 : decode b_Law_isDriven 45 = .ok (.iload 6, 2) := by decide +kernel
theorem d_Law_isDriven_47 : decode b_Law_isDriven 47 = .ok (.bipush 9, 2) := by decide +kernel
theorem d_Law_isDriven_49 : decode b_Law_isDriven 49 = .ok (.if_icmp .le 16, 3) := by decide +kernel
theorem d_Law_isDriven_52 : decode b_Law_isDriven 52 = .ok (.iinc 5 1, 3) := by decide +kernel
theorem d_Law_isDriven_55 : decode b_Law_isDriven 55 = .ok (.iload 6, 2) := by decide +kernel
theorem d_Law_isDriven_57 : decode b_Law_isDriven 57 = .ok (.bipush 10, 2) := by decide +kernel
theorem d_Law_isDriven_59 : decode b_Law_isDriven 59 = .ok (.idiv, 1) := by decide +kernel
theorem d_Law_isDriven_60 : decode b_Law_isDriven 60 = .ok (.istore 6, 2) := by decide +kernel
theorem d_Law_isDriven_62 : decode b_Law_isDriven 62 = .ok (.goto (-17), 3) := by decide +kernel
theorem d_Law_isDriven_65 : decode b_Law_isDriven 65 = .ok (.iload 5, 2) := by decide +kernel
theorem d_Law_isDriven_67 : decode b_Law_isDriven 67 = .ok (.newarray .int, 2) := by decide +kernel
theorem d_Law_isDriven_69 : decode b_Law_isDriven 69 = .ok (.astore 6, 2) := by decide +kernel
theorem d_Law_isDriven_71 : decode b_Law_isDriven 71 = .ok (.iload 5, 2) := by decide +kernel
theorem d_Law_isDriven_73 : decode b_Law_isDriven 73 = .ok (.iconst 1, 1) := by decide +kernel
theorem d_Law_isDriven_74 : decode b_Law_isDriven 74 = .ok (.isub, 1) := by decide +kernel
theorem d_Law_isDriven_75 : decode b_Law_isDriven 75 = .ok (.istore 7, 2) := by decide +kernel
theorem d_Law_isDriven_77 : decode b_Law_isDriven 77 = .ok (.iload 4, 2) := by decide +kernel
theorem d_Law_isDriven_79 : decode b_Law_isDriven 79 = .ok (.istore 8, 2) := by decide +kernel
theorem d_Law_isDriven_81 : decode b_Law_isDriven 81 = .ok (.iload 7, 2) := by decide +kernel
theorem d_Law_isDriven_83 : decode b_Law_isDriven 83 = .ok (.ifCond .lt 26, 3) := by decide +kernel
theorem d_Law_isDriven_86 : decode b_Law_isDriven 86 = .ok (.aload 6, 2) := by decide +kernel
theorem d_Law_isDriven_88 : decode b_Law_isDriven 88 = .ok (.iload 7, 2) := by decide +kernel
theorem d_Law_isDriven_90 : decode b_Law_isDriven 90 = .ok (.iload 8, 2) := by decide +kernel
theorem d_Law_isDriven_92 : decode b_Law_isDriven 92 = .ok (.bipush 10, 2) := by decide +kernel
theorem d_Law_isDriven_94 : decode b_Law_isDriven 94 = .ok (.irem, 1) := by decide +kernel
theorem d_Law_isDriven_95 : decode b_Law_isDriven 95 = .ok (.iastore, 1) := by decide +kernel
theorem d_Law_isDriven_96 : decode b_Law_isDriven 96 = .ok (.iinc 7 (-1), 3) := by decide +kernel
theorem d_Law_isDriven_99 : decode b_Law_isDriven 99 = .ok (.iload 8, 2) := by decide +kernel
theorem d_Law_isDriven_101 : decode b_Law_isDriven 101 = .ok (.bipush 10, 2) := by decide +kernel
theorem d_Law_isDriven_103 : decode b_Law_isDriven 103 = .ok (.idiv, 1) := by decide +kernel
theorem d_Law_isDriven_104 : decode b_Law_isDriven 104 = .ok (.istore 8, 2) := by decide +kernel
theorem d_Law_isDriven_106 : decode b_Law_isDriven 106 = .ok (.goto (-25), 3) := by decide +kernel
theorem d_Law_isDriven_109 : decode b_Law_isDriven 109 = .ok (.iconst 0, 1) := by decide +kernel
theorem d_Law_isDriven_110 : decode b_Law_isDriven 110 = .ok (.istore 7, 2) := by decide +kernel
theorem d_Law_isDriven_112 : decode b_Law_isDriven 112 = .ok (.aload 6, 2) := by decide +kernel
theorem d_Law_isDriven_114 : decode b_Law_isDriven 114 = .ok (.astore 8, 2) := by decide +kernel
theorem d_Law_isDriven_116 : decode b_Law_isDriven 116 = .ok (.aload 8, 2) := by decide +kernel
theorem d_Law_isDriven_118 : decode b_Law_isDriven 118 = .ok (.arraylength, 1) := by decide +kernel
theorem d_Law_isDriven_119 : decode b_Law_isDriven 119 = .ok (.istore 9, 2) := by decide +kernel
theorem d_Law_isDriven_121 : decode b_Law_isDriven 121 = .ok (.iconst 0, 1) := by decide +kernel
theorem d_Law_isDriven_122 : decode b_Law_isDriven 122 = .ok (.istore 10, 2) := by decide +kernel
theorem d_Law_isDriven_124 : decode b_Law_isDriven 124 = .ok (.iload 10, 2) := by decide +kernel
theorem d_Law_isDriven_126 : decode b_Law_isDriven 126 = .ok (.iload 9, 2) := by decide +kernel
theorem d_Law_isDriven_128 : decode b_Law_isDriven 128 = .ok (.if_icmp .ge 47, 3) := by decide +kernel
theorem d_Law_isDriven_131 : decode b_Law_isDriven 131 = .ok (.aload 8, 2) := by decide +kernel
theorem d_Law_isDriven_133 : decode b_Law_isDriven 133 = .ok (.iload 10, 2) := by decide +kernel
theorem d_Law_isDriven_135 : decode b_Law_isDriven 135 = .ok (.iaload, 1) := by decide +kernel
theorem d_Law_isDriven_136 : decode b_Law_isDriven 136 = .ok (.istore 11, 2) := by decide +kernel
theorem d_Law_isDriven_138 : decode b_Law_isDriven 138 = .ok (.iload 7, 2) := by decide +kernel
theorem d_Law_isDriven_140 : decode b_Law_isDriven 140 = .ok (.aload_n 2, 1) := by decide +kernel
theorem d_Law_isDriven_141 : decode b_Law_isDriven 141 = .ok (.iload 11, 2) := by decide +kernel
theorem d_Law_isDriven_143 : decode b_Law_isDriven 143 = .ok (.iconst 2, 1) := by decide +kernel
theorem d_Law_isDriven_144 : decode b_Law_isDriven 144 = .ok (.invokevirtual 53, 3) := by decide +kernel
theorem d_Law_isDriven_147 : decode b_Law_isDriven 147 = .ok (.iadd, 1) := by decide +kernel
theorem d_Law_isDriven_148 : decode b_Law_isDriven 148 = .ok (.istore 7, 2) := by decide +kernel
theorem d_Law_isDriven_150 : decode b_Law_isDriven 150 = .ok (.aload_n 2, 1) := by decide +kernel
theorem d_Law_isDriven_151 : decode b_Law_isDriven 151 = .ok (.iconst 0, 1) := by decide +kernel
theorem d_Law_isDriven_152 : decode b_Law_isDriven 152 = .ok (.iload 11, 2) := by decide +kernel
theorem d_Law_isDriven_154 : decode b_Law_isDriven 154 = .ok (.invokevirtual 68, 3) := by decide +kernel
theorem d_Law_isDriven_157 : decode b_Law_isDriven 157 = .ok (.pop, 1) := by decide +kernel
theorem d_Law_isDriven_158 : decode b_Law_isDriven 158 = .ok (.aload_n 1, 1) := by decide +kernel
theorem d_Law_isDriven_159 : decode b_Law_isDriven 159 = .ok (.getfield 14, 3) := by decide +kernel
theorem d_Law_isDriven_162 : decode b_Law_isDriven 162 = .ok (.iconst 0, 1) := by decide +kernel
theorem d_Law_isDriven_163 : decode b_Law_isDriven 163 = .ok (.iload 11, 2) := by decide +kernel
theorem d_Law_isDriven_165 : decode b_Law_isDriven 165 = .ok (.invokevirtual 68, 3) := by decide +kernel
theorem d_Law_isDriven_168 : decode b_Law_isDriven 168 = .ok (.pop, 1) := by decide +kernel
theorem d_Law_isDriven_169 : decode b_Law_isDriven 169 = .ok (.iinc 10 1, 3) := by decide +kernel
theorem d_Law_isDriven_172 : decode b_Law_isDriven 172 = .ok (.goto (-48), 3) := by decide +kernel
theorem d_Law_isDriven_175 : decode b_Law_isDriven 175 = .ok (.iload 5, 2) := by decide +kernel
theorem d_Law_isDriven_177 : decode b_Law_isDriven 177 = .ok (.bipush 6, 2) := by decide +kernel
theorem d_Law_isDriven_179 : decode b_Law_isDriven 179 = .ok (.if_icmp .le 5, 3) := by decide +kernel
theorem d_Law_isDriven_182 : decode b_Law_isDriven 182 = .ok (.iconst 0, 1) := by decide +kernel
theorem d_Law_isDriven_183 : decode b_Law_isDriven 183 = .ok (.ireturn, 1) := by decide +kernel
theorem d_Law_isDriven_184 : decode b_Law_isDriven 184 = .ok (.iload 7, 2) := by decide +kernel
theorem d_Law_isDriven_186 : decode b_Law_isDriven 186 = .ok (.istore 8, 2) := by decide +kernel
theorem d_Law_isDriven_188 : decode b_Law_isDriven 188 = .ok (.iload 8, 2) := by decide +kernel
theorem d_Law_isDriven_190 : decode b_Law_isDriven 190 = .ok (.ifCond .le 20, 3) := by decide +kernel
theorem d_Law_isDriven_193 : decode b_Law_isDriven 193 = .ok (.aload_n 2, 1) := by decide +kernel
theorem d_Law_isDriven_194 : decode b_Law_isDriven 194 = .ok (.iconst 4, 1) := by decide +kernel
theorem d_Law_isDriven_195 : decode b_Law_isDriven 195 = .ok (.iload 8, 2) := by decide +kernel
theorem d_Law_isDriven_197 : decode b_Law_isDriven 197 = .ok (.invokestatic 71, 3) := by decide +kernel
theorem d_Law_isDriven_200 : decode b_Law_isDriven 200 = .ok (.invokevirtual 56, 3) := by decide +kernel
theorem d_Law_isDriven_203 : decode b_Law_isDriven 203 = .ok (.pop, 1) := by decide +kernel
theorem d_Law_isDriven_204 : decode b_Law_isDriven 204 = .ok (.iinc 8 (-4), 3) := by decide +kernel
theorem d_Law_isDriven_207 : decode b_Law_isDriven 207 = .ok (.goto (-19), 3) := by decide +kernel
theorem d_Law_isDriven_210 : decode b_Law_isDriven 210 = .ok (.iconst 0, 1) := by decide +kernel
theorem d_Law_isDriven_211 : decode b_Law_isDriven 211 = .ok (.istore 8, 2) := by decide +kernel
theorem d_Law_isDriven_213 : decode b_Law_isDriven 213 = .ok (.iload 8, 2) := by decide +kernel
theorem d_Law_isDriven_215 : decode b_Law_isDriven 215 = .ok (.iload 7, 2) := by decide +kernel
theorem d_Law_isDriven_217 : decode b_Law_isDriven 217 = .ok (.if_icmp .ge 18, 3) := by decide +kernel
theorem d_Law_isDriven_220 : decode b_Law_isDriven 220 = .ok (.aload_n 1, 1) := by decide +kernel
theorem d_Law_isDriven_221 : decode b_Law_isDriven 221 = .ok (.getfield 14, 3) := by decide +kernel
theorem d_Law_isDriven_224 : decode b_Law_isDriven 224 = .ok (.iconst 1, 1) := by decide +kernel
theorem d_Law_isDriven_225 : decode b_Law_isDriven 225 = .ok (.invokevirtual 56, 3) := by decide +kernel
theorem d_Law_isDriven_228 : decode b_Law_isDriven 228 = .ok (.pop, 1) := by decide +kernel
theorem d_Law_isDriven_229 : decode b_Law_isDriven 229 = .ok (.iinc 8 1, 3) := by decide +kernel
theorem d_Law_isDriven_232 : decode b_Law_isDriven 232 = .ok (.goto (-19), 3) := by decide +kernel
theorem d_Law_isDriven_235 : decode b_Law_isDriven 235 = .ok (.aload_n 2, 1) := by decide +kernel
theorem d_Law_isDriven_236 : decode b_Law_isDriven 236 = .ok (.iconst 0, 1) := by decide +kernel
theorem d_Law_isDriven_237 : decode b_Law_isDriven 237 = .ok (.bipush 7, 2) := by decide +kernel
theorem d_Law_isDriven_239 : decode b_Law_isDriven 239 = .ok (.invokevirtual 62, 3) := by decide +kernel
theorem d_Law_isDriven_242 : decode b_Law_isDriven 242 = .ok (.ifCond .ne 18, 3) := by decide +kernel
theorem d_Law_isDriven_245 : decode b_Law_isDriven 245 = .ok (.aload_n 2, 1) := by decide +kernel
theorem d_Law_isDriven_246 : decode b_Law_isDriven 246 = .ok (.invokevirtual 34, 3) := by decide +kernel
theorem d_Law_isDriven_249 : decode b_Law_isDriven 249 = .ok (.aload_n 1, 1) := by decide +kernel
theorem d_Law_isDriven_250 : decode b_Law_isDriven 250 = .ok (.getfield 14, 3) := by decide +kernel
theorem d_Law_isDriven_253 : decode b_Law_isDriven 253 = .ok (.invokevirtual 34, 3) := by decide +kernel
theorem d_Law_isDriven_256 : decode b_Law_isDriven 256 = .ok (.lcmp, 1) := by decide +kernel
theorem d_Law_isDriven_257 : decode b_Law_isDriven 257 = .ok (.ifCond .eq 5, 3) := by decide +kernel
theorem d_Law_isDriven_260 : decode b_Law_isDriven 260 = .ok (.iconst 0, 1) := by decide +kernel
theorem d_Law_isDriven_261 : decode b_Law_isDriven 261 = .ok (.ireturn, 1) := by decide +kernel
theorem d_Law_isDriven_262 : decode b_Law_isDriven 262 = .ok (.iconst 0, 1) := by decide +kernel
theorem d_Law_isDriven_263 : decode b_Law_isDriven 263 = .ok (.istore 8, 2) := by decide +kernel
theorem d_Law_isDriven_265 : decode b_Law_isDriven 265 = .ok (.iload 8, 2) := by decide +kernel
theorem d_Law_isDriven_267 : decode b_Law_isDriven 267 = .ok (.iconst 5, 1) := by decide +kernel
theorem d_Law_isDriven_268 : decode b_Law_isDriven 268 = .ok (.if_icmp .ge 50, 3) := by decide +kernel
theorem d_Law_isDriven_271 : decode b_Law_isDriven 271 = .ok (.iload 4, 2) := by decide +kernel
theorem d_Law_isDriven_273 : decode b_Law_isDriven 273 = .ok (.ifCond .le 45, 3) := by decide +kernel
theorem d_Law_isDriven_276 : decode b_Law_isDriven 276 = .ok (.aload_n 2, 1) := by decide +kernel
theorem d_Law_isDriven_277 : decode b_Law_isDriven 277 = .ok (.iload 8, 2) := by decide +kernel
theorem d_Law_isDriven_279 : decode b_Law_isDriven 279 = .ok (.iconst 3, 1) := by decide +kernel
theorem d_Law_isDriven_280 : decode b_Law_isDriven 280 = .ok (.invokevirtual 53, 3) := by decide +kernel
theorem d_Law_isDriven_283 : decode b_Law_isDriven 283 = .ok (.ifCond .ne 29, 3) := by decide +kernel
theorem d_Law_isDriven_286 : decode b_Law_isDriven 286 = .ok (.iload 7, 2) := by decide +kernel
theorem d_Law_isDriven_288 : decode b_Law_isDriven 288 = .ok (.ifCond .le 24, 3) := by decide +kernel
theorem d_Law_isDriven_291 : decode b_Law_isDriven 291 = .ok (.aload_n 2, 1) := by decide +kernel
theorem d_Law_isDriven_292 : decode b_Law_isDriven 292 = .ok (.iconst 1, 1) := by decide +kernel
theorem d_Law_isDriven_293 : decode b_Law_isDriven 293 = .ok (.invokevirtual 76, 3) := by decide +kernel
theorem d_Law_isDriven_296 : decode b_Law_isDriven 296 = .ok (.aload_n 2, 1) := by decide +kernel
theorem d_Law_isDriven_297 : decode b_Law_isDriven 297 = .ok (.iload 8, 2) := by decide +kernel
theorem d_Law_isDriven_299 : decode b_Law_isDriven 299 = .ok (.bipush 14, 2) := by decide +kernel
theorem d_Law_isDriven_301 : decode b_Law_isDriven 301 = .ok (.invokevirtual 53, 3) := by decide +kernel
theorem d_Law_isDriven_304 : decode b_Law_isDriven 304 = .ok (.isub, 1) := by decide +kernel
theorem d_Law_isDriven_305 : decode b_Law_isDriven 305 = .ok (.iload 7, 2) := by decide +kernel
theorem d_Law_isDriven_307 : decode b_Law_isDriven 307 = .ok (.if_icmp .lt 5, 3) := by decide +kernel
theorem d_Law_isDriven_310 : decode b_Law_isDriven 310 = .ok (.iconst 0, 1) := by decide +kernel
theorem d_Law_isDriven_311 : decode b_Law_isDriven 311 = .ok (.ireturn, 1) := by decide +kernel
theorem d_Law_isDriven_312 : decode b_Law_isDriven 312 = .ok (.iinc 8 1, 3) := by decide +kernel
theorem d_Law_isDriven_315 : decode b_Law_isDriven 315 = .ok (.goto (-50), 3) := by decide +kernel
theorem d_Law_isDriven_318 : decode b_Law_isDriven 318 = .ok (.iconst 1, 1) := by decide +kernel
theorem d_Law_isDriven_319 : decode b_Law_isDriven 319 = .ok (.ireturn, 1) := by decide +kernel
