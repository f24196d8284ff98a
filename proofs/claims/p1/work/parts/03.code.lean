/-! decode rows, by program -/
theorem d_Del_init_0 : decode b_Del_init 0 = .ok (.aload_n 0, 1) := by decide +kernel
theorem d_Del_init_1 : decode b_Del_init 1 = .ok (.invokespecial 1, 3) := by decide +kernel
theorem d_Del_init_4 : decode b_Del_init 4 = .ok (.aload_n 0, 1) := by decide +kernel
theorem d_Del_init_5 : decode b_Del_init 5 = .ok (.iload_n 1, 1) := by decide +kernel
theorem d_Del_init_6 : decode b_Del_init 6 = .ok (.putfield 7, 3) := by decide +kernel
theorem d_Del_init_9 : decode b_Del_init 9 = .ok (.aload_n 0, 1) := by decide +kernel
theorem d_Del_init_10 : decode b_Del_init 10 = .ok (.iload_n 2, 1) := by decide +kernel
theorem d_Del_init_11 : decode b_Del_init 11 = .ok (.putfield 13, 3) := by decide +kernel
theorem d_Del_init_14 : decode b_Del_init 14 = .ok (.return_, 1) := by decide +kernel
theorem d_Fc_init_0 : decode b_Fc_init 0 = .ok (.aload_n 0, 1) := by decide +kernel
theorem d_Fc_init_1 : decode b_Fc_init 1 = .ok (.invokespecial 1, 3) := by decide +kernel
theorem d_Fc_init_4 : decode b_Fc_init 4 = .ok (.aload_n 0, 1) := by decide +kernel
theorem d_Fc_init_5 : decode b_Fc_init 5 = .ok (.iload_n 1, 1) := by decide +kernel
theorem d_Fc_init_6 : decode b_Fc_init 6 = .ok (.putfield 7, 3) := by decide +kernel
theorem d_Fc_init_9 : decode b_Fc_init 9 = .ok (.aload_n 0, 1) := by decide +kernel
theorem d_Fc_init_10 : decode b_Fc_init 10 = .ok (.iload_n 2, 1) := by decide +kernel
theorem d_Fc_init_11 : decode b_Fc_init 11 = .ok (.putfield 13, 3) := by decide +kernel
theorem d_Fc_init_14 : decode b_Fc_init 14 = .ok (.aload_n 0, 1) := by decide +kernel
theorem d_Fc_init_15 : decode b_Fc_init 15 = .ok (.iload_n 3, 1) := by decide +kernel
theorem d_Fc_init_16 : decode b_Fc_init 16 = .ok (.putfield 16, 3) := by decide +kernel
theorem d_Fc_init_19 : decode b_Fc_init 19 = .ok (.return_, 1) := by decide +kernel
theorem d_Fc_tellMembers_0 : decode b_Fc_tellMembers 0 = .ok (.aload_n 0, 1) := by decide +kernel
theorem d_Fc_tellMembers_1 : decode b_Fc_tellMembers 1 = .ok (.iload_n 1, 1) := by decide +kernel
theorem d_Fc_tellMembers_2 : decode b_Fc_tellMembers 2 = .ok (.putfield 19, 3) := by decide +kernel
theorem d_Fc_tellMembers_5 : decode b_Fc_tellMembers 5 = .ok (.aload_n 0, 1) := by decide +kernel
theorem d_Fc_tellMembers_6 : decode b_Fc_tellMembers 6 = .ok (.iload_n 2, 1) := by decide +kernel
theorem d_Fc_tellMembers_7 : decode b_Fc_tellMembers 7 = .ok (.putfield 22, 3) := by decide +kernel
theorem d_Fc_tellMembers_10 : decode b_Fc_tellMembers 10 = .ok (.aload_n 0, 1) := by decide +kernel
theorem d_Fc_tellMembers_11 : decode b_Fc_tellMembers 11 = .ok (.iload_n 3, 1) := by decide +kernel
theorem d_Fc_tellMembers_12 : decode b_Fc_tellMembers 12 = .ok (.putfield 25, 3) := by decide +kernel
theorem d_Fc_tellMembers_15 : decode b_Fc_tellMembers 15 = .ok (.aload_n 0, 1) := by decide +kernel
theorem d_Fc_tellMembers_16 : decode b_Fc_tellMembers 16 = .ok (.iload 4, 2) := by decide +kernel
theorem d_Fc_tellMembers_18 : decode b_Fc_tellMembers 18 = .ok (.putfield 28, 3) := by decide +kernel
theorem d_Fc_tellMembers_21 : decode b_Fc_tellMembers 21 = .ok (.return_, 1) := by decide +kernel
theorem d_Fc_foretells_0 : decode b_Fc_foretells 0 = .ok (.aload_n 1, 1) := by decide +kernel
theorem d_Fc_foretells_1 : decode b_Fc_foretells 1 = .ok (.aload_n 0, 1) := by decide +kernel
theorem d_Fc_foretells_2 : decode b_Fc_foretells 2 = .ok (.getfield 19, 3) := by decide +kernel
theorem d_Fc_foretells_5 : decode b_Fc_foretells 5 = .ok (.aload_n 0, 1) := by decide +kernel
theorem d_Fc_foretells_6 : decode b_Fc_foretells 6 = .ok (.getfield 28, 3) := by decide +kernel
theorem d_Fc_foretells_9 : decode b_Fc_foretells 9 = .ok (.invokevirtual 32, 3) := by decide +kernel
theorem d_Fc_foretells_12 : decode b_Fc_foretells 12 = .ok (.ifCond .ge 7, 3) := by decide +kernel
theorem d_Fc_foretells_15 : decode b_Fc_foretells 15 = .ok (.iconst 1, 1) := by decide +kernel
theorem d_Fc_foretells_16 : decode b_Fc_foretells 16 = .ok (.goto 4, 3) := by decide +kernel
theorem d_Fc_foretells_19 : decode b_Fc_foretells 19 = .ok (.iconst 0, 1) := by decide +kernel
theorem d_Fc_foretells_20 : decode b_Fc_foretells 20 = .ok (.aload_n 1, 1) := by decide +kernel
theorem d_Fc_foretells_21 : decode b_Fc_foretells 21 = .ok (.aload_n 0, 1) := by decide +kernel
theorem d_Fc_foretells_22 : decode b_Fc_foretells 22 = .ok (.getfield 22, 3) := by decide +kernel
theorem d_Fc_foretells_25 : decode b_Fc_foretells 25 = .ok (.aload_n 0, 1) := by decide +kernel
theorem d_Fc_foretells_26 : decode b_Fc_foretells 26 = .ok (.getfield 28, 3) := by decide +kernel
theorem d_Fc_foretells_29 : decode b_Fc_foretells 29 = .ok (.invokevirtual 32, 3) := by decide +kernel
theorem d_Fc_foretells_32 : decode b_Fc_foretells 32 = .ok (.ifCond .ge 7, 3) := by decide +kernel
theorem d_Fc_foretells_35 : decode b_Fc_foretells 35 = .ok (.iconst 1, 1) := by decide +kernel
theorem d_Fc_foretells_36 : decode b_Fc_foretells 36 = .ok (.goto 4, 3) := by decide +kernel
theorem d_Fc_foretells_39 : decode b_Fc_foretells 39 = .ok (.iconst 0, 1) := by decide +kernel
theorem d_Fc_foretells_40 : decode b_Fc_foretells 40 = .ok (.iadd, 1) := by decide +kernel
theorem d_Fc_foretells_41 : decode b_Fc_foretells 41 = .ok (.aload_n 1, 1) := by decide +kernel
theorem d_Fc_foretells_42 : decode b_Fc_foretells 42 = .ok (.aload_n 0, 1) := by decide +kernel
theorem d_Fc_foretells_43 : decode b_Fc_foretells 43 = .ok (.getfield 25, 3) := by decide +kernel
theorem d_Fc_foretells_46 : decode b_Fc_foretells 46 = .ok (.aload_n 0, 1) := by decide +kernel
theorem d_Fc_foretells_47 : decode b_Fc_foretells 47 = .ok (.getfield 28, 3) := by decide +kernel
theorem d_Fc_foretells_50 : decode b_Fc_foretells 50 = .ok (.invokevirtual 32, 3) := by decide +kernel
theorem d_Fc_foretells_53 : decode b_Fc_foretells 53 = .ok (.ifCond .ge 7, 3) := by decide +kernel
theorem d_Fc_foretells_56 : decode b_Fc_foretells 56 = .ok (.iconst 1, 1) := by decide +kernel
theorem d_Fc_foretells_57 : decode b_Fc_foretells 57 = .ok (.goto 4, 3) := by decide +kernel
theorem d_Fc_foretells_60 : decode b_Fc_foretells 60 = .ok (.iconst 0, 1) := by decide +kernel
theorem d_Fc_foretells_61 : decode b_Fc_foretells 61 = .ok (.iadd, 1) := by decide +kernel
theorem d_Fc_foretells_62 : decode b_Fc_foretells 62 = .ok (.istore_n 2, 1) := by decide +kernel
theorem d_Fc_foretells_63 : decode b_Fc_foretells 63 = .ok (.iload_n 2, 1) := by decide +kernel
theorem d_Fc_foretells_64 : decode b_Fc_foretells 64 = .ok (.iconst 2, 1) := by decide +kernel
theorem d_Fc_foretells_65 : decode b_Fc_foretells 65 = .ok (.if_icmp .lt 7, 3) := by decide +kernel
theorem d_Fc_foretells_68 : decode b_Fc_foretells 68 = .ok (.iconst 1, 1) := by decide +kernel
theorem d_Fc_foretells_69 : decode b_Fc_foretells 69 = .ok (.goto 4, 3) := by decide +kernel
theorem d_Fc_foretells_72 : decode b_Fc_foretells 72 = .ok (.iconst 0, 1) := by decide +kernel
theorem d_Fc_foretells_73 : decode b_Fc_foretells 73 = .ok (.ireturn, 1) := by decide +kernel
theorem d_Lor_init_0 : decode b_Lor_init 0 = .ok (.aload_n 0, 1) := by decide +kernel
theorem d_Lor_init_1 : decode b_Lor_init 1 = .ok (.invokespecial 3, 3) := by decide +kernel
theorem d_Lor_init_4 : decode b_Lor_init 4 = .ok (.aload_n 0, 1) := by decide +kernel
theorem d_Lor_init_5 : decode b_Lor_init 5 = .ok (.bipush 8, 2) := by decide +kernel
theorem d_Lor_init_7 : decode b_Lor_init 7 = .ok (.newarray .int, 2) := by decide +kernel
theorem d_Lor_init_9 : decode b_Lor_init 9 = .ok (.putfield 9, 3) := by decide +kernel
theorem d_Lor_init_12 : decode b_Lor_init 12 = .ok (.aload_n 0, 1) := by decide +kernel
theorem d_Lor_init_13 : decode b_Lor_init 13 = .ok (.iconst 2, 1) := by decide +kernel
theorem d_Lor_init_14 : decode b_Lor_init 14 = .ok (.putfield 15, 3) := by decide +kernel
theorem d_Lor_init_17 : decode b_Lor_init 17 = .ok (.aload_n 0, 1) := by decide +kernel
theorem d_Lor_init_18 : decode b_Lor_init 18 = .ok (.iload_n 1, 1) := by decide +kernel
theorem d_Lor_init_19 : decode b_Lor_init 19 = .ok (.putfield 19, 3) := by decide +kernel
theorem d_Lor_init_22 : decode b_Lor_init 22 = .ok (.return_, 1) := by decide +kernel
theorem d_Lor_addOrder_0 : decode b_Lor_addOrder 0 = .ok (.aload_n 0, 1) := by decide +kernel
theorem d_Lor_addOrder_1 : decode b_Lor_addOrder 1 = .ok (.getfield 23, 3) := by decide +kernel
theorem d_Lor_addOrder_4 : decode b_Lor_addOrder 4 = .ok (.ifCond .lt 35, 3) := by decide +kernel
theorem d_Lor_addOrder_7 : decode b_Lor_addOrder 7 = .ok (.aload_n 0, 1) := by decide +kernel
theorem d_Lor_addOrder_8 : decode b_Lor_addOrder 8 = .ok (.getfield 23, 3) := by decide +kernel
theorem d_Lor_addOrder_11 : decode b_Lor_addOrder 11 = .ok (.aload_n 0, 1) := by decide +kernel
theorem d_Lor_addOrder_12 : decode b_Lor_addOrder 12 = .ok (.getfield 9, 3) := by decide +kernel
theorem d_Lor_addOrder_15 : decode b_Lor_addOrder 15 = .ok (.arraylength, 1) := by decide +kernel
theorem d_Lor_addOrder_16 : decode b_Lor_addOrder 16 = .ok (.if_icmp .ge 23, 3) := by decide +kernel
theorem d_Lor_addOrder_19 : decode b_Lor_addOrder 19 = .ok (.aload_n 0, 1) := by decide +kernel
theorem d_Lor_addOrder_20 : decode b_Lor_addOrder 20 = .ok (.getfield 9, 3) := by decide +kernel
theorem d_Lor_addOrder_23 : decode b_Lor_addOrder 23 = .ok (.aload_n 0, 1) := by decide +kernel
theorem d_Lor_addOrder_24 : decode b_Lor_addOrder 24 = .ok (.getfield 23, 3) := by decide +kernel
theorem d_Lor_addOrder_27 : decode b_Lor_addOrder 27 = .ok (.iload_n 1, 1) := by decide +kernel
theorem d_Lor_addOrder_28 : decode b_Lor_addOrder 28 = .ok (.iastore, 1) := by decide +kernel
theorem d_Lor_addOrder_29 : decode b_Lor_addOrder 29 = .ok (.aload_n 0, 1) := by decide +kernel
theorem d_Lor_addOrder_30 : decode b_Lor_addOrder 30 = .ok (.dup, 1) := by decide +kernel
theorem d_Lor_addOrder_31 : decode b_Lor_addOrder 31 = .ok (.getfield 23, 3) := by decide +kernel
theorem d_Lor_addOrder_34 : decode b_Lor_addOrder 34 = .ok (.iconst 1, 1) := by decide +kernel
theorem d_Lor_addOrder_35 : decode b_Lor_addOrder 35 = .ok (.iadd, 1) := by decide +kernel
theorem d_Lor_addOrder_36 : decode b_Lor_addOrder 36 = .ok (.putfield 23, 3) := by decide +kernel
theorem d_Lor_addOrder_39 : decode b_Lor_addOrder 39 = .ok (.return_, 1) := by decide +kernel
theorem d_Lor_firstOrder_0 : decode b_Lor_firstOrder 0 = .ok (.aload_n 0, 1) := by decide +kernel
theorem d_Lor_firstOrder_1 : decode b_Lor_firstOrder 1 = .ok (.getfield 23, 3) := by decide +kernel
theorem d_Lor_firstOrder_4 : decode b_Lor_firstOrder 4 = .ok (.ifCond .le 20, 3) := by decide +kernel
theorem d_Lor_firstOrder_7 : decode b_Lor_firstOrder 7 = .ok (.aload_n 0, 1) := by decide +kernel
theorem d_Lor_firstOrder_8 : decode b_Lor_firstOrder 8 = .ok (.getfield 9, 3) := by decide +kernel
theorem d_Lor_firstOrder_11 : decode b_Lor_firstOrder 11 = .ok (.arraylength, 1) := by decide +kernel
theorem d_Lor_firstOrder_12 : decode b_Lor_firstOrder 12 = .ok (.ifCond .le 12, 3) := by decide +kernel
theorem d_Lor_firstOrder_15 : decode b_Lor_firstOrder 15 = .ok (.aload_n 0, 1) := by decide +kernel
theorem d_Lor_firstOrder_16 : decode b_Lor_firstOrder 16 = .ok (.getfield 9, 3) := by decide +kernel
theorem d_Lor_firstOrder_19 : decode b_Lor_firstOrder 19 = .ok (.iconst 0, 1) := by decide +kernel
theorem d_Lor_firstOrder_20 : decode b_Lor_firstOrder 20 = .ok (.iaload, 1) := by decide +kernel
theorem d_Lor_firstOrder_21 : decode b_Lor_firstOrder 21 = .ok (.goto 4, 3) := by decide +kernel
theorem d_Lor_firstOrder_24 : decode b_Lor_firstOrder 24 = .ok (.iconst (-1), 1) := by decide +kernel
theorem d_Lor_firstOrder_25 : decode b_Lor_firstOrder 25 = .ok (.ireturn, 1) := by decide +kernel
theorem d_Lor_dropFirstOrder_0 : decode b_Lor_dropFirstOrder 0 = .ok (.iconst 1, 1) := by decide +kernel
theorem d_Lor_dropFirstOrder_1 : decode b_Lor_dropFirstOrder 1 = .ok (.istore_n 1, 1) := by decide +kernel
theorem d_Lor_dropFirstOrder_2 : decode b_Lor_dropFirstOrder 2 = .ok (.iload_n 1, 1) := by decide +kernel
theorem d_Lor_dropFirstOrder_3 : decode b_Lor_dropFirstOrder 3 = .ok (.aload_n 0, 1) := by decide +kernel
theorem d_Lor_dropFirstOrder_4 : decode b_Lor_dropFirstOrder 4 = .ok (.getfield 9, 3) := by decide +kernel
theorem d_Lor_dropFirstOrder_7 : decode b_Lor_dropFirstOrder 7 = .ok (.arraylength, 1) := by decide +kernel
theorem d_Lor_dropFirstOrder_8 : decode b_Lor_dropFirstOrder 8 = .ok (.if_icmp .ge 23, 3) := by decide +kernel
theorem d_Lor_dropFirstOrder_11 : decode b_Lor_dropFirstOrder 11 = .ok (.aload_n 0, 1) := by decide +kernel
theorem d_Lor_dropFirstOrder_12 : decode b_Lor_dropFirstOrder 12 = .ok (.getfield 9, 3) := by decide +kernel
theorem d_Lor_dropFirstOrder_15 : decode b_Lor_dropFirstOrder 15 = .ok (.iload_n 1, 1) := by decide +kernel
theorem d_Lor_dropFirstOrder_16 : decode b_Lor_dropFirstOrder 16 = .ok (.iconst 1, 1) := by decide +kernel
theorem d_Lor_dropFirstOrder_17 : decode b_Lor_dropFirstOrder 17 = .ok (.isub, 1) := by decide +kernel
theorem d_Lor_dropFirstOrder_18 : decode b_Lor_dropFirstOrder 18 = .ok (.aload_n 0, 1) := by decide +kernel
theorem d_Lor_dropFirstOrder_19 : decode b_Lor_dropFirstOrder 19 = .ok (.getfield 9, 3) := by decide +kernel
theorem d_Lor_dropFirstOrder_22 : decode b_Lor_dropFirstOrder 22 = .ok (.iload_n 1, 1) := by decide +kernel
theorem d_Lor_dropFirstOrder_23 : decode b_Lor_dropFirstOrder 23 = .ok (.iaload, 1) := by decide +kernel
theorem d_Lor_dropFirstOrder_24 : decode b_Lor_dropFirstOrder 24 = .ok (.iastore, 1) := by decide +kernel
theorem d_Lor_dropFirstOrder_25 : decode b_Lor_dropFirstOrder 25 = .ok (.iinc 1 1, 3) := by decide +kernel
theorem d_Lor_dropFirstOrder_28 : decode b_Lor_dropFirstOrder 28 = .ok (.goto (-26), 3) := by decide +kernel
theorem d_Lor_dropFirstOrder_31 : decode b_Lor_dropFirstOrder 31 = .ok (.aload_n 0, 1) := by decide +kernel
theorem d_Lor_dropFirstOrder_32 : decode b_Lor_dropFirstOrder 32 = .ok (.iconst 0, 1) := by decide +kernel
theorem d_Lor_dropFirstOrder_33 : decode b_Lor_dropFirstOrder 33 = .ok (.aload_n 0, 1) := by decide +kernel
theorem d_Lor_dropFirstOrder_34 : decode b_Lor_dropFirstOrder 34 = .ok (.getfield 23, 3) := by decide +kernel
theorem d_Lor_dropFirstOrder_37 : decode b_Lor_dropFirstOrder 37 = .ok (.iconst 1, 1) := by decide +kernel
theorem d_Lor_dropFirstOrder_38 : decode b_Lor_dropFirstOrder 38 = .ok (.isub, 1) := by decide +kernel
theorem d_Lor_dropFirstOrder_39 : decode b_Lor_dropFirstOrder 39 = .ok (.invokestatic 26, 3) := by decide +kernel
theorem d_Lor_dropFirstOrder_42 : decode b_Lor_dropFirstOrder 42 = .ok (.putfield 23, 3) := by decide +kernel
theorem d_Lor_dropFirstOrder_45 : decode b_Lor_dropFirstOrder 45 = .ok (.return_, 1) := by decide +kernel
theorem d_Lor_arrive_0 : decode b_Lor_arrive 0 = .ok (.aload_n 0, 1) := by decide +kernel
theorem d_Lor_arrive_1 : decode b_Lor_arrive 1 = .ok (.aload_n 0, 1) := by decide +kernel
theorem d_Lor_arrive_2 : decode b_Lor_arrive 2 = .ok (.getfield 32, 3) := by decide +kernel
theorem d_Lor_arrive_5 : decode b_Lor_arrive 5 = .ok (.putfield 35, 3) := by decide +kernel
theorem d_Lor_arrive_8 : decode b_Lor_arrive 8 = .ok (.aload_n 0, 1) := by decide +kernel
theorem d_Lor_arrive_9 : decode b_Lor_arrive 9 = .ok (.iconst 0, 1) := by decide +kernel
theorem d_Lor_arrive_10 : decode b_Lor_arrive 10 = .ok (.putfield 38, 3) := by decide +kernel
theorem d_Lor_arrive_13 : decode b_Lor_arrive 13 = .ok (.aload_n 0, 1) := by decide +kernel
theorem d_Lor_arrive_14 : decode b_Lor_arrive 14 = .ok (.invokevirtual 41, 3) := by decide +kernel
theorem d_Lor_arrive_17 : decode b_Lor_arrive 17 = .ok (.return_, 1) := by decide +kernel
theorem d_Lor_fact_0 : decode b_Lor_fact 0 = .ok (.iload_n 1, 1) := by decide +kernel
theorem d_Lor_fact_1 : decode b_Lor_fact 1 = .ok (.tableswitch 107 0 7 #[47, 52, 69, 74, 79, 84, 97, 102], 47) := by decide +kernel
theorem d_Lor_fact_48 : decode b_Lor_fact 48 = .ok (.aload_n 0, 1) := by decide +kernel
theorem d_Lor_fact_49 : decode b_Lor_fact 49 = .ok (.getfield 35, 3) := by decide +kernel
theorem d_Lor_fact_52 : decode b_Lor_fact 52 = .ok (.ireturn, 1) := by decide +kernel
theorem d_Lor_fact_53 : decode b_Lor_fact 53 = .ok (.aload_n 0, 1) := by decide +kernel
theorem d_Lor_fact_54 : decode b_Lor_fact 54 = .ok (.getfield 35, 3) := by decide +kernel
theorem d_Lor_fact_57 : decode b_Lor_fact 57 = .ok (.iconst (-1), 1) := by decide +kernel
theorem d_Lor_fact_58 : decode b_Lor_fact 58 = .ok (.if_icmp .ne 10, 3) := by decide +kernel
theorem d_Lor_fact_61 : decode b_Lor_fact 61 = .ok (.aload_n 0, 1) := by decide +kernel
theorem d_Lor_fact_62 : decode b_Lor_fact 62 = .ok (.invokevirtual 44, 3) := by decide +kernel
theorem d_Lor_fact_65 : decode b_Lor_fact 65 = .ok (.goto 4, 3) := by decide +kernel
theorem d_Lor_fact_68 : decode b_Lor_fact 68 = .ok (.iconst (-1), 1) := by decide +kernel
theorem d_Lor_fact_69 : decode b_Lor_fact 69 = .ok (.ireturn, 1) := by decide +kernel
theorem d_Lor_fact_70 : decode b_Lor_fact 70 = .ok (.aload_n 0, 1) := by decide +kernel
theorem d_Lor_fact_71 : decode b_Lor_fact 71 = .ok (.getfield 38, 3) := by decide +kernel
theorem d_Lor_fact_74 : decode b_Lor_fact 74 = .ok (.ireturn, 1) := by decide +kernel
theorem d_Lor_fact_75 : decode b_Lor_fact 75 = .ok (.aload_n 0, 1) := by decide +kernel
theorem d_Lor_fact_76 : decode b_Lor_fact 76 = .ok (.getfield 48, 3) := by decide +kernel
theorem d_Lor_fact_79 : decode b_Lor_fact 79 = .ok (.ireturn, 1) := by decide +kernel
theorem d_Lor_fact_80 : decode b_Lor_fact 80 = .ok (.aload_n 0, 1) := by decide +kernel
theorem d_Lor_fact_81 : decode b_Lor_fact 81 = .ok (.getfield 15, 3) := by decide +kernel
theorem d_Lor_fact_84 : decode b_Lor_fact 84 = .ok (.ireturn, 1) := by decide +kernel
theorem d_Lor_fact_85 : decode b_Lor_fact 85 = .ok (.aload_n 0, 1) := by decide +kernel
theorem d_Lor_fact_86 : decode b_Lor_fact 86 = .ok (.getfield 19, 3) := by decide +kernel
theorem d_Lor_fact_89 : decode b_Lor_fact 89 = .ok (.ifCond .eq 7, 3) := by decide +kernel
theorem d_Lor_fact_92 : decode b_Lor_fact 92 = .ok (.iconst 1, 1) := by decide +kernel
theorem d_Lor_fact_93 : decode b_Lor_fact 93 = .ok (.goto 4, 3) := by decide +kernel
theorem d_Lor_fact_96 : decode b_Lor_fact 96 = .ok (.iconst 0, 1) := by decide +kernel
theorem d_Lor_fact_97 : decode b_Lor_fact 97 = .ok (.ireturn, 1) := by decide +kernel
theorem d_Lor_fact_98 : decode b_Lor_fact 98 = .ok (.aload_n 0, 1) := by decide +kernel
theorem d_Lor_fact_99 : decode b_Lor_fact 99 = .ok (.getfield 51, 3) := by decide +kernel
theorem d_Lor_fact_102 : decode b_Lor_fact 102 = .ok (.ireturn, 1) := by decide +kernel
theorem d_Lor_fact_103 : decode b_Lor_fact 103 = .ok (.aload_n 0, 1) := by decide +kernel
theorem d_Lor_fact_104 : decode b_Lor_fact 104 = .ok (.getfield 23, 3) := by decide +kernel
theorem d_Lor_fact_107 : decode b_Lor_fact 107 = .ok (.ireturn, 1) := by decide +kernel
theorem d_Lor_fact_108 : decode b_Lor_fact 108 = .ok (.aload_n 0, 1) := by decide +kernel
theorem d_Lor_fact_109 : decode b_Lor_fact 109 = .ok (.getfield 54, 3) := by decide +kernel
theorem d_Lor_fact_112 : decode b_Lor_fact 112 = .ok (.ireturn, 1) := by decide +kernel
theorem d_Road_init_0 : decode b_Road_init 0 = .ok (.aload_n 0, 1) := by decide +kernel
theorem d_Road_init_1 : decode b_Road_init 1 = .ok (.invokespecial 3, 3) := by decide +kernel
theorem d_Road_init_4 : decode b_Road_init 4 = .ok (.aload_n 0, 1) := by decide +kernel
theorem d_Road_init_5 : decode b_Road_init 5 = .ok (.new 9, 3) := by decide +kernel
theorem d_Road_init_8 : decode b_Road_init 8 = .ok (.dup, 1) := by decide +kernel
theorem d_Road_init_9 : decode b_Road_init 9 = .ok (.invokespecial 11, 3) := by decide +kernel
theorem d_Road_init_12 : decode b_Road_init 12 = .ok (.putfield 12, 3) := by decide +kernel
theorem d_Road_init_15 : decode b_Road_init 15 = .ok (.aload_n 0, 1) := by decide +kernel
theorem d_Road_init_16 : decode b_Road_init 16 = .ok (.sipush 200, 3) := by decide +kernel
theorem d_Road_init_19 : decode b_Road_init 19 = .ok (.newarray .boolean, 2) := by decide +kernel
theorem d_Road_init_21 : decode b_Road_init 21 = .ok (.putfield 18, 3) := by decide +kernel
theorem d_Road_init_24 : decode b_Road_init 24 = .ok (.aload_n 0, 1) := by decide +kernel
theorem d_Road_init_25 : decode b_Road_init 25 = .ok (.sipush 200, 3) := by decide +kernel
theorem d_Road_init_28 : decode b_Road_init 28 = .ok (.newarray .boolean, 2) := by decide +kernel
theorem d_Road_init_30 : decode b_Road_init 30 = .ok (.putfield 22, 3) := by decide +kernel
theorem d_Road_init_33 : decode b_Road_init 33 = .ok (.aload_n 0, 1) := by decide +kernel
theorem d_Road_init_34 : decode b_Road_init 34 = .ok (.iconst (-1), 1) := by decide +kernel
theorem d_Road_init_35 : decode b_Road_init 35 = .ok (.putfield 25, 3) := by decide +kernel
theorem d_Road_init_38 : decode b_Road_init 38 = .ok (.aload_n 0, 1) := by decide +kernel
theorem d_Road_init_39 : decode b_Road_init 39 = .ok (.iload_n 1, 1) := by decide +kernel
theorem d_Road_init_40 : decode b_Road_init 40 = .ok (.putfield 29, 3) := by decide +kernel
theorem d_Road_init_43 : decode b_Road_init 43 = .ok (.aload_n 0, 1) := by decide +kernel
theorem d_Road_init_44 : decode b_Road_init 44 = .ok (.iload_n 2, 1) := by decide +kernel
theorem d_Road_init_45 : decode b_Road_init 45 = .ok (.putfield 32, 3) := by decide +kernel
theorem d_Road_init_48 : decode b_Road_init 48 = .ok (.aload_n 0, 1) := by decide +kernel
theorem d_Road_init_49 : decode b_Road_init 49 = .ok (.iload_n 3, 1) := by decide +kernel
theorem d_Road_init_50 : decode b_Road_init 50 = .ok (.putfield 35, 3) := by decide +kernel
theorem d_Road_init_53 : decode b_Road_init 53 = .ok (.aload_n 0, 1) := by decide +kernel
theorem d_Road_init_54 : decode b_Road_init 54 = .ok (.iload 4, 2) := by decide +kernel
theorem d_Road_init_56 : decode b_Road_init 56 = .ok (.putfield 38, 3) := by decide +kernel
theorem d_Road_init_59 : decode b_Road_init 59 = .ok (.aload_n 0, 1) := by decide +kernel
theorem d_Road_init_60 : decode b_Road_init 60 = .ok (.iload 5, 2) := by decide +kernel
theorem d_Road_init_62 : decode b_Road_init 62 = .ok (.putfield 41, 3) := by decide +kernel
theorem d_Road_init_65 : decode b_Road_init 65 = .ok (.aload_n 0, 1) := by decide +kernel
theorem d_Road_init_66 : decode b_Road_init 66 = .ok (.iload 6, 2) := by decide +kernel
theorem d_Road_init_68 : decode b_Road_init 68 = .ok (.putfield 44, 3) := by decide +kernel
theorem d_Road_init_71 : decode b_Road_init 71 = .ok (.aload_n 0, 1) := by decide +kernel
theorem d_Road_init_72 : decode b_Road_init 72 = .ok (.iload 7, 2) := by decide +kernel
theorem d_Road_init_74 : decode b_Road_init 74 = .ok (.putfield 47, 3) := by decide +kernel
theorem d_Road_init_77 : decode b_Road_init 77 = .ok (.return_, 1) := by decide +kernel
theorem d_Road_goal_0 : decode b_Road_goal 0 = .ok (.iload_n 1, 1) := by decide +kernel
theorem d_Road_goal_1 : decode b_Road_goal 1 = .ok (.aload_n 0, 1) := by decide +kernel
theorem d_Road_goal_2 : decode b_Road_goal 2 = .ok (.getfield 41, 3) := by decide +kernel
theorem d_Road_goal_5 : decode b_Road_goal 5 = .ok (.iconst 3, 1) := by decide +kernel
theorem d_Road_goal_6 : decode b_Road_goal 6 = .ok (.idiv, 1) := by decide +kernel
theorem d_Road_goal_7 : decode b_Road_goal 7 = .ok (.isub, 1) := by decide +kernel
theorem d_Road_goal_8 : decode b_Road_goal 8 = .ok (.aload_n 0, 1) := by decide +kernel
theorem d_Road_goal_9 : decode b_Road_goal 9 = .ok (.getfield 44, 3) := by decide +kernel
theorem d_Road_goal_12 : decode b_Road_goal 12 = .ok (.isub, 1) := by decide +kernel
theorem d_Road_goal_13 : decode b_Road_goal 13 = .ok (.iload_n 2, 1) := by decide +kernel
theorem d_Road_goal_14 : decode b_Road_goal 14 = .ok (.ifCond .eq 7, 3) := by decide +kernel
theorem d_Road_goal_17 : decode b_Road_goal 17 = .ok (.iconst 2, 1) := by decide +kernel
theorem d_Road_goal_18 : decode b_Road_goal 18 = .ok (.goto 4, 3) := by decide +kernel
theorem d_Road_goal_21 : decode b_Road_goal 21 = .ok (.iconst 0, 1) := by decide +kernel
theorem d_Road_goal_22 : decode b_Road_goal 22 = .ok (.isub, 1) := by decide +kernel
theorem d_Road_goal_23 : decode b_Road_goal 23 = .ok (.ireturn, 1) := by decide +kernel
theorem d_Road_notice_0 : decode b_Road_notice 0 = .ok (.aload_n 0, 1) := by decide +kernel
theorem d_Road_notice_1 : decode b_Road_notice 1 = .ok (.getfield 38, 3) := by decide +kernel
theorem d_Road_notice_4 : decode b_Road_notice 4 = .ok (.ifCond .ne 7, 3) := by decide +kernel
theorem d_Road_notice_7 : decode b_Road_notice 7 = .ok (.iconst 4, 1) := by decide +kernel
theorem d_Road_notice_8 : decode b_Road_notice 8 = .ok (.goto 18, 3) := by decide +kernel
theorem d_Road_notice_11 : decode b_Road_notice 11 = .ok (.aload_n 0, 1) := by decide +kernel
theorem d_Road_notice_12 : decode b_Road_notice 12 = .ok (.getfield 38, 3) := by decide +kernel
theorem d_Road_notice_15 : decode b_Road_notice 15 = .ok (.iconst 1, 1) := by decide +kernel
theorem d_Road_notice_16 : decode b_Road_notice 16 = .ok (.if_icmp .ne 8, 3) := by decide +kernel
theorem d_Road_notice_19 : decode b_Road_notice 19 = .ok (.bipush 8, 2) := by decide +kernel
theorem d_Road_notice_21 : decode b_Road_notice 21 = .ok (.goto 5, 3) := by decide +kernel
theorem d_Road_notice_24 : decode b_Road_notice 24 = .ok (.bipush 16, 2) := by decide +kernel
theorem d_Road_notice_26 : decode b_Road_notice 26 = .ok (.ireturn, 1) := by decide +kernel
theorem d_Road_joins_0 : decode b_Road_joins 0 = .ok (.iload_n 1, 1) := by decide +kernel
theorem d_Road_joins_1 : decode b_Road_joins 1 = .ok (.aload_n 0, 1) := by decide +kernel
theorem d_Road_joins_2 : decode b_Road_joins 2 = .ok (.getfield 29, 3) := by decide +kernel
theorem d_Road_joins_5 : decode b_Road_joins 5 = .ok (.if_icmp .eq 11, 3) := by decide +kernel
theorem d_Road_joins_8 : decode b_Road_joins 8 = .ok (.iload_n 1, 1) := by decide +kernel
theorem d_Road_joins_9 : decode b_Road_joins 9 = .ok (.aload_n 0, 1) := by decide +kernel
theorem d_Road_joins_10 : decode b_Road_joins 10 = .ok (.getfield 32, 3) := by decide +kernel
theorem d_Road_joins_13 : decode b_Road_joins 13 = .ok (.if_icmp .ne 7, 3) := by decide +kernel
theorem d_Road_joins_16 : decode b_Road_joins 16 = .ok (.iconst 1, 1) := by decide +kernel
theorem d_Road_joins_17 : decode b_Road_joins 17 = .ok (.goto 4, 3) := by decide +kernel
theorem d_Road_joins_20 : decode b_Road_joins 20 = .ok (.iconst 0, 1) := by decide +kernel
theorem d_Road_joins_21 : decode b_Road_joins 21 = .ok (.ireturn, 1) := by decide +kernel
theorem d_Road_otherEnd_0 : decode b_Road_otherEnd 0 = .ok (.iload_n 1, 1) := by decide +kernel
theorem d_Road_otherEnd_1 : decode b_Road_otherEnd 1 = .ok (.aload_n 0, 1) := by decide +kernel
theorem d_Road_otherEnd_2 : decode b_Road_otherEnd 2 = .ok (.getfield 29, 3) := by decide +kernel
theorem d_Road_otherEnd_5 : decode b_Road_otherEnd 5 = .ok (.if_icmp .ne 10, 3) := by decide +kernel
theorem d_Road_otherEnd_8 : decode b_Road_otherEnd 8 = .ok (.aload_n 0, 1) := by decide +kernel
theorem d_Road_otherEnd_9 : decode b_Road_otherEnd 9 = .ok (.getfield 32, 3) := by decide +kernel
theorem d_Road_otherEnd_12 : decode b_Road_otherEnd 12 = .ok (.goto 7, 3) := by decide +kernel
theorem d_Road_otherEnd_15 : decode b_Road_otherEnd 15 = .ok (.aload_n 0, 1) := by decide +kernel
theorem d_Road_otherEnd_16 : decode b_Road_otherEnd 16 = .ok (.getfield 29, 3) := by decide +kernel
theorem d_Road_otherEnd_19 : decode b_Road_otherEnd 19 = .ok (.ireturn, 1) := by decide +kernel
theorem d_Road_weatherQuarter_0 : decode b_Road_weatherQuarter 0 = .ok (.aload_n 1, 1) := by decide +kernel
theorem d_Road_weatherQuarter_1 : decode b_Road_weatherQuarter 1 = .ok (.aload_n 0, 1) := by decide +kernel
theorem d_Road_weatherQuarter_2 : decode b_Road_weatherQuarter 2 = .ok (.aload_n 2, 1) := by decide +kernel
theorem d_Road_weatherQuarter_3 : decode b_Road_weatherQuarter 3 = .ok (.getfield 51, 3) := by decide +kernel
theorem d_Road_weatherQuarter_6 : decode b_Road_weatherQuarter 6 = .ok (.aload_n 2, 1) := by decide +kernel
theorem d_Road_weatherQuarter_7 : decode b_Road_weatherQuarter 7 = .ok (.getfield 56, 3) := by decide +kernel
theorem d_Road_weatherQuarter_10 : decode b_Road_weatherQuarter 10 = .ok (.invokevirtual 59, 3) := by decide +kernel
theorem d_Road_weatherQuarter_13 : decode b_Road_weatherQuarter 13 = .ok (.aload_n 0, 1) := by decide +kernel
theorem d_Road_weatherQuarter_14 : decode b_Road_weatherQuarter 14 = .ok (.getfield 47, 3) := by decide +kernel
theorem d_Road_weatherQuarter_17 : decode b_Road_weatherQuarter 17 = .ok (.ifCond .eq 7, 3) := by decide +kernel
theorem d_Road_weatherQuarter_20 : decode b_Road_weatherQuarter 20 = .ok (.iconst 2, 1) := by decide +kernel
theorem d_Road_weatherQuarter_21 : decode b_Road_weatherQuarter 21 = .ok (.goto 4, 3) := by decide +kernel
theorem d_Road_weatherQuarter_24 : decode b_Road_weatherQuarter 24 = .ok (.iconst 1, 1) := by decide +kernel
theorem d_Road_weatherQuarter_25 : decode b_Road_weatherQuarter 25 = .ok (.invokevirtual 63, 3) := by decide +kernel
theorem d_Road_weatherQuarter_28 : decode b_Road_weatherQuarter 28 = .ok (.aload_n 1, 1) := by decide +kernel
theorem d_Road_weatherQuarter_29 : decode b_Road_weatherQuarter 29 = .ok (.dup, 1) := by decide +kernel
theorem d_Road_weatherQuarter_30 : decode b_Road_weatherQuarter 30 = .ok (.getfield 67, 3) := by decide +kernel
theorem d_Road_weatherQuarter_33 : decode b_Road_weatherQuarter 33 = .ok (.aload_n 2, 1) := by decide +kernel
theorem d_Road_weatherQuarter_34 : decode b_Road_weatherQuarter 34 = .ok (.getfield 70, 3) := by decide +kernel
theorem d_Road_weatherQuarter_37 : decode b_Road_weatherQuarter 37 = .ok (.iadd, 1) := by decide +kernel
theorem d_Road_weatherQuarter_38 : decode b_Road_weatherQuarter 38 = .ok (.putfield 67, 3) := by decide +kernel
theorem d_Road_weatherQuarter_41 : decode b_Road_weatherQuarter 41 = .ok (.aload_n 1, 1) := by decide +kernel
theorem d_Road_weatherQuarter_42 : decode b_Road_weatherQuarter 42 = .ok (.dup, 1) := by decide +kernel
theorem d_Road_weatherQuarter_43 : decode b_Road_weatherQuarter 43 = .ok (.getfield 73, 3) := by decide +kernel
theorem d_Road_weatherQuarter_46 : decode b_Road_weatherQuarter 46 = .ok (.aload_n 2, 1) := by decide +kernel
theorem d_Road_weatherQuarter_47 : decode b_Road_weatherQuarter 47 = .ok (.getfield 76, 3) := by decide +kernel
theorem d_Road_weatherQuarter_50 : decode b_Road_weatherQuarter 50 = .ok (.iadd, 1) := by decide +kernel
theorem d_Road_weatherQuarter_51 : decode b_Road_weatherQuarter 51 = .ok (.putfield 73, 3) := by decide +kernel
theorem d_Road_weatherQuarter_54 : decode b_Road_weatherQuarter 54 = .ok (.aload_n 1, 1) := by decide +kernel
theorem d_Road_weatherQuarter_55 : decode b_Road_weatherQuarter 55 = .ok (.invokevirtual 79, 3) := by decide +kernel
theorem d_Road_weatherQuarter_58 : decode b_Road_weatherQuarter 58 = .ok (.aload_n 1, 1) := by decide +kernel
theorem d_Road_weatherQuarter_59 : decode b_Road_weatherQuarter 59 = .ok (.invokevirtual 82, 3) := by decide +kernel
theorem d_Road_weatherQuarter_62 : decode b_Road_weatherQuarter 62 = .ok (.aload_n 0, 1) := by decide +kernel
theorem d_Road_weatherQuarter_63 : decode b_Road_weatherQuarter 63 = .ok (.getfield 38, 3) := by decide +kernel
theorem d_Road_weatherQuarter_66 : decode b_Road_weatherQuarter 66 = .ok (.ifCond .ne 15, 3) := by decide +kernel
theorem d_Road_weatherQuarter_69 : decode b_Road_weatherQuarter 69 = .ok (.aload_n 1, 1) := by decide +kernel
theorem d_Road_weatherQuarter_70 : decode b_Road_weatherQuarter 70 = .ok (.getfield 67, 3) := by decide +kernel
theorem d_Road_weatherQuarter_73 : decode b_Road_weatherQuarter 73 = .ok (.ifCond .le 8, 3) := by decide +kernel
theorem d_Road_weatherQuarter_76 : decode b_Road_weatherQuarter 76 = .ok (.aload_n 1, 1) := by decide +kernel
theorem d_Road_weatherQuarter_77 : decode b_Road_weatherQuarter 77 = .ok (.iconst 1, 1) := by decide +kernel
theorem d_Road_weatherQuarter_78 : decode b_Road_weatherQuarter 78 = .ok (.invokevirtual 85, 3) := by decide +kernel
theorem d_Road_weatherQuarter_81 : decode b_Road_weatherQuarter 81 = .ok (.aload_n 2, 1) := by decide +kernel
theorem d_Road_weatherQuarter_82 : decode b_Road_weatherQuarter 82 = .ok (.getfield 89, 3) := by decide +kernel
theorem d_Road_weatherQuarter_85 : decode b_Road_weatherQuarter 85 = .ok (.iconst 2, 1) := by decide +kernel
theorem d_Road_weatherQuarter_86 : decode b_Road_weatherQuarter 86 = .ok (.if_icmp .lt 15, 3) := by decide +kernel
theorem d_Road_weatherQuarter_89 : decode b_Road_weatherQuarter 89 = .ok (.aload_n 1, 1) := by decide +kernel
theorem d_Road_weatherQuarter_90 : decode b_Road_weatherQuarter 90 = .ok (.getfield 67, 3) := by decide +kernel
theorem d_Road_weatherQuarter_93 : decode b_Road_weatherQuarter 93 = .ok (.ifCond .ne 8, 3) := by decide +kernel
theorem d_Road_weatherQuarter_96 : decode b_Road_weatherQuarter 96 = .ok (.aload_n 1, 1) := by decide +kernel
theorem d_Road_weatherQuarter_97 : decode b_Road_weatherQuarter 97 = .ok (.iconst 2, 1) := by decide +kernel
theorem d_Road_weatherQuarter_98 : decode b_Road_weatherQuarter 98 = .ok (.invokevirtual 85, 3) := by decide +kernel
theorem d_Road_weatherQuarter_101 : decode b_Road_weatherQuarter 101 = .ok (.return_, 1) := by decide +kernel
theorem d_Road_noteSlippery_0 : decode b_Road_noteSlippery 0 = .ok (.aload_n 0, 1) := by decide +kernel
theorem d_Road_noteSlippery_1 : decode b_Road_noteSlippery 1 = .ok (.getfield 12, 3) := by decide +kernel
theorem d_Road_noteSlippery_4 : decode b_Road_noteSlippery 4 = .ok (.invokevirtual 92, 3) := by decide +kernel
theorem d_Road_noteSlippery_7 : decode b_Road_noteSlippery 7 = .ok (.ifCond .eq 33, 3) := by decide +kernel
theorem d_Road_noteSlippery_10 : decode b_Road_noteSlippery 10 = .ok (.iload_n 1, 1) := by decide +kernel
theorem d_Road_noteSlippery_11 : decode b_Road_noteSlippery 11 = .ok (.ifCond .lt 29, 3) := by decide +kernel
theorem d_Road_noteSlippery_14 : decode b_Road_noteSlippery 14 = .ok (.iload_n 1, 1) := by decide +kernel
theorem d_Road_noteSlippery_15 : decode b_Road_noteSlippery 15 = .ok (.aload_n 0, 1) := by decide +kernel
theorem d_Road_noteSlippery_16 : decode b_Road_noteSlippery 16 = .ok (.getfield 18, 3) := by decide +kernel
theorem d_Road_noteSlippery_19 : decode b_Road_noteSlippery 19 = .ok (.arraylength, 1) := by decide +kernel
theorem d_Road_noteSlippery_20 : decode b_Road_noteSlippery 20 = .ok (.if_icmp .ge 20, 3) := by decide +kernel
theorem d_Road_noteSlippery_23 : decode b_Road_noteSlippery 23 = .ok (.aload_n 0, 1) := by decide +kernel
theorem d_Road_noteSlippery_24 : decode b_Road_noteSlippery 24 = .ok (.getfield 18, 3) := by decide +kernel
theorem d_Road_noteSlippery_27 : decode b_Road_noteSlippery 27 = .ok (.iload_n 1, 1) := by decide +kernel
theorem d_Road_noteSlippery_28 : decode b_Road_noteSlippery 28 = .ok (.iconst 1, 1) := by decide +kernel
theorem d_Road_noteSlippery_29 : decode b_Road_noteSlippery 29 = .ok (.bastore, 1) := by decide +kernel
theorem d_Road_noteSlippery_30 : decode b_Road_noteSlippery 30 = .ok (.aload_n 0, 1) := by decide +kernel
theorem d_Road_noteSlippery_31 : decode b_Road_noteSlippery 31 = .ok (.dup, 1) := by decide +kernel
theorem d_Road_noteSlippery_32 : decode b_Road_noteSlippery 32 = .ok (.getfield 96, 3) := by decide +kernel
theorem d_Road_noteSlippery_35 : decode b_Road_noteSlippery 35 = .ok (.iconst 1, 1) := by decide +kernel
theorem d_Road_noteSlippery_36 : decode b_Road_noteSlippery 36 = .ok (.iadd, 1) := by decide +kernel
theorem d_Road_noteSlippery_37 : decode b_Road_noteSlippery 37 = .ok (.putfield 96, 3) := by decide +kernel
theorem d_Road_noteSlippery_40 : decode b_Road_noteSlippery 40 = .ok (.return_, 1) := by decide +kernel
theorem d_Road_noteTreated_0 : decode b_Road_noteTreated 0 = .ok (.iload_n 1, 1) := by decide +kernel
theorem d_Road_noteTreated_1 : decode b_Road_noteTreated 1 = .ok (.ifCond .lt 24, 3) := by decide +kernel
theorem d_Road_noteTreated_4 : decode b_Road_noteTreated 4 = .ok (.iload_n 1, 1) := by decide +kernel
theorem d_Road_noteTreated_5 : decode b_Road_noteTreated 5 = .ok (.aload_n 0, 1) := by decide +kernel
theorem d_Road_noteTreated_6 : decode b_Road_noteTreated 6 = .ok (.getfield 22, 3) := by decide +kernel
theorem d_Road_noteTreated_9 : decode b_Road_noteTreated 9 = .ok (.arraylength, 1) := by decide +kernel
theorem d_Road_noteTreated_10 : decode b_Road_noteTreated 10 = .ok (.if_icmp .ge 15, 3) := by decide +kernel
theorem d_Road_noteTreated_13 : decode b_Road_noteTreated 13 = .ok (.aload_n 0, 1) := by decide +kernel
theorem d_Road_noteTreated_14 : decode b_Road_noteTreated 14 = .ok (.getfield 22, 3) := by decide +kernel
theorem d_Road_noteTreated_17 : decode b_Road_noteTreated 17 = .ok (.iload_n 1, 1) := by decide +kernel
theorem d_Road_noteTreated_18 : decode b_Road_noteTreated 18 = .ok (.iconst 1, 1) := by decide +kernel
theorem d_Road_noteTreated_19 : decode b_Road_noteTreated 19 = .ok (.bastore, 1) := by decide +kernel
theorem d_Road_noteTreated_20 : decode b_Road_noteTreated 20 = .ok (.aload_n 0, 1) := by decide +kernel
theorem d_Road_noteTreated_21 : decode b_Road_noteTreated 21 = .ok (.iload_n 1, 1) := by decide +kernel
theorem d_Road_noteTreated_22 : decode b_Road_noteTreated 22 = .ok (.putfield 25, 3) := by decide +kernel
theorem d_Road_noteTreated_25 : decode b_Road_noteTreated 25 = .ok (.return_, 1) := by decide +kernel
theorem d_Road_wasSlippery_0 : decode b_Road_wasSlippery 0 = .ok (.iload_n 1, 1) := by decide +kernel
theorem d_Road_wasSlippery_1 : decode b_Road_wasSlippery 1 = .ok (.ifCond .lt 25, 3) := by decide +kernel
theorem d_Road_wasSlippery_4 : decode b_Road_wasSlippery 4 = .ok (.iload_n 1, 1) := by decide +kernel
theorem d_Road_wasSlippery_5 : decode b_Road_wasSlippery 5 = .ok (.aload_n 0, 1) := by decide +kernel
theorem d_Road_wasSlippery_6 : decode b_Road_wasSlippery 6 = .ok (.getfield 18, 3) := by decide +kernel
theorem d_Road_wasSlippery_9 : decode b_Road_wasSlippery 9 = .ok (.arraylength, 1) := by decide +kernel
theorem d_Road_wasSlippery_10 : decode b_Road_wasSlippery 10 = .ok (.if_icmp .ge 16, 3) := by decide +kernel
theorem d_Road_wasSlippery_13 : decode b_Road_wasSlippery 13 = .ok (.aload_n 0, 1) := by decide +kernel
theorem d_Road_wasSlippery_14 : decode b_Road_wasSlippery 14 = .ok (.getfield 18, 3) := by decide +kernel
theorem d_Road_wasSlippery_17 : decode b_Road_wasSlippery 17 = .ok (.iload_n 1, 1) := by decide +kernel
theorem d_Road_wasSlippery_18 : decode b_Road_wasSlippery 18 = .ok (.baload, 1) := by decide +kernel
theorem d_Road_wasSlippery_19 : decode b_Road_wasSlippery 19 = .ok (.ifCond .eq 7, 3) := by decide +kernel
theorem d_Road_wasSlippery_22 : decode b_Road_wasSlippery 22 = .ok (.iconst 1, 1) := by decide +kernel
theorem d_Road_wasSlippery_23 : decode b_Road_wasSlippery 23 = .ok (.goto 4, 3) := by decide +kernel
theorem d_Road_wasSlippery_26 : decode b_Road_wasSlippery 26 = .ok (.iconst 0, 1) := by decide +kernel
theorem d_Road_wasSlippery_27 : decode b_Road_wasSlippery 27 = .ok (.ireturn, 1) := by decide +kernel
theorem d_Road_wasTreatedWithin_0 : decode b_Road_wasTreatedWithin 0 = .ok (.iload_n 2, 1) := by decide +kernel
theorem d_Road_wasTreatedWithin_1 : decode b_Road_wasTreatedWithin 1 = .ok (.aload_n 0, 1) := by decide +kernel
theorem d_Road_wasTreatedWithin_2 : decode b_Road_wasTreatedWithin 2 = .ok (.getfield 22, 3) := by decide +kernel
theorem d_Road_wasTreatedWithin_5 : decode b_Road_wasTreatedWithin 5 = .ok (.arraylength, 1) := by decide +kernel
theorem d_Road_wasTreatedWithin_6 : decode b_Road_wasTreatedWithin 6 = .ok (.iconst 1, 1) := by decide +kernel
theorem d_Road_wasTreatedWithin_7 : decode b_Road_wasTreatedWithin 7 = .ok (.isub, 1) := by decide +kernel
theorem d_Road_wasTreatedWithin_8 : decode b_Road_wasTreatedWithin 8 = .ok (.invokestatic 99, 3) := by decide +kernel
theorem d_Road_wasTreatedWithin_11 : decode b_Road_wasTreatedWithin 11 = .ok (.istore_n 3, 1) := by decide +kernel
theorem d_Road_wasTreatedWithin_12 : decode b_Road_wasTreatedWithin 12 = .ok (.iload_n 1, 1) := by decide +kernel
theorem d_Road_wasTreatedWithin_13 : decode b_Road_wasTreatedWithin 13 = .ok (.iconst 0, 1) := by decide +kernel
theorem d_Road_wasTreatedWithin_14 : decode b_Road_wasTreatedWithin 14 = .ok (.invokestatic 105, 3) := by decide +kernel
theorem d_Road_wasTreatedWithin_17 : decode b_Road_wasTreatedWithin 17 = .ok (.istore 4, 2) := by decide +kernel
theorem d_Road_wasTreatedWithin_19 : decode b_Road_wasTreatedWithin 19 = .ok (.iload 4, 2) := by decide +kernel
theorem d_Road_wasTreatedWithin_21 : decode b_Road_wasTreatedWithin 21 = .ok (.iload_n 3, 1) := by decide +kernel
theorem d_Road_wasTreatedWithin_22 : decode b_Road_wasTreatedWithin 22 = .ok (.if_icmp .gt 21, 3) := by decide +kernel
theorem d_Road_wasTreatedWithin_25 : decode b_Road_wasTreatedWithin 25 = .ok (.aload_n 0, 1) := by decide +kernel
theorem d_Road_wasTreatedWithin_26 : decode b_Road_wasTreatedWithin 26 = .ok (.getfield 22, 3) := by decide +kernel
theorem d_Road_wasTreatedWithin_29 : decode b_Road_wasTreatedWithin 29 = .ok (.iload 4, 2) := by decide +kernel
theorem d_Road_wasTreatedWithin_31 : decode b_Road_wasTreatedWithin 31 = .ok (.baload, 1) := by decide +kernel
theorem d_Road_wasTreatedWithin_32 : decode b_Road_wasTreatedWithin 32 = .ok (.ifCond .eq 5, 3) := by decide +kernel
theorem d_Road_wasTreatedWithin_35 : decode b_Road_wasTreatedWithin 35 = .ok (.iconst 1, 1) := by decide +kernel
theorem d_Road_wasTreatedWithin_36 : decode b_Road_wasTreatedWithin 36 = .ok (.ireturn, 1) := by decide +kernel
theorem d_Road_wasTreatedWithin_37 : decode b_Road_wasTreatedWithin 37 = .ok (.iinc 4 1, 3) := by decide +kernel
theorem d_Road_wasTreatedWithin_40 : decode b_Road_wasTreatedWithin 40 = .ok (.goto (-21), 3) := by decide +kernel
theorem d_Road_wasTreatedWithin_43 : decode b_Road_wasTreatedWithin 43 = .ok (.iconst 0, 1) := by decide +kernel
theorem d_Road_wasTreatedWithin_44 : decode b_Road_wasTreatedWithin 44 = .ok (.ireturn, 1) := by decide +kernel
theorem d_Road_fact_0 : decode b_Road_fact 0 = .ok (.iload_n 1, 1) := by decide +kernel
theorem d_Road_fact_1 : decode b_Road_fact 1 = .ok (.tableswitch 167 0 13 #[71, 76, 81, 86, 91, 96, 101, 114, 122, 130, 138, 146, 154, 162], 71) := by decide +kernel
theorem d_Road_fact_72 : decode b_Road_fact 72 = .ok (.aload_n 0, 1) := by decide +kernel
theorem d_Road_fact_73 : decode b_Road_fact 73 = .ok (.getfield 29, 3) := by decide +kernel
theorem d_Road_fact_76 : decode b_Road_fact 76 = .ok (.ireturn, 1) := by decide +kernel
theorem d_Road_fact_77 : decode b_Road_fact 77 = .ok (.aload_n 0, 1) := by decide +kernel
theorem d_Road_fact_78 : decode b_Road_fact 78 = .ok (.getfield 32, 3) := by decide +kernel
theorem d_Road_fact_81 : decode b_Road_fact 81 = .ok (.ireturn, 1) := by decide +kernel
theorem d_Road_fact_82 : decode b_Road_fact 82 = .ok (.aload_n 0, 1) := by decide +kernel
theorem d_Road_fact_83 : decode b_Road_fact 83 = .ok (.getfield 35, 3) := by decide +kernel
theorem d_Road_fact_86 : decode b_Road_fact 86 = .ok (.ireturn, 1) := by decide +kernel
theorem d_Road_fact_87 : decode b_Road_fact 87 = .ok (.aload_n 0, 1) := by decide +kernel
theorem d_Road_fact_88 : decode b_Road_fact 88 = .ok (.getfield 38, 3) := by decide +kernel
theorem d_Road_fact_91 : decode b_Road_fact 91 = .ok (.ireturn, 1) := by decide +kernel
theorem d_Road_fact_92 : decode b_Road_fact 92 = .ok (.aload_n 0, 1) := by decide +kernel
theorem d_Road_fact_93 : decode b_Road_fact 93 = .ok (.getfield 41, 3) := by decide +kernel
theorem d_Road_fact_96 : decode b_Road_fact 96 = .ok (.ireturn, 1) := by decide +kernel
theorem d_Road_fact_97 : decode b_Road_fact 97 = .ok (.aload_n 0, 1) := by decide +kernel
theorem d_Road_fact_98 : decode b_Road_fact 98 = .ok (.getfield 44, 3) := by decide +kernel
theorem d_Road_fact_101 : decode b_Road_fact 101 = .ok (.ireturn, 1) := by decide +kernel
theorem d_Road_fact_102 : decode b_Road_fact 102 = .ok (.aload_n 0, 1) := by decide +kernel
theorem d_Road_fact_103 : decode b_Road_fact 103 = .ok (.getfield 47, 3) := by decide +kernel
theorem d_Road_fact_106 : decode b_Road_fact 106 = .ok (.ifCond .eq 7, 3) := by decide +kernel
theorem d_Road_fact_109 : decode b_Road_fact 109 = .ok (.iconst 1, 1) := by decide +kernel
theorem d_Road_fact_110 : decode b_Road_fact 110 = .ok (.goto 4, 3) := by decide +kernel
theorem d_Road_fact_113 : decode b_Road_fact 113 = .ok (.iconst 0, 1) := by decide +kernel
theorem d_Road_fact_114 : decode b_Road_fact 114 = .ok (.ireturn, 1) := by decide +kernel
theorem d_Road_fact_115 : decode b_Road_fact 115 = .ok (.aload_n 0, 1) := by decide +kernel
theorem d_Road_fact_116 : decode b_Road_fact 116 = .ok (.getfield 12, 3) := by decide +kernel
theorem d_Road_fact_119 : decode b_Road_fact 119 = .ok (.getfield 108, 3) := by decide +kernel
theorem d_Road_fact_122 : decode b_Road_fact 122 = .ok (.ireturn, 1) := by decide +kernel
theorem d_Road_fact_123 : decode b_Road_fact 123 = .ok (.aload_n 0, 1) := by decide +kernel
theorem d_Road_fact_124 : decode b_Road_fact 124 = .ok (.getfield 12, 3) := by decide +kernel
theorem d_Road_fact_127 : decode b_Road_fact 127 = .ok (.getfield 67, 3) := by decide +kernel
theorem d_Road_fact_130 : decode b_Road_fact 130 = .ok (.ireturn, 1) := by decide +kernel
theorem d_Road_fact_131 : decode b_Road_fact 131 = .ok (.aload_n 0, 1) := by decide +kernel
theorem d_Road_fact_132 : decode b_Road_fact 132 = .ok (.getfield 12, 3) := by decide +kernel
theorem d_Road_fact_135 : decode b_Road_fact 135 = .ok (.getfield 111, 3) := by decide +kernel
theorem d_Road_fact_138 : decode b_Road_fact 138 = .ok (.ireturn, 1) := by decide +kernel
theorem d_Road_fact_139 : decode b_Road_fact 139 = .ok (.aload_n 0, 1) := by decide +kernel
theorem d_Road_fact_140 : decode b_Road_fact 140 = .ok (.getfield 12, 3) := by decide +kernel
theorem d_Road_fact_143 : decode b_Road_fact 143 = .ok (.getfield 73, 3) := by decide +kernel
theorem d_Road_fact_146 : decode b_Road_fact 146 = .ok (.ireturn, 1) := by decide +kernel
theorem d_Road_fact_147 : decode b_Road_fact 147 = .ok (.aload_n 0, 1) := by decide +kernel
theorem d_Road_fact_148 : decode b_Road_fact 148 = .ok (.getfield 12, 3) := by decide +kernel
theorem d_Road_fact_151 : decode b_Road_fact 151 = .ok (.getfield 114, 3) := by decide +kernel
theorem d_Road_fact_154 : decode b_Road_fact 154 = .ok (.ireturn, 1) := by decide +kernel
theorem d_Road_fact_155 : decode b_Road_fact 155 = .ok (.aload_n 0, 1) := by decide +kernel
theorem d_Road_fact_156 : decode b_Road_fact 156 = .ok (.getfield 12, 3) := by decide +kernel
theorem d_Road_fact_159 : decode b_Road_fact 159 = .ok (.invokevirtual 117, 3) := by decide +kernel
theorem d_Road_fact_162 : decode b_Road_fact 162 = .ok (.ireturn, 1) := by decide +kernel
theorem d_Road_fact_163 : decode b_Road_fact 163 = .ok (.aload_n 0, 1) := by decide +kernel
theorem d_Road_fact_164 : decode b_Road_fact 164 = .ok (.getfield 96, 3) := by decide +kernel
theorem d_Road_fact_167 : decode b_Road_fact 167 = .ok (.ireturn, 1) := by decide +kernel
theorem d_Road_fact_168 : decode b_Road_fact 168 = .ok (.aload_n 0, 1) := by decide +kernel
theorem d_Road_fact_169 : decode b_Road_fact 169 = .ok (.getfield 25, 3) := by decide +kernel
theorem d_Road_fact_172 : decode b_Road_fact 172 = .ok (.ireturn, 1) := by decide +kernel
theorem d_Rows_init_0 : decode b_Rows_init 0 = .ok (.aload_n 0, 1) := by decide +kernel
theorem d_Rows_init_1 : decode b_Rows_init 1 = .ok (.invokespecial 3, 3) := by decide +kernel
theorem d_Rows_init_4 : decode b_Rows_init 4 = .ok (.aload_n 0, 1) := by decide +kernel
theorem d_Rows_init_5 : decode b_Rows_init 5 = .ok (.sipush 448, 3) := by decide +kernel
theorem d_Rows_init_8 : decode b_Rows_init 8 = .ok (.newarray .int, 2) := by decide +kernel
theorem d_Rows_init_10 : decode b_Rows_init 10 = .ok (.putfield 9, 3) := by decide +kernel
theorem d_Rows_init_13 : decode b_Rows_init 13 = .ok (.aload_n 0, 1) := by decide +kernel
theorem d_Rows_init_14 : decode b_Rows_init 14 = .ok (.sipush 448, 3) := by decide +kernel
theorem d_Rows_init_17 : decode b_Rows_init 17 = .ok (.newarray .int, 2) := by decide +kernel
theorem d_Rows_init_19 : decode b_Rows_init 19 = .ok (.putfield 15, 3) := by decide +kernel
theorem d_Rows_init_22 : decode b_Rows_init 22 = .ok (.return_, 1) := by decide +kernel
theorem d_Rows_best_0 : decode b_Rows_best 0 = .ok (.iconst 0, 1) := by decide +kernel
theorem d_Rows_best_1 : decode b_Rows_best 1 = .ok (.istore_n 3, 1) := by decide +kernel
theorem d_Rows_best_2 : decode b_Rows_best 2 = .ok (.aload_n 1, 1) := by decide +kernel
theorem d_Rows_best_3 : decode b_Rows_best 3 = .ok (.astore 4, 2) := by decide +kernel
theorem d_Rows_best_5 : decode b_Rows_best 5 = .ok (.aload 4, 2) := by decide +kernel
theorem d_Rows_best_7 : decode b_Rows_best 7 = .ok (.arraylength, 1) := by decide +kernel
theorem d_Rows_best_8 : decode b_Rows_best 8 = .ok (.istore 5, 2) := by decide +kernel
theorem d_Rows_best_10 : decode b_Rows_best 10 = .ok (.iconst 0, 1) := by decide +kernel
theorem d_Rows_best_11 : decode b_Rows_best 11 = .ok (.istore 6, 2) := by decide +kernel
theorem d_Rows_best_13 : decode b_Rows_best 13 = .ok (.iload 6, 2) := by decide +kernel
theorem d_Rows_best_15 : decode b_Rows_best 15 = .ok (.iload 5, 2) := by decide +kernel
theorem d_Rows_best_17 : decode b_Rows_best 17 = .ok (.if_icmp .ge 37, 3) := by decide +kernel
theorem d_Rows_best_20 : decode b_Rows_best 20 = .ok (.aload 4, 2) := by decide +kernel
theorem d_Rows_best_22 : decode b_Rows_best 22 = .ok (.iload 6, 2) := by decide +kernel
theorem d_Rows_best_24 : decode b_Rows_best 24 = .ok (.aaload, 1) := by decide +kernel
theorem d_Rows_best_25 : decode b_Rows_best 25 = .ok (.astore 7, 2) := by decide +kernel
theorem d_Rows_best_27 : decode b_Rows_best 27 = .ok (.iload_n 3, 1) := by decide +kernel
theorem d_Rows_best_28 : decode b_Rows_best 28 = .ok (.aload 7, 2) := by decide +kernel
theorem d_Rows_best_30 : decode b_Rows_best 30 = .ok (.ifnull 15, 3) := by decide +kernel
theorem d_Rows_best_33 : decode b_Rows_best 33 = .ok (.aload 7, 2) := by decide +kernel
theorem d_Rows_best_35 : decode b_Rows_best 35 = .ok (.getfield 18, 3) := by decide +kernel
theorem d_Rows_best_38 : decode b_Rows_best 38 = .ok (.ifCond .ne 7, 3) := by decide +kernel
theorem d_Rows_best_41 : decode b_Rows_best 41 = .ok (.iconst 1, 1) := by decide +kernel
theorem d_Rows_best_42 : decode b_Rows_best 42 = .ok (.goto 4, 3) := by decide +kernel
theorem d_Rows_best_45 : decode b_Rows_best 45 = .ok (.iconst 0, 1) := by decide +kernel
theorem d_Rows_best_46 : decode b_Rows_best 46 = .ok (.iadd, 1) := by decide +kernel
theorem d_Rows_best_47 : decode b_Rows_best 47 = .ok (.istore_n 3, 1) := by decide +kernel
theorem d_Rows_best_48 : decode b_Rows_best 48 = .ok (.iinc 6 1, 3) := by decide +kernel
theorem d_Rows_best_51 : decode b_Rows_best 51 = .ok (.goto (-38), 3) := by decide +kernel
theorem d_Rows_best_54 : decode b_Rows_best 54 = .ok (.iload_n 3, 1) := by decide +kernel
theorem d_Rows_best_55 : decode b_Rows_best 55 = .ok (.bipush 6, 2) := by decide +kernel
theorem d_Rows_best_57 : decode b_Rows_best 57 = .ok (.if_icmp .le 5, 3) := by decide +kernel
theorem d_Rows_best_60 : decode b_Rows_best 60 = .ok (.iconst 0, 1) := by decide +kernel
theorem d_Rows_best_61 : decode b_Rows_best 61 = .ok (.ireturn, 1) := by decide +kernel
theorem d_Rows_best_62 : decode b_Rows_best 62 = .ok (.iconst 1, 1) := by decide +kernel
theorem d_Rows_best_63 : decode b_Rows_best 63 = .ok (.iload_n 3, 1) := by decide +kernel
theorem d_Rows_best_64 : decode b_Rows_best 64 = .ok (.ishl, 1) := by decide +kernel
theorem d_Rows_best_65 : decode b_Rows_best 65 = .ok (.istore 4, 2) := by decide +kernel
theorem d_Rows_best_67 : decode b_Rows_best 67 = .ok (.aload_n 0, 1) := by decide +kernel
theorem d_Rows_best_68 : decode b_Rows_best 68 = .ok (.getfield 9, 3) := by decide +kernel
theorem d_Rows_best_71 : decode b_Rows_best 71 = .ok (.ldc 24, 2) := by decide +kernel
theorem d_Rows_best_73 : decode b_Rows_best 73 = .ok (.invokestatic 25, 3) := by decide +kernel
theorem d_Rows_best_76 : decode b_Rows_best 76 = .ok (.aload_n 0, 1) := by decide +kernel
theorem d_Rows_best_77 : decode b_Rows_best 77 = .ok (.getfield 9, 3) := by decide +kernel
theorem d_Rows_best_80 : decode b_Rows_best 80 = .ok (.iload_n 2, 1) := by decide +kernel
theorem d_Rows_best_81 : decode b_Rows_best 81 = .ok (.iconst 1, 1) := by decide +kernel
theorem d_Rows_best_82 : decode b_Rows_best 82 = .ok (.invokestatic 31, 3) := by decide +kernel
theorem d_Rows_best_85 : decode b_Rows_best 85 = .ok (.aload_n 0, 1) := by decide +kernel
theorem d_Rows_best_86 : decode b_Rows_best 86 = .ok (.iload 4, 2) := by decide +kernel
theorem d_Rows_best_88 : decode b_Rows_best 88 = .ok (.invokevirtual 35, 3) := by decide +kernel
theorem d_Rows_best_91 : decode b_Rows_best 91 = .ok (.istore 5, 2) := by decide +kernel
theorem d_Rows_best_93 : decode b_Rows_best 93 = .ok (.iconst 1, 1) := by decide +kernel
theorem d_Rows_best_94 : decode b_Rows_best 94 = .ok (.istore 6, 2) := by decide +kernel
theorem d_Rows_best_96 : decode b_Rows_best 96 = .ok (.iload 6, 2) := by decide +kernel
theorem d_Rows_best_98 : decode b_Rows_best 98 = .ok (.bipush 6, 2) := by decide +kernel
theorem d_Rows_best_100 : decode b_Rows_best 100 = .ok (.if_icmp .gt 41, 3) := by decide +kernel
theorem d_Rows_best_103 : decode b_Rows_best 103 = .ok (.aload_n 0, 1) := by decide +kernel
theorem d_Rows_best_104 : decode b_Rows_best 104 = .ok (.aload_n 1, 1) := by decide +kernel
theorem d_Rows_best_105 : decode b_Rows_best 105 = .ok (.iload 4, 2) := by decide +kernel
theorem d_Rows_best_107 : decode b_Rows_best 107 = .ok (.invokevirtual 39, 3) := by decide +kernel
theorem d_Rows_best_110 : decode b_Rows_best 110 = .ok (.aload_n 0, 1) := by decide +kernel
theorem d_Rows_best_111 : decode b_Rows_best 111 = .ok (.iload 4, 2) := by decide +kernel
theorem d_Rows_best_113 : decode b_Rows_best 113 = .ok (.invokevirtual 35, 3) := by decide +kernel
theorem d_Rows_best_116 : decode b_Rows_best 116 = .ok (.istore 7, 2) := by decide +kernel
theorem d_Rows_best_118 : decode b_Rows_best 118 = .ok (.iload 7, 2) := by decide +kernel
theorem d_Rows_best_120 : decode b_Rows_best 120 = .ok (.ldc 43, 2) := by decide +kernel
theorem d_Rows_best_122 : decode b_Rows_best 122 = .ok (.idiv, 1) := by decide +kernel
theorem d_Rows_best_123 : decode b_Rows_best 123 = .ok (.iload 5, 2) := by decide +kernel
theorem d_Rows_best_125 : decode b_Rows_best 125 = .ok (.ldc 43, 2) := by decide +kernel
theorem d_Rows_best_127 : decode b_Rows_best 127 = .ok (.idiv, 1) := by decide +kernel
theorem d_Rows_best_128 : decode b_Rows_best 128 = .ok (.if_icmp .ge 7, 3) := by decide +kernel
theorem d_Rows_best_131 : decode b_Rows_best 131 = .ok (.iload 7, 2) := by decide +kernel
theorem d_Rows_best_133 : decode b_Rows_best 133 = .ok (.istore 5, 2) := by decide +kernel
theorem d_Rows_best_135 : decode b_Rows_best 135 = .ok (.iinc 6 1, 3) := by decide +kernel
theorem d_Rows_best_138 : decode b_Rows_best 138 = .ok (.goto (-42), 3) := by decide +kernel
theorem d_Rows_best_141 : decode b_Rows_best 141 = .ok (.iload 5, 2) := by decide +kernel
theorem d_Rows_best_143 : decode b_Rows_best 143 = .ok (.ldc 24, 2) := by decide +kernel
theorem d_Rows_best_145 : decode b_Rows_best 145 = .ok (.if_icmp .ne 7, 3) := by decide +kernel
theorem d_Rows_best_148 : decode b_Rows_best 148 = .ok (.iconst 0, 1) := by decide +kernel
theorem d_Rows_best_149 : decode b_Rows_best 149 = .ok (.goto 8, 3) := by decide +kernel
theorem d_Rows_best_152 : decode b_Rows_best 152 = .ok (.iload 5, 2) := by decide +kernel
theorem d_Rows_best_154 : decode b_Rows_best 154 = .ok (.ldc 43, 2) := by decide +kernel
theorem d_Rows_best_156 : decode b_Rows_best 156 = .ok (.irem, 1) := by decide +kernel
theorem d_Rows_best_157 : decode b_Rows_best 157 = .ok (.ireturn, 1) := by decide +kernel
theorem d_Rows_bestWhole_0 : decode b_Rows_bestWhole 0 = .ok (.ldc 24, 2) := by decide +kernel
theorem d_Rows_bestWhole_2 : decode b_Rows_bestWhole 2 = .ok (.istore_n 2, 1) := by decide +kernel
theorem d_Rows_bestWhole_3 : decode b_Rows_bestWhole 3 = .ok (.iconst 0, 1) := by decide +kernel
theorem d_Rows_bestWhole_4 : decode b_Rows_bestWhole 4 = .ok (.istore_n 3, 1) := by decide +kernel
theorem d_Rows_bestWhole_5 : decode b_Rows_bestWhole 5 = .ok (.iload_n 3, 1) := by decide +kernel
theorem d_Rows_bestWhole_6 : decode b_Rows_bestWhole 6 = .ok (.bipush 7, 2) := by decide +kernel
theorem d_Rows_bestWhole_8 : decode b_Rows_bestWhole 8 = .ok (.if_icmp .ge 29, 3) := by decide +kernel
theorem d_Rows_bestWhole_11 : decode b_Rows_bestWhole 11 = .ok (.iload_n 2, 1) := by decide +kernel
theorem d_Rows_bestWhole_12 : decode b_Rows_bestWhole 12 = .ok (.aload_n 0, 1) := by decide +kernel
theorem d_Rows_bestWhole_13 : decode b_Rows_bestWhole 13 = .ok (.getfield 9, 3) := by decide +kernel
theorem d_Rows_bestWhole_16 : decode b_Rows_bestWhole 16 = .ok (.iload_n 1, 1) := by decide +kernel
theorem d_Rows_bestWhole_17 : decode b_Rows_bestWhole 17 = .ok (.iconst 1, 1) := by decide +kernel
theorem d_Rows_bestWhole_18 : decode b_Rows_bestWhole 18 = .ok (.isub, 1) := by decide +kernel
theorem d_Rows_bestWhole_19 : decode b_Rows_bestWhole 19 = .ok (.bipush 7, 2) := by decide +kernel
theorem d_Rows_bestWhole_21 : decode b_Rows_bestWhole 21 = .ok (.imul, 1) := by decide +kernel
theorem d_Rows_bestWhole_22 : decode b_Rows_bestWhole 22 = .ok (.iload_n 3, 1) := by decide +kernel
theorem d_Rows_bestWhole_23 : decode b_Rows_bestWhole 23 = .ok (.iadd, 1) := by decide +kernel
theorem d_Rows_bestWhole_24 : decode b_Rows_bestWhole 24 = .ok (.invokestatic 44, 3) := by decide +kernel
theorem d_Rows_bestWhole_27 : decode b_Rows_bestWhole 27 = .ok (.invokestatic 48, 3) := by decide +kernel
theorem d_Rows_bestWhole_30 : decode b_Rows_bestWhole 30 = .ok (.istore_n 2, 1) := by decide +kernel
theorem d_Rows_bestWhole_31 : decode b_Rows_bestWhole 31 = .ok (.iinc 3 1, 3) := by decide +kernel
theorem d_Rows_bestWhole_34 : decode b_Rows_bestWhole 34 = .ok (.goto (-29), 3) := by decide +kernel
theorem d_Rows_bestWhole_37 : decode b_Rows_bestWhole 37 = .ok (.iload_n 2, 1) := by decide +kernel
theorem d_Rows_bestWhole_38 : decode b_Rows_bestWhole 38 = .ok (.ireturn, 1) := by decide +kernel
theorem d_Rows_lengthen_0 : decode b_Rows_lengthen 0 = .ok (.aload_n 0, 1) := by decide +kernel
theorem d_Rows_lengthen_1 : decode b_Rows_lengthen 1 = .ok (.getfield 15, 3) := by decide +kernel
theorem d_Rows_lengthen_4 : decode b_Rows_lengthen 4 = .ok (.ldc 24, 2) := by decide +kernel
theorem d_Rows_lengthen_6 : decode b_Rows_lengthen 6 = .ok (.invokestatic 25, 3) := by decide +kernel
theorem d_Rows_lengthen_9 : decode b_Rows_lengthen 9 = .ok (.iconst 1, 1) := by decide +kernel
theorem d_Rows_lengthen_10 : decode b_Rows_lengthen 10 = .ok (.istore_n 3, 1) := by decide +kernel
theorem d_Rows_lengthen_11 : decode b_Rows_lengthen 11 = .ok (.iconst 0, 1) := by decide +kernel
theorem d_Rows_lengthen_12 : decode b_Rows_lengthen 12 = .ok (.istore 4, 2) := by decide +kernel
theorem d_Rows_lengthen_14 : decode b_Rows_lengthen 14 = .ok (.iload 4, 2) := by decide +kernel
theorem d_Rows_lengthen_16 : decode b_Rows_lengthen 16 = .ok (.aload_n 1, 1) := by decide +kernel
theorem d_Rows_lengthen_17 : decode b_Rows_lengthen 17 = .ok (.arraylength, 1) := by decide +kernel
theorem d_Rows_lengthen_18 : decode b_Rows_lengthen 18 = .ok (.if_icmp .ge 119, 3) := by decide +kernel
theorem d_Rows_lengthen_21 : decode b_Rows_lengthen 21 = .ok (.aload_n 1, 1) := by decide +kernel
theorem d_Rows_lengthen_22 : decode b_Rows_lengthen 22 = .ok (.iload 4, 2) := by decide +kernel
theorem d_Rows_lengthen_24 : decode b_Rows_lengthen 24 = .ok (.aaload, 1) := by decide +kernel
theorem d_Rows_lengthen_25 : decode b_Rows_lengthen 25 = .ok (.astore 5, 2) := by decide +kernel
theorem d_Rows_lengthen_27 : decode b_Rows_lengthen 27 = .ok (.aload 5, 2) := by decide +kernel
theorem d_Rows_lengthen_29 : decode b_Rows_lengthen 29 = .ok (.ifnull 102, 3) := by decide +kernel
theorem d_Rows_lengthen_32 : decode b_Rows_lengthen 32 = .ok (.aload 5, 2) := by decide +kernel
theorem d_Rows_lengthen_34 : decode b_Rows_lengthen 34 = .ok (.getfield 18, 3) := by decide +kernel
theorem d_Rows_lengthen_37 : decode b_Rows_lengthen 37 = .ok (.ifCond .ne 7, 3) := by decide +kernel
theorem d_Rows_lengthen_40 : decode b_Rows_lengthen 40 = .ok (.iload_n 3, 1) := by decide +kernel
theorem d_Rows_lengthen_41 : decode b_Rows_lengthen 41 = .ok (.goto 4, 3) := by decide +kernel
theorem d_Rows_lengthen_44 : decode b_Rows_lengthen 44 = .ok (.iconst 0, 1) := by decide +kernel
theorem d_Rows_lengthen_45 : decode b_Rows_lengthen 45 = .ok (.istore 6, 2) := by decide +kernel
theorem d_Rows_lengthen_47 : decode b_Rows_lengthen 47 = .ok (.iload_n 3, 1) := by decide +kernel
theorem d_Rows_lengthen_48 : decode b_Rows_lengthen 48 = .ok (.iload 6, 2) := by decide +kernel
theorem d_Rows_lengthen_50 : decode b_Rows_lengthen 50 = .ok (.iadd, 1) := by decide +kernel
theorem d_Rows_lengthen_51 : decode b_Rows_lengthen 51 = .ok (.istore_n 3, 1) := by decide +kernel
theorem d_Rows_lengthen_52 : decode b_Rows_lengthen 52 = .ok (.iconst 0, 1) := by decide +kernel
theorem d_Rows_lengthen_53 : decode b_Rows_lengthen 53 = .ok (.istore 7, 2) := by decide +kernel
theorem d_Rows_lengthen_55 : decode b_Rows_lengthen 55 = .ok (.iload 7, 2) := by decide +kernel
theorem d_Rows_lengthen_57 : decode b_Rows_lengthen 57 = .ok (.iload_n 2, 1) := by decide +kernel
theorem d_Rows_lengthen_58 : decode b_Rows_lengthen 58 = .ok (.if_icmp .ge 73, 3) := by decide +kernel
theorem d_Rows_lengthen_61 : decode b_Rows_lengthen 61 = .ok (.iload 7, 2) := by decide +kernel
theorem d_Rows_lengthen_63 : decode b_Rows_lengthen 63 = .ok (.iload 6, 2) := by decide +kernel
theorem d_Rows_lengthen_65 : decode b_Rows_lengthen 65 = .ok (.ior, 1) := by decide +kernel
theorem d_Rows_lengthen_66 : decode b_Rows_lengthen 66 = .ok (.bipush 7, 2) := by decide +kernel
theorem d_Rows_lengthen_68 : decode b_Rows_lengthen 68 = .ok (.imul, 1) := by decide +kernel
theorem d_Rows_lengthen_69 : decode b_Rows_lengthen 69 = .ok (.istore 8, 2) := by decide +kernel
theorem d_Rows_lengthen_71 : decode b_Rows_lengthen 71 = .ok (.aload_n 0, 1) := by decide +kernel
theorem d_Rows_lengthen_72 : decode b_Rows_lengthen 72 = .ok (.aload 5, 2) := by decide +kernel
theorem d_Rows_lengthen_74 : decode b_Rows_lengthen 74 = .ok (.iload 4, 2) := by decide +kernel
theorem d_Rows_lengthen_76 : decode b_Rows_lengthen 76 = .ok (.iload 7, 2) := by decide +kernel
theorem d_Rows_lengthen_78 : decode b_Rows_lengthen 78 = .ok (.bipush 7, 2) := by decide +kernel
theorem d_Rows_lengthen_80 : decode b_Rows_lengthen 80 = .ok (.imul, 1) := by decide +kernel
theorem d_Rows_lengthen_81 : decode b_Rows_lengthen 81 = .ok (.aload 5, 2) := by decide +kernel
theorem d_Rows_lengthen_83 : decode b_Rows_lengthen 83 = .ok (.getfield 54, 3) := by decide +kernel
theorem d_Rows_lengthen_86 : decode b_Rows_lengthen 86 = .ok (.iadd, 1) := by decide +kernel
theorem d_Rows_lengthen_87 : decode b_Rows_lengthen 87 = .ok (.iload 8, 2) := by decide +kernel
theorem d_Rows_lengthen_89 : decode b_Rows_lengthen 89 = .ok (.aload 5, 2) := by decide +kernel
theorem d_Rows_lengthen_91 : decode b_Rows_lengthen 91 = .ok (.getfield 57, 3) := by decide +kernel
theorem d_Rows_lengthen_94 : decode b_Rows_lengthen 94 = .ok (.iadd, 1) := by decide +kernel
theorem d_Rows_lengthen_95 : decode b_Rows_lengthen 95 = .ok (.invokevirtual 60, 3) := by decide +kernel
theorem d_Rows_lengthen_98 : decode b_Rows_lengthen 98 = .ok (.aload_n 0, 1) := by decide +kernel
theorem d_Rows_lengthen_99 : decode b_Rows_lengthen 99 = .ok (.aload 5, 2) := by decide +kernel
theorem d_Rows_lengthen_101 : decode b_Rows_lengthen 101 = .ok (.iload 4, 2) := by decide +kernel
theorem d_Rows_lengthen_103 : decode b_Rows_lengthen 103 = .ok (.iload 7, 2) := by decide +kernel
theorem d_Rows_lengthen_105 : decode b_Rows_lengthen 105 = .ok (.bipush 7, 2) := by decide +kernel
theorem d_Rows_lengthen_107 : decode b_Rows_lengthen 107 = .ok (.imul, 1) := by decide +kernel
theorem d_Rows_lengthen_108 : decode b_Rows_lengthen 108 = .ok (.aload 5, 2) := by decide +kernel
theorem d_Rows_lengthen_110 : decode b_Rows_lengthen 110 = .ok (.getfield 57, 3) := by decide +kernel
theorem d_Rows_lengthen_113 : decode b_Rows_lengthen 113 = .ok (.iadd, 1) := by decide +kernel
theorem d_Rows_lengthen_114 : decode b_Rows_lengthen 114 = .ok (.iload 8, 2) := by decide +kernel
theorem d_Rows_lengthen_116 : decode b_Rows_lengthen 116 = .ok (.aload 5, 2) := by decide +kernel
theorem d_Rows_lengthen_118 : decode b_Rows_lengthen 118 = .ok (.getfield 54, 3) := by decide +kernel
theorem d_Rows_lengthen_121 : decode b_Rows_lengthen 121 = .ok (.iadd, 1) := by decide +kernel
theorem d_Rows_lengthen_122 : decode b_Rows_lengthen 122 = .ok (.invokevirtual 60, 3) := by decide +kernel
theorem d_Rows_lengthen_125 : decode b_Rows_lengthen 125 = .ok (.iinc 7 1, 3) := by decide +kernel
theorem d_Rows_lengthen_128 : decode b_Rows_lengthen 128 = .ok (.goto (-73), 3) := by decide +kernel
theorem d_Rows_lengthen_131 : decode b_Rows_lengthen 131 = .ok (.iinc 4 1, 3) := by decide +kernel
theorem d_Rows_lengthen_134 : decode b_Rows_lengthen 134 = .ok (.goto (-120), 3) := by decide +kernel
theorem d_Rows_lengthen_137 : decode b_Rows_lengthen 137 = .ok (.aload_n 0, 1) := by decide +kernel
theorem d_Rows_lengthen_138 : decode b_Rows_lengthen 138 = .ok (.getfield 9, 3) := by decide +kernel
theorem d_Rows_lengthen_141 : decode b_Rows_lengthen 141 = .ok (.astore 4, 2) := by decide +kernel
theorem d_Rows_lengthen_143 : decode b_Rows_lengthen 143 = .ok (.aload_n 0, 1) := by decide +kernel
theorem d_Rows_lengthen_144 : decode b_Rows_lengthen 144 = .ok (.aload_n 0, 1) := by decide +kernel
theorem d_Rows_lengthen_145 : decode b_Rows_lengthen 145 = .ok (.getfield 15, 3) := by decide +kernel
theorem d_Rows_lengthen_148 : decode b_Rows_lengthen 148 = .ok (.putfield 9, 3) := by decide +kernel
theorem d_Rows_lengthen_151 : decode b_Rows_lengthen 151 = .ok (.aload_n 0, 1) := by decide +kernel
theorem d_Rows_lengthen_152 : decode b_Rows_lengthen 152 = .ok (.aload 4, 2) := by decide +kernel
theorem d_Rows_lengthen_154 : decode b_Rows_lengthen 154 = .ok (.putfield 15, 3) := by decide +kernel
theorem d_Rows_lengthen_157 : decode b_Rows_lengthen 157 = .ok (.return_, 1) := by decide +kernel
theorem d_Rows_goAlong_0 : decode b_Rows_goAlong 0 = .ok (.aload_n 0, 1) := by decide +kernel
theorem d_Rows_goAlong_1 : decode b_Rows_goAlong 1 = .ok (.getfield 9, 3) := by decide +kernel
theorem d_Rows_goAlong_4 : decode b_Rows_goAlong 4 = .ok (.iload_n 3, 1) := by decide +kernel
theorem d_Rows_goAlong_5 : decode b_Rows_goAlong 5 = .ok (.invokestatic 44, 3) := by decide +kernel
theorem d_Rows_goAlong_8 : decode b_Rows_goAlong 8 = .ok (.istore 5, 2) := by decide +kernel
theorem d_Rows_goAlong_10 : decode b_Rows_goAlong 10 = .ok (.iload 5, 2) := by decide +kernel
theorem d_Rows_goAlong_12 : decode b_Rows_goAlong 12 = .ok (.ldc 24, 2) := by decide +kernel
theorem d_Rows_goAlong_14 : decode b_Rows_goAlong 14 = .ok (.if_icmp .eq 44, 3) := by decide +kernel
theorem d_Rows_goAlong_17 : decode b_Rows_goAlong 17 = .ok (.iload 5, 2) := by decide +kernel
theorem d_Rows_goAlong_19 : decode b_Rows_goAlong 19 = .ok (.ldc 43, 2) := by decide +kernel
theorem d_Rows_goAlong_21 : decode b_Rows_goAlong 21 = .ok (.idiv, 1) := by decide +kernel
theorem d_Rows_goAlong_22 : decode b_Rows_goAlong 22 = .ok (.aload_n 1, 1) := by decide +kernel
theorem d_Rows_goAlong_23 : decode b_Rows_goAlong 23 = .ok (.getfield 64, 3) := by decide +kernel
theorem d_Rows_goAlong_26 : decode b_Rows_goAlong 26 = .ok (.iadd, 1) := by decide +kernel
theorem d_Rows_goAlong_27 : decode b_Rows_goAlong 27 = .ok (.istore 6, 2) := by decide +kernel
theorem d_Rows_goAlong_29 : decode b_Rows_goAlong 29 = .ok (.iload 5, 2) := by decide +kernel
theorem d_Rows_goAlong_31 : decode b_Rows_goAlong 31 = .ok (.ldc 43, 2) := by decide +kernel
theorem d_Rows_goAlong_33 : decode b_Rows_goAlong 33 = .ok (.irem, 1) := by decide +kernel
theorem d_Rows_goAlong_34 : decode b_Rows_goAlong 34 = .ok (.bipush 10, 2) := by decide +kernel
theorem d_Rows_goAlong_36 : decode b_Rows_goAlong 36 = .ok (.imul, 1) := by decide +kernel
theorem d_Rows_goAlong_37 : decode b_Rows_goAlong 37 = .ok (.iload_n 2, 1) := by decide +kernel
theorem d_Rows_goAlong_38 : decode b_Rows_goAlong 38 = .ok (.iadd, 1) := by decide +kernel
theorem d_Rows_goAlong_39 : decode b_Rows_goAlong 39 = .ok (.istore 7, 2) := by decide +kernel
theorem d_Rows_goAlong_41 : decode b_Rows_goAlong 41 = .ok (.aload_n 0, 1) := by decide +kernel
theorem d_Rows_goAlong_42 : decode b_Rows_goAlong 42 = .ok (.getfield 15, 3) := by decide +kernel
theorem d_Rows_goAlong_45 : decode b_Rows_goAlong 45 = .ok (.iload 4, 2) := by decide +kernel
theorem d_Rows_goAlong_47 : decode b_Rows_goAlong 47 = .ok (.iload 6, 2) := by decide +kernel
theorem d_Rows_goAlong_49 : decode b_Rows_goAlong 49 = .ok (.ldc 43, 2) := by decide +kernel
theorem d_Rows_goAlong_51 : decode b_Rows_goAlong 51 = .ok (.imul, 1) := by decide +kernel
theorem d_Rows_goAlong_52 : decode b_Rows_goAlong 52 = .ok (.iload 7, 2) := by decide +kernel
theorem d_Rows_goAlong_54 : decode b_Rows_goAlong 54 = .ok (.iadd, 1) := by decide +kernel
theorem d_Rows_goAlong_55 : decode b_Rows_goAlong 55 = .ok (.invokestatic 31, 3) := by decide +kernel
theorem d_Rows_goAlong_58 : decode b_Rows_goAlong 58 = .ok (.return_, 1) := by decide +kernel
theorem d_Surf_init_0 : decode b_Surf_init 0 = .ok (.aload_n 0, 1) := by decide +kernel
theorem d_Surf_init_1 : decode b_Surf_init 1 = .ok (.invokespecial 3, 3) := by decide +kernel
theorem d_Surf_init_4 : decode b_Surf_init 4 = .ok (.aload_n 0, 1) := by decide +kernel
theorem d_Surf_init_5 : decode b_Surf_init 5 = .ok (.iconst 3, 1) := by decide +kernel
theorem d_Surf_init_6 : decode b_Surf_init 6 = .ok (.putfield 9, 3) := by decide +kernel
theorem d_Surf_init_9 : decode b_Surf_init 9 = .ok (.return_, 1) := by decide +kernel
theorem d_Surf_becomeLike_0 : decode b_Surf_becomeLike 0 = .ok (.aload_n 0, 1) := by decide +kernel
theorem d_Surf_becomeLike_1 : decode b_Surf_becomeLike 1 = .ok (.aload_n 1, 1) := by decide +kernel
theorem d_Surf_becomeLike_2 : decode b_Surf_becomeLike 2 = .ok (.getfield 9, 3) := by decide +kernel
theorem d_Surf_becomeLike_5 : decode b_Surf_becomeLike 5 = .ok (.putfield 9, 3) := by decide +kernel
theorem d_Surf_becomeLike_8 : decode b_Surf_becomeLike 8 = .ok (.aload_n 0, 1) := by decide +kernel
theorem d_Surf_becomeLike_9 : decode b_Surf_becomeLike 9 = .ok (.aload_n 1, 1) := by decide +kernel
theorem d_Surf_becomeLike_10 : decode b_Surf_becomeLike 10 = .ok (.getfield 15, 3) := by decide +kernel
theorem d_Surf_becomeLike_13 : decode b_Surf_becomeLike 13 = .ok (.putfield 15, 3) := by decide +kernel
theorem d_Surf_becomeLike_16 : decode b_Surf_becomeLike 16 = .ok (.aload_n 0, 1) := by decide +kernel
theorem d_Surf_becomeLike_17 : decode b_Surf_becomeLike 17 = .ok (.aload_n 1, 1) := by decide +kernel
theorem d_Surf_becomeLike_18 : decode b_Surf_becomeLike 18 = .ok (.getfield 18, 3) := by decide +kernel
theorem d_Surf_becomeLike_21 : decode b_Surf_becomeLike 21 = .ok (.putfield 18, 3) := by decide +kernel
theorem d_Surf_becomeLike_24 : decode b_Surf_becomeLike 24 = .ok (.aload_n 0, 1) := by decide +kernel
theorem d_Surf_becomeLike_25 : decode b_Surf_becomeLike 25 = .ok (.aload_n 1, 1) := by decide +kernel
theorem d_Surf_becomeLike_26 : decode b_Surf_becomeLike 26 = .ok (.getfield 21, 3) := by decide +kernel
theorem d_Surf_becomeLike_29 : decode b_Surf_becomeLike 29 = .ok (.putfield 21, 3) := by decide +kernel
theorem d_Surf_becomeLike_32 : decode b_Surf_becomeLike 32 = .ok (.aload_n 0, 1) := by decide +kernel
theorem d_Surf_becomeLike_33 : decode b_Surf_becomeLike 33 = .ok (.aload_n 1, 1) := by decide +kernel
theorem d_Surf_becomeLike_34 : decode b_Surf_becomeLike 34 = .ok (.getfield 24, 3) := by decide +kernel
theorem d_Surf_becomeLike_37 : decode b_Surf_becomeLike 37 = .ok (.putfield 24, 3) := by decide +kernel
theorem d_Surf_becomeLike_40 : decode b_Surf_becomeLike 40 = .ok (.return_, 1) := by decide +kernel
theorem d_Surf_isSlippery_0 : decode b_Surf_isSlippery 0 = .ok (.aload_n 0, 1) := by decide +kernel
theorem d_Surf_isSlippery_1 : decode b_Surf_isSlippery 1 = .ok (.getfield 18, 3) := by decide +kernel
theorem d_Surf_isSlippery_4 : decode b_Surf_isSlippery 4 = .ok (.iconst 2, 1) := by decide +kernel
theorem d_Surf_isSlippery_5 : decode b_Surf_isSlippery 5 = .ok (.if_icmp .ge 11, 3) := by decide +kernel
theorem d_Surf_isSlippery_8 : decode b_Surf_isSlippery 8 = .ok (.aload_n 0, 1) := by decide +kernel
theorem d_Surf_isSlippery_9 : decode b_Surf_isSlippery 9 = .ok (.getfield 21, 3) := by decide +kernel
theorem d_Surf_isSlippery_12 : decode b_Surf_isSlippery 12 = .ok (.iconst 3, 1) := by decide +kernel
theorem d_Surf_isSlippery_13 : decode b_Surf_isSlippery 13 = .ok (.if_icmp .lt 7, 3) := by decide +kernel
theorem d_Surf_isSlippery_16 : decode b_Surf_isSlippery 16 = .ok (.iconst 1, 1) := by decide +kernel
theorem d_Surf_isSlippery_17 : decode b_Surf_isSlippery 17 = .ok (.goto 4, 3) := by decide +kernel
theorem d_Surf_isSlippery_20 : decode b_Surf_isSlippery 20 = .ok (.iconst 0, 1) := by decide +kernel
theorem d_Surf_isSlippery_21 : decode b_Surf_isSlippery 21 = .ok (.ireturn, 1) := by decide +kernel
theorem d_Surf_point_0 : decode b_Surf_point 0 = .ok (.aload_n 0, 1) := by decide +kernel
theorem d_Surf_point_1 : decode b_Surf_point 1 = .ok (.getfield 15, 3) := by decide +kernel
theorem d_Surf_point_4 : decode b_Surf_point 4 = .ok (.aload_n 0, 1) := by decide +kernel
theorem d_Surf_point_5 : decode b_Surf_point 5 = .ok (.getfield 18, 3) := by decide +kernel
theorem d_Surf_point_8 : decode b_Surf_point 8 = .ok (.iadd, 1) := by decide +kernel
theorem d_Surf_point_9 : decode b_Surf_point 9 = .ok (.aload_n 0, 1) := by decide +kernel
theorem d_Surf_point_10 : decode b_Surf_point 10 = .ok (.getfield 21, 3) := by decide +kernel
theorem d_Surf_point_13 : decode b_Surf_point 13 = .ok (.iadd, 1) := by decide +kernel
theorem d_Surf_point_14 : decode b_Surf_point 14 = .ok (.istore_n 1, 1) := by decide +kernel
theorem d_Surf_point_15 : decode b_Surf_point 15 = .ok (.iload_n 1, 1) := by decide +kernel
theorem d_Surf_point_16 : decode b_Surf_point 16 = .ok (.ifCond .gt 7, 3) := by decide +kernel
theorem d_Surf_point_19 : decode b_Surf_point 19 = .ok (.iconst 0, 1) := by decide +kernel
theorem d_Surf_point_20 : decode b_Surf_point 20 = .ok (.goto 12, 3) := by decide +kernel
theorem d_Surf_point_23 : decode b_Surf_point 23 = .ok (.bipush 6, 2) := by decide +kernel
theorem d_Surf_point_25 : decode b_Surf_point 25 = .ok (.aload_n 0, 1) := by decide +kernel
theorem d_Surf_point_26 : decode b_Surf_point 26 = .ok (.getfield 24, 3) := by decide +kernel
theorem d_Surf_point_29 : decode b_Surf_point 29 = .ok (.imul, 1) := by decide +kernel
theorem d_Surf_point_30 : decode b_Surf_point 30 = .ok (.iload_n 1, 1) := by decide +kernel
theorem d_Surf_point_31 : decode b_Surf_point 31 = .ok (.idiv, 1) := by decide +kernel
theorem d_Surf_point_32 : decode b_Surf_point 32 = .ok (.istore_n 2, 1) := by decide +kernel
theorem d_Surf_point_33 : decode b_Surf_point 33 = .ok (.iload_n 2, 1) := by decide +kernel
theorem d_Surf_point_34 : decode b_Surf_point 34 = .ok (.bipush 21, 2) := by decide +kernel
theorem d_Surf_point_36 : decode b_Surf_point 36 = .ok (.if_icmp .le 8, 3) := by decide +kernel
theorem d_Surf_point_39 : decode b_Surf_point 39 = .ok (.bipush (-21), 2) := by decide +kernel
theorem d_Surf_point_41 : decode b_Surf_point 41 = .ok (.goto 5, 3) := by decide +kernel
theorem d_Surf_point_44 : decode b_Surf_point 44 = .ok (.iload_n 2, 1) := by decide +kernel
theorem d_Surf_point_45 : decode b_Surf_point 45 = .ok (.ineg, 1) := by decide +kernel
theorem d_Surf_point_46 : decode b_Surf_point 46 = .ok (.ireturn, 1) := by decide +kernel
theorem d_Surf_comeNearer_0 : decode b_Surf_comeNearer 0 = .ok (.aload_n 0, 1) := by decide +kernel
theorem d_Surf_comeNearer_1 : decode b_Surf_comeNearer 1 = .ok (.getfield 9, 3) := by decide +kernel
theorem d_Surf_comeNearer_4 : decode b_Surf_comeNearer 4 = .ok (.iload_n 1, 1) := by decide +kernel
theorem d_Surf_comeNearer_5 : decode b_Surf_comeNearer 5 = .ok (.if_icmp .ge 20, 3) := by decide +kernel
theorem d_Surf_comeNearer_8 : decode b_Surf_comeNearer 8 = .ok (.aload_n 0, 1) := by decide +kernel
theorem d_Surf_comeNearer_9 : decode b_Surf_comeNearer 9 = .ok (.iload_n 1, 1) := by decide +kernel
theorem d_Surf_comeNearer_10 : decode b_Surf_comeNearer 10 = .ok (.aload_n 0, 1) := by decide +kernel
theorem d_Surf_comeNearer_11 : decode b_Surf_comeNearer 11 = .ok (.getfield 9, 3) := by decide +kernel
theorem d_Surf_comeNearer_14 : decode b_Surf_comeNearer 14 = .ok (.iload_n 2, 1) := by decide +kernel
theorem d_Surf_comeNearer_15 : decode b_Surf_comeNearer 15 = .ok (.iadd, 1) := by decide +kernel
theorem d_Surf_comeNearer_16 : decode b_Surf_comeNearer 16 = .ok (.invokestatic 27, 3) := by decide +kernel
theorem d_Surf_comeNearer_19 : decode b_Surf_comeNearer 19 = .ok (.putfield 9, 3) := by decide +kernel
theorem d_Surf_comeNearer_22 : decode b_Surf_comeNearer 22 = .ok (.goto 17, 3) := by decide +kernel
theorem d_Surf_comeNearer_25 : decode b_Surf_comeNearer 25 = .ok (.aload_n 0, 1) := by decide +kernel
theorem d_Surf_comeNearer_26 : decode b_Surf_comeNearer 26 = .ok (.iload_n 1, 1) := by decide +kernel
theorem d_Surf_comeNearer_27 : decode b_Surf_comeNearer 27 = .ok (.aload_n 0, 1) := by decide +kernel
theorem d_Surf_comeNearer_28 : decode b_Surf_comeNearer 28 = .ok (.getfield 9, 3) := by decide +kernel
theorem d_Surf_comeNearer_31 : decode b_Surf_comeNearer 31 = .ok (.iload_n 2, 1) := by decide +kernel
theorem d_Surf_comeNearer_32 : decode b_Surf_comeNearer 32 = .ok (.isub, 1) := by decide +kernel
theorem d_Surf_comeNearer_33 : decode b_Surf_comeNearer 33 = .ok (.invokestatic 33, 3) := by decide +kernel
theorem d_Surf_comeNearer_36 : decode b_Surf_comeNearer 36 = .ok (.putfield 9, 3) := by decide +kernel
theorem d_Surf_comeNearer_39 : decode b_Surf_comeNearer 39 = .ok (.return_, 1) := by decide +kernel
theorem d_Surf_freezeOrThaw_0 : decode b_Surf_freezeOrThaw 0 = .ok (.aload_n 0, 1) := by decide +kernel
theorem d_Surf_freezeOrThaw_1 : decode b_Surf_freezeOrThaw 1 = .ok (.getfield 9, 3) := by decide +kernel
theorem d_Surf_freezeOrThaw_4 : decode b_Surf_freezeOrThaw 4 = .ok (.aload_n 0, 1) := by decide +kernel
theorem d_Surf_freezeOrThaw_5 : decode b_Surf_freezeOrThaw 5 = .ok (.invokevirtual 36, 3) := by decide +kernel
theorem d_Surf_freezeOrThaw_8 : decode b_Surf_freezeOrThaw 8 = .ok (.if_icmp .ge 33, 3) := by decide +kernel
theorem d_Surf_freezeOrThaw_11 : decode b_Surf_freezeOrThaw 11 = .ok (.iconst 2, 1) := by decide +kernel
theorem d_Surf_freezeOrThaw_12 : decode b_Surf_freezeOrThaw 12 = .ok (.aload_n 0, 1) := by decide +kernel
theorem d_Surf_freezeOrThaw_13 : decode b_Surf_freezeOrThaw 13 = .ok (.getfield 15, 3) := by decide +kernel
theorem d_Surf_freezeOrThaw_16 : decode b_Surf_freezeOrThaw 16 = .ok (.invokestatic 27, 3) := by decide +kernel
theorem d_Surf_freezeOrThaw_19 : decode b_Surf_freezeOrThaw 19 = .ok (.istore_n 1, 1) := by decide +kernel
theorem d_Surf_freezeOrThaw_20 : decode b_Surf_freezeOrThaw 20 = .ok (.aload_n 0, 1) := by decide +kernel
theorem d_Surf_freezeOrThaw_21 : decode b_Surf_freezeOrThaw 21 = .ok (.dup, 1) := by decide +kernel
theorem d_Surf_freezeOrThaw_22 : decode b_Surf_freezeOrThaw 22 = .ok (.getfield 15, 3) := by decide +kernel
theorem d_Surf_freezeOrThaw_25 : decode b_Surf_freezeOrThaw 25 = .ok (.iload_n 1, 1) := by decide +kernel
theorem d_Surf_freezeOrThaw_26 : decode b_Surf_freezeOrThaw 26 = .ok (.isub, 1) := by decide +kernel
theorem d_Surf_freezeOrThaw_27 : decode b_Surf_freezeOrThaw 27 = .ok (.putfield 15, 3) := by decide +kernel
theorem d_Surf_freezeOrThaw_30 : decode b_Surf_freezeOrThaw 30 = .ok (.aload_n 0, 1) := by decide +kernel
theorem d_Surf_freezeOrThaw_31 : decode b_Surf_freezeOrThaw 31 = .ok (.dup, 1) := by decide +kernel
theorem d_Surf_freezeOrThaw_32 : decode b_Surf_freezeOrThaw 32 = .ok (.getfield 18, 3) := by decide +kernel
theorem d_Surf_freezeOrThaw_35 : decode b_Surf_freezeOrThaw 35 = .ok (.iload_n 1, 1) := by decide +kernel
theorem d_Surf_freezeOrThaw_36 : decode b_Surf_freezeOrThaw 36 = .ok (.iadd, 1) := by decide +kernel
theorem d_Surf_freezeOrThaw_37 : decode b_Surf_freezeOrThaw 37 = .ok (.putfield 18, 3) := by decide +kernel
theorem d_Surf_freezeOrThaw_40 : decode b_Surf_freezeOrThaw 40 = .ok (.return_, 1) := by decide +kernel
theorem d_Surf_freezeOrThaw_41 : decode b_Surf_freezeOrThaw 41 = .ok (.iconst 1, 1) := by decide +kernel
theorem d_Surf_freezeOrThaw_42 : decode b_Surf_freezeOrThaw 42 = .ok (.aload_n 0, 1) := by decide +kernel
theorem d_Surf_freezeOrThaw_43 : decode b_Surf_freezeOrThaw 43 = .ok (.getfield 24, 3) := by decide +kernel
theorem d_Surf_freezeOrThaw_46 : decode b_Surf_freezeOrThaw 46 = .ok (.iconst 4, 1) := by decide +kernel
theorem d_Surf_freezeOrThaw_47 : decode b_Surf_freezeOrThaw 47 = .ok (.idiv, 1) := by decide +kernel
theorem d_Surf_freezeOrThaw_48 : decode b_Surf_freezeOrThaw 48 = .ok (.iadd, 1) := by decide +kernel
theorem d_Surf_freezeOrThaw_49 : decode b_Surf_freezeOrThaw 49 = .ok (.istore_n 1, 1) := by decide +kernel
theorem d_Surf_freezeOrThaw_50 : decode b_Surf_freezeOrThaw 50 = .ok (.aload_n 0, 1) := by decide +kernel
theorem d_Surf_freezeOrThaw_51 : decode b_Surf_freezeOrThaw 51 = .ok (.getfield 18, 3) := by decide +kernel
theorem d_Surf_freezeOrThaw_54 : decode b_Surf_freezeOrThaw 54 = .ok (.iload_n 1, 1) := by decide +kernel
theorem d_Surf_freezeOrThaw_55 : decode b_Surf_freezeOrThaw 55 = .ok (.invokestatic 27, 3) := by decide +kernel
theorem d_Surf_freezeOrThaw_58 : decode b_Surf_freezeOrThaw 58 = .ok (.istore_n 2, 1) := by decide +kernel
theorem d_Surf_freezeOrThaw_59 : decode b_Surf_freezeOrThaw 59 = .ok (.aload_n 0, 1) := by decide +kernel
theorem d_Surf_freezeOrThaw_60 : decode b_Surf_freezeOrThaw 60 = .ok (.getfield 21, 3) := by decide +kernel
theorem d_Surf_freezeOrThaw_63 : decode b_Surf_freezeOrThaw 63 = .ok (.iload_n 1, 1) := by decide +kernel
theorem d_Surf_freezeOrThaw_64 : decode b_Surf_freezeOrThaw 64 = .ok (.iload_n 2, 1) := by decide +kernel
theorem d_Surf_freezeOrThaw_65 : decode b_Surf_freezeOrThaw 65 = .ok (.isub, 1) := by decide +kernel
theorem d_Surf_freezeOrThaw_66 : decode b_Surf_freezeOrThaw 66 = .ok (.invokestatic 27, 3) := by decide +kernel
theorem d_Surf_freezeOrThaw_69 : decode b_Surf_freezeOrThaw 69 = .ok (.istore_n 3, 1) := by decide +kernel
theorem d_Surf_freezeOrThaw_70 : decode b_Surf_freezeOrThaw 70 = .ok (.aload_n 0, 1) := by decide +kernel
theorem d_Surf_freezeOrThaw_71 : decode b_Surf_freezeOrThaw 71 = .ok (.dup, 1) := by decide +kernel
theorem d_Surf_freezeOrThaw_72 : decode b_Surf_freezeOrThaw 72 = .ok (.getfield 18, 3) := by decide +kernel
theorem d_Surf_freezeOrThaw_75 : decode b_Surf_freezeOrThaw 75 = .ok (.iload_n 2, 1) := by decide +kernel
theorem d_Surf_freezeOrThaw_76 : decode b_Surf_freezeOrThaw 76 = .ok (.isub, 1) := by decide +kernel
theorem d_Surf_freezeOrThaw_77 : decode b_Surf_freezeOrThaw 77 = .ok (.putfield 18, 3) := by decide +kernel
theorem d_Surf_freezeOrThaw_80 : decode b_Surf_freezeOrThaw 80 = .ok (.aload_n 0, 1) := by decide +kernel
theorem d_Surf_freezeOrThaw_81 : decode b_Surf_freezeOrThaw 81 = .ok (.dup, 1) := by decide +kernel
theorem d_Surf_freezeOrThaw_82 : decode b_Surf_freezeOrThaw 82 = .ok (.getfield 21, 3) := by decide +kernel
theorem d_Surf_freezeOrThaw_85 : decode b_Surf_freezeOrThaw 85 = .ok (.iload_n 3, 1) := by decide +kernel
theorem d_Surf_freezeOrThaw_86 : decode b_Surf_freezeOrThaw 86 = .ok (.isub, 1) := by decide +kernel
theorem d_Surf_freezeOrThaw_87 : decode b_Surf_freezeOrThaw 87 = .ok (.putfield 21, 3) := by decide +kernel
theorem d_Surf_freezeOrThaw_90 : decode b_Surf_freezeOrThaw 90 = .ok (.aload_n 0, 1) := by decide +kernel
theorem d_Surf_freezeOrThaw_91 : decode b_Surf_freezeOrThaw 91 = .ok (.dup, 1) := by decide +kernel
theorem d_Surf_freezeOrThaw_92 : decode b_Surf_freezeOrThaw 92 = .ok (.getfield 15, 3) := by decide +kernel
theorem d_Surf_freezeOrThaw_95 : decode b_Surf_freezeOrThaw 95 = .ok (.iload_n 2, 1) := by decide +kernel
theorem d_Surf_freezeOrThaw_96 : decode b_Surf_freezeOrThaw 96 = .ok (.iload_n 3, 1) := by decide +kernel
theorem d_Surf_freezeOrThaw_97 : decode b_Surf_freezeOrThaw 97 = .ok (.iadd, 1) := by decide +kernel
theorem d_Surf_freezeOrThaw_98 : decode b_Surf_freezeOrThaw 98 = .ok (.iadd, 1) := by decide +kernel
theorem d_Surf_freezeOrThaw_99 : decode b_Surf_freezeOrThaw 99 = .ok (.putfield 15, 3) := by decide +kernel
theorem d_Surf_freezeOrThaw_102 : decode b_Surf_freezeOrThaw 102 = .ok (.return_, 1) := by decide +kernel
theorem d_Surf_runOff_0 : decode b_Surf_runOff 0 = .ok (.aload_n 0, 1) := by decide +kernel
theorem d_Surf_runOff_1 : decode b_Surf_runOff 1 = .ok (.getfield 15, 3) := by decide +kernel
theorem d_Surf_runOff_4 : decode b_Surf_runOff 4 = .ok (.bipush 8, 2) := by decide +kernel
theorem d_Surf_runOff_6 : decode b_Surf_runOff 6 = .ok (.if_icmp .gt 4, 3) := by decide +kernel
theorem d_Surf_runOff_9 : decode b_Surf_runOff 9 = .ok (.return_, 1) := by decide +kernel
theorem d_Surf_runOff_10 : decode b_Surf_runOff 10 = .ok (.aload_n 0, 1) := by decide +kernel
theorem d_Surf_runOff_11 : decode b_Surf_runOff 11 = .ok (.getfield 15, 3) := by decide +kernel
theorem d_Surf_runOff_14 : decode b_Surf_runOff 14 = .ok (.bipush 8, 2) := by decide +kernel
theorem d_Surf_runOff_16 : decode b_Surf_runOff 16 = .ok (.isub, 1) := by decide +kernel
theorem d_Surf_runOff_17 : decode b_Surf_runOff 17 = .ok (.istore_n 1, 1) := by decide +kernel
theorem d_Surf_runOff_18 : decode b_Surf_runOff 18 = .ok (.iload_n 1, 1) := by decide +kernel
theorem d_Surf_runOff_19 : decode b_Surf_runOff 19 = .ok (.aload_n 0, 1) := by decide +kernel
theorem d_Surf_runOff_20 : decode b_Surf_runOff 20 = .ok (.getfield 24, 3) := by decide +kernel
theorem d_Surf_runOff_23 : decode b_Surf_runOff 23 = .ok (.imul, 1) := by decide +kernel
theorem d_Surf_runOff_24 : decode b_Surf_runOff 24 = .ok (.aload_n 0, 1) := by decide +kernel
theorem d_Surf_runOff_25 : decode b_Surf_runOff 25 = .ok (.getfield 15, 3) := by decide +kernel
theorem d_Surf_runOff_28 : decode b_Surf_runOff 28 = .ok (.idiv, 1) := by decide +kernel
theorem d_Surf_runOff_29 : decode b_Surf_runOff 29 = .ok (.istore_n 2, 1) := by decide +kernel
theorem d_Surf_runOff_30 : decode b_Surf_runOff 30 = .ok (.aload_n 0, 1) := by decide +kernel
theorem d_Surf_runOff_31 : decode b_Surf_runOff 31 = .ok (.bipush 8, 2) := by decide +kernel
theorem d_Surf_runOff_33 : decode b_Surf_runOff 33 = .ok (.putfield 15, 3) := by decide +kernel
theorem d_Surf_runOff_36 : decode b_Surf_runOff 36 = .ok (.aload_n 0, 1) := by decide +kernel
theorem d_Surf_runOff_37 : decode b_Surf_runOff 37 = .ok (.dup, 1) := by decide +kernel
theorem d_Surf_runOff_38 : decode b_Surf_runOff 38 = .ok (.getfield 40, 3) := by decide +kernel
theorem d_Surf_runOff_41 : decode b_Surf_runOff 41 = .ok (.iload_n 1, 1) := by decide +kernel
theorem d_Surf_runOff_42 : decode b_Surf_runOff 42 = .ok (.iadd, 1) := by decide +kernel
theorem d_Surf_runOff_43 : decode b_Surf_runOff 43 = .ok (.putfield 40, 3) := by decide +kernel
theorem d_Surf_runOff_46 : decode b_Surf_runOff 46 = .ok (.aload_n 0, 1) := by decide +kernel
theorem d_Surf_runOff_47 : decode b_Surf_runOff 47 = .ok (.dup, 1) := by decide +kernel
theorem d_Surf_runOff_48 : decode b_Surf_runOff 48 = .ok (.getfield 24, 3) := by decide +kernel
theorem d_Surf_runOff_51 : decode b_Surf_runOff 51 = .ok (.iload_n 2, 1) := by decide +kernel
theorem d_Surf_runOff_52 : decode b_Surf_runOff 52 = .ok (.isub, 1) := by decide +kernel
theorem d_Surf_runOff_53 : decode b_Surf_runOff 53 = .ok (.putfield 24, 3) := by decide +kernel
theorem d_Surf_runOff_56 : decode b_Surf_runOff 56 = .ok (.aload_n 0, 1) := by decide +kernel
theorem d_Surf_runOff_57 : decode b_Surf_runOff 57 = .ok (.dup, 1) := by decide +kernel
theorem d_Surf_runOff_58 : decode b_Surf_runOff 58 = .ok (.getfield 43, 3) := by decide +kernel
theorem d_Surf_runOff_61 : decode b_Surf_runOff 61 = .ok (.iload_n 2, 1) := by decide +kernel
theorem d_Surf_runOff_62 : decode b_Surf_runOff 62 = .ok (.iadd, 1) := by decide +kernel
theorem d_Surf_runOff_63 : decode b_Surf_runOff 63 = .ok (.putfield 43, 3) := by decide +kernel
theorem d_Surf_runOff_66 : decode b_Surf_runOff 66 = .ok (.return_, 1) := by decide +kernel
theorem d_Surf_loseToFields_0 : decode b_Surf_loseToFields 0 = .ok (.iload_n 1, 1) := by decide +kernel
theorem d_Surf_loseToFields_1 : decode b_Surf_loseToFields 1 = .ok (.aload_n 0, 1) := by decide +kernel
theorem d_Surf_loseToFields_2 : decode b_Surf_loseToFields 2 = .ok (.getfield 24, 3) := by decide +kernel
theorem d_Surf_loseToFields_5 : decode b_Surf_loseToFields 5 = .ok (.invokestatic 27, 3) := by decide +kernel
theorem d_Surf_loseToFields_8 : decode b_Surf_loseToFields 8 = .ok (.istore_n 2, 1) := by decide +kernel
theorem d_Surf_loseToFields_9 : decode b_Surf_loseToFields 9 = .ok (.aload_n 0, 1) := by decide +kernel
theorem d_Surf_loseToFields_10 : decode b_Surf_loseToFields 10 = .ok (.dup, 1) := by decide +kernel
theorem d_Surf_loseToFields_11 : decode b_Surf_loseToFields 11 = .ok (.getfield 24, 3) := by decide +kernel
theorem d_Surf_loseToFields_14 : decode b_Surf_loseToFields 14 = .ok (.iload_n 2, 1) := by decide +kernel
theorem d_Surf_loseToFields_15 : decode b_Surf_loseToFields 15 = .ok (.isub, 1) := by decide +kernel
theorem d_Surf_loseToFields_16 : decode b_Surf_loseToFields 16 = .ok (.putfield 24, 3) := by decide +kernel
theorem d_Surf_loseToFields_19 : decode b_Surf_loseToFields 19 = .ok (.aload_n 0, 1) := by decide +kernel
theorem d_Surf_loseToFields_20 : decode b_Surf_loseToFields 20 = .ok (.dup, 1) := by decide +kernel
theorem d_Surf_loseToFields_21 : decode b_Surf_loseToFields 21 = .ok (.getfield 46, 3) := by decide +kernel
theorem d_Surf_loseToFields_24 : decode b_Surf_loseToFields 24 = .ok (.iload_n 2, 1) := by decide +kernel
theorem d_Surf_loseToFields_25 : decode b_Surf_loseToFields 25 = .ok (.iadd, 1) := by decide +kernel
theorem d_Surf_loseToFields_26 : decode b_Surf_loseToFields 26 = .ok (.putfield 46, 3) := by decide +kernel
theorem d_Surf_loseToFields_29 : decode b_Surf_loseToFields 29 = .ok (.return_, 1) := by decide +kernel
theorem d_Wea_init_0 : decode b_Wea_init 0 = .ok (.aload_n 0, 1) := by decide +kernel
theorem d_Wea_init_1 : decode b_Wea_init 1 = .ok (.invokespecial 1, 3) := by decide +kernel
theorem d_Wea_init_4 : decode b_Wea_init 4 = .ok (.aload_n 0, 1) := by decide +kernel
theorem d_Wea_init_5 : decode b_Wea_init 5 = .ok (.iconst 5, 1) := by decide +kernel
theorem d_Wea_init_6 : decode b_Wea_init 6 = .ok (.putfield 7, 3) := by decide +kernel
theorem d_Wea_init_9 : decode b_Wea_init 9 = .ok (.return_, 1) := by decide +kernel
theorem d_G_init_0 : decode b_G_init 0 = .ok (.aload_n 0, 1) := by decide +kernel
theorem d_G_init_1 : decode b_G_init 1 = .ok (.invokespecial 1, 3) := by decide +kernel
theorem d_G_init_4 : decode b_G_init 4 = .ok (.aload_n 0, 1) := by decide +kernel
theorem d_G_init_5 : decode b_G_init 5 = .ok (.bipush 8, 2) := by decide +kernel
theorem d_G_init_7 : decode b_G_init 7 = .ok (.anewarray 9, 3) := by decide +kernel
theorem d_G_init_10 : decode b_G_init 10 = .ok (.putfield 11, 3) := by decide +kernel
theorem d_G_init_13 : decode b_G_init 13 = .ok (.aload_n 0, 1) := by decide +kernel
theorem d_G_init_14 : decode b_G_init 14 = .ok (.iconst 3, 1) := by decide +kernel
theorem d_G_init_15 : decode b_G_init 15 = .ok (.anewarray 15, 3) := by decide +kernel
theorem d_G_init_18 : decode b_G_init 18 = .ok (.putfield 17, 3) := by decide +kernel
theorem d_G_init_21 : decode b_G_init 21 = .ok (.aload_n 0, 1) := by decide +kernel
theorem d_G_init_22 : decode b_G_init 22 = .ok (.bipush 20, 2) := by decide +kernel
theorem d_G_init_24 : decode b_G_init 24 = .ok (.anewarray 21, 3) := by decide +kernel
theorem d_G_init_27 : decode b_G_init 27 = .ok (.putfield 23, 3) := by decide +kernel
theorem d_G_init_30 : decode b_G_init 30 = .ok (.aload_n 0, 1) := by decide +kernel
theorem d_G_init_31 : decode b_G_init 31 = .ok (.iconst 5, 1) := by decide +kernel
theorem d_G_init_32 : decode b_G_init 32 = .ok (.anewarray 27, 3) := by decide +kernel
theorem d_G_init_35 : decode b_G_init 35 = .ok (.putfield 29, 3) := by decide +kernel
theorem d_G_init_38 : decode b_G_init 38 = .ok (.aload_n 0, 1) := by decide +kernel
theorem d_G_init_39 : decode b_G_init 39 = .ok (.new 33, 3) := by decide +kernel
theorem d_G_init_42 : decode b_G_init 42 = .ok (.dup, 1) := by decide +kernel
theorem d_G_init_43 : decode b_G_init 43 = .ok (.invokespecial 35, 3) := by decide +kernel
theorem d_G_init_46 : decode b_G_init 46 = .ok (.putfield 36, 3) := by decide +kernel
theorem d_G_init_49 : decode b_G_init 49 = .ok (.aload_n 0, 1) := by decide +kernel
theorem d_G_init_50 : decode b_G_init 50 = .ok (.new 40, 3) := by decide +kernel
theorem d_G_init_53 : decode b_G_init 53 = .ok (.dup, 1) := by decide +kernel
theorem d_G_init_54 : decode b_G_init 54 = .ok (.invokespecial 42, 3) := by decide +kernel
theorem d_G_init_57 : decode b_G_init 57 = .ok (.putfield 43, 3) := by decide +kernel
theorem d_G_init_60 : decode b_G_init 60 = .ok (.aload_n 0, 1) := by decide +kernel
theorem d_G_init_61 : decode b_G_init 61 = .ok (.bipush 7, 2) := by decide +kernel
theorem d_G_init_63 : decode b_G_init 63 = .ok (.newarray .int, 2) := by decide +kernel
theorem d_G_init_65 : decode b_G_init 65 = .ok (.putfield 47, 3) := by decide +kernel
theorem d_G_init_68 : decode b_G_init 68 = .ok (.aload_n 0, 1) := by decide +kernel
theorem d_G_init_69 : decode b_G_init 69 = .ok (.new 51, 3) := by decide +kernel
theorem d_G_init_72 : decode b_G_init 72 = .ok (.dup, 1) := by decide +kernel
theorem d_G_init_73 : decode b_G_init 73 = .ok (.invokespecial 53, 3) := by decide +kernel
theorem d_G_init_76 : decode b_G_init 76 = .ok (.putfield 54, 3) := by decide +kernel
theorem d_G_init_79 : decode b_G_init 79 = .ok (.aload_n 0, 1) := by decide +kernel
theorem d_G_init_80 : decode b_G_init 80 = .ok (.bipush 100, 2) := by decide +kernel
theorem d_G_init_82 : decode b_G_init 82 = .ok (.putfield 58, 3) := by decide +kernel
theorem d_G_init_85 : decode b_G_init 85 = .ok (.return_, 1) := by decide +kernel
theorem d_G_road_0 : decode b_G_road 0 = .ok (.iload_n 1, 1) := by decide +kernel
theorem d_G_road_1 : decode b_G_road 1 = .ok (.invokestatic 62, 3) := by decide +kernel
theorem d_G_road_4 : decode b_G_road 4 = .ok (.ifCond .eq 10, 3) := by decide +kernel
theorem d_G_road_7 : decode b_G_road 7 = .ok (.iload_n 2, 1) := by decide +kernel
theorem d_G_road_8 : decode b_G_road 8 = .ok (.invokestatic 62, 3) := by decide +kernel
theorem d_G_road_11 : decode b_G_road 11 = .ok (.ifCond .ne 13, 3) := by decide +kernel
theorem d_G_road_14 : decode b_G_road 14 = .ok (.new 66, 3) := by decide +kernel
theorem d_G_road_17 : decode b_G_road 17 = .ok (.dup, 1) := by decide +kernel
theorem d_G_road_18 : decode b_G_road 18 = .ok (.ldc 68, 2) := by decide +kernel
theorem d_G_road_20 : decode b_G_road 20 = .ok (.invokespecial 70, 3) := by decide +kernel
theorem d_G_road_23 : decode b_G_road 23 = .ok (.athrow, 1) := by decide +kernel
theorem d_G_road_24 : decode b_G_road 24 = .ok (.iload_n 1, 1) := by decide +kernel
theorem d_G_road_25 : decode b_G_road 25 = .ok (.iload_n 2, 1) := by decide +kernel
theorem d_G_road_26 : decode b_G_road 26 = .ok (.if_icmp .ne 13, 3) := by decide +kernel
theorem d_G_road_29 : decode b_G_road 29 = .ok (.new 73, 3) := by decide +kernel
theorem d_G_road_32 : decode b_G_road 32 = .ok (.dup, 1) := by decide +kernel
theorem d_G_road_33 : decode b_G_road 33 = .ok (.ldc 75, 2) := by decide +kernel
theorem d_G_road_35 : decode b_G_road 35 = .ok (.invokespecial 77, 3) := by decide +kernel
theorem d_G_road_38 : decode b_G_road 38 = .ok (.athrow, 1) := by decide +kernel
theorem d_G_road_39 : decode b_G_road 39 = .ok (.iload_n 3, 1) := by decide +kernel
theorem d_G_road_40 : decode b_G_road 40 = .ok (.iconst 1, 1) := by decide +kernel
theorem d_G_road_41 : decode b_G_road 41 = .ok (.bipush 6, 2) := by decide +kernel
theorem d_G_road_43 : decode b_G_road 43 = .ok (.invokestatic 78, 3) := by decide +kernel
theorem d_G_road_46 : decode b_G_road 46 = .ok (.ifCond .eq 34, 3) := by decide +kernel
theorem d_G_road_49 : decode b_G_road 49 = .ok (.iload 4, 2) := by decide +kernel
theorem d_G_road_51 : decode b_G_road 51 = .ok (.iconst 0, 1) := by decide +kernel
theorem d_G_road_52 : decode b_G_road 52 = .ok (.iconst 2, 1) := by decide +kernel
theorem d_G_road_53 : decode b_G_road 53 = .ok (.invokestatic 78, 3) := by decide +kernel
theorem d_G_road_56 : decode b_G_road 56 = .ok (.ifCond .eq 24, 3) := by decide +kernel
theorem d_G_road_59 : decode b_G_road 59 = .ok (.iload 5, 2) := by decide +kernel
theorem d_G_road_61 : decode b_G_road 61 = .ok (.iconst 0, 1) := by decide +kernel
theorem d_G_road_62 : decode b_G_road 62 = .ok (.bipush 9, 2) := by decide +kernel
theorem d_G_road_64 : decode b_G_road 64 = .ok (.invokestatic 78, 3) := by decide +kernel
theorem d_G_road_67 : decode b_G_road 67 = .ok (.ifCond .eq 13, 3) := by decide +kernel
theorem d_G_road_70 : decode b_G_road 70 = .ok (.iload 6, 2) := by decide +kernel
theorem d_G_road_72 : decode b_G_road 72 = .ok (.iconst 0, 1) := by decide +kernel
theorem d_G_road_73 : decode b_G_road 73 = .ok (.iconst 2, 1) := by decide +kernel
theorem d_G_road_74 : decode b_G_road 74 = .ok (.invokestatic 78, 3) := by decide +kernel
theorem d_G_road_77 : decode b_G_road 77 = .ok (.ifCond .ne 13, 3) := by decide +kernel
theorem d_G_road_80 : decode b_G_road 80 = .ok (.new 73, 3) := by decide +kernel
theorem d_G_road_83 : decode b_G_road 83 = .ok (.dup, 1) := by decide +kernel
theorem d_G_road_84 : decode b_G_road 84 = .ok (.ldc 82, 2) := by decide +kernel
theorem d_G_road_86 : decode b_G_road 86 = .ok (.invokespecial 77, 3) := by decide +kernel
theorem d_G_road_89 : decode b_G_road 89 = .ok (.athrow, 1) := by decide +kernel
theorem d_G_road_90 : decode b_G_road 90 = .ok (.aload_n 0, 1) := by decide +kernel
theorem d_G_road_91 : decode b_G_road 91 = .ok (.getfield 84, 3) := by decide +kernel
theorem d_G_road_94 : decode b_G_road 94 = .ok (.istore 8, 2) := by decide +kernel
theorem d_G_road_96 : decode b_G_road 96 = .ok (.iload 8, 2) := by decide +kernel
theorem d_G_road_98 : decode b_G_road 98 = .ok (.aload_n 0, 1) := by decide +kernel
theorem d_G_road_99 : decode b_G_road 99 = .ok (.getfield 11, 3) := by decide +kernel
theorem d_G_road_102 : decode b_G_road 102 = .ok (.arraylength, 1) := by decide +kernel
theorem d_G_road_103 : decode b_G_road 103 = .ok (.if_icmp .lt 13, 3) := by decide +kernel
theorem d_G_road_106 : decode b_G_road 106 = .ok (.new 87, 3) := by decide +kernel
theorem d_G_road_109 : decode b_G_road 109 = .ok (.dup, 1) := by decide +kernel
theorem d_G_road_110 : decode b_G_road 110 = .ok (.ldc 89, 2) := by decide +kernel
theorem d_G_road_112 : decode b_G_road 112 = .ok (.invokespecial 91, 3) := by decide +kernel
theorem d_G_road_115 : decode b_G_road 115 = .ok (.athrow, 1) := by decide +kernel
theorem d_G_road_116 : decode b_G_road 116 = .ok (.aload_n 0, 1) := by decide +kernel
theorem d_G_road_117 : decode b_G_road 117 = .ok (.getfield 11, 3) := by decide +kernel
theorem d_G_road_120 : decode b_G_road 120 = .ok (.iload 8, 2) := by decide +kernel
theorem d_G_road_122 : decode b_G_road 122 = .ok (.new 9, 3) := by decide +kernel
theorem d_G_road_125 : decode b_G_road 125 = .ok (.dup, 1) := by decide +kernel
theorem d_G_road_126 : decode b_G_road 126 = .ok (.iload_n 1, 1) := by decide +kernel
theorem d_G_road_127 : decode b_G_road 127 = .ok (.iload_n 2, 1) := by decide +kernel
theorem d_G_road_128 : decode b_G_road 128 = .ok (.iload_n 3, 1) := by decide +kernel
theorem d_G_road_129 : decode b_G_road 129 = .ok (.iload 4, 2) := by decide +kernel
theorem d_G_road_131 : decode b_G_road 131 = .ok (.iload 5, 2) := by decide +kernel
theorem d_G_road_133 : decode b_G_road 133 = .ok (.iload 6, 2) := by decide +kernel
theorem d_G_road_135 : decode b_G_road 135 = .ok (.iload 7, 2) := by decide +kernel
theorem d_G_road_137 : decode b_G_road 137 = .ok (.invokespecial 92, 3) := by decide +kernel
theorem d_G_road_140 : decode b_G_road 140 = .ok (.aastore, 1) := by decide +kernel
theorem d_G_road_141 : decode b_G_road 141 = .ok (.aload_n 0, 1) := by decide +kernel
theorem d_G_road_142 : decode b_G_road 142 = .ok (.iload 8, 2) := by decide +kernel
theorem d_G_road_144 : decode b_G_road 144 = .ok (.iconst 1, 1) := by decide +kernel
theorem d_G_road_145 : decode b_G_road 145 = .ok (.iadd, 1) := by decide +kernel
theorem d_G_road_146 : decode b_G_road 146 = .ok (.putfield 84, 3) := by decide +kernel
theorem d_G_road_149 : decode b_G_road 149 = .ok (.iload 8, 2) := by decide +kernel
theorem d_G_road_151 : decode b_G_road 151 = .ok (.ireturn, 1) := by decide +kernel
theorem d_G_air_0 : decode b_G_air 0 = .ok (.iload_n 1, 1) := by decide +kernel
theorem d_G_air_1 : decode b_G_air 1 = .ok (.invokestatic 95, 3) := by decide +kernel
theorem d_G_air_4 : decode b_G_air 4 = .ok (.ifCond .ne 13, 3) := by decide +kernel
theorem d_G_air_7 : decode b_G_air 7 = .ok (.new 73, 3) := by decide +kernel
theorem d_G_air_10 : decode b_G_air 10 = .ok (.dup, 1) := by decide +kernel
theorem d_G_air_11 : decode b_G_air 11 = .ok (.ldc 98, 2) := by decide +kernel
theorem d_G_air_13 : decode b_G_air 13 = .ok (.invokespecial 77, 3) := by decide +kernel
theorem d_G_air_16 : decode b_G_air 16 = .ok (.athrow, 1) := by decide +kernel
theorem d_G_air_17 : decode b_G_air 17 = .ok (.aload_n 0, 1) := by decide +kernel
theorem d_G_air_18 : decode b_G_air 18 = .ok (.getfield 36, 3) := by decide +kernel
theorem d_G_air_21 : decode b_G_air 21 = .ok (.getfield 100, 3) := by decide +kernel
theorem d_G_air_24 : decode b_G_air 24 = .ok (.istore_n 3, 1) := by decide +kernel
theorem d_G_air_25 : decode b_G_air 25 = .ok (.aload_n 0, 1) := by decide +kernel
theorem d_G_air_26 : decode b_G_air 26 = .ok (.getfield 36, 3) := by decide +kernel
theorem d_G_air_29 : decode b_G_air 29 = .ok (.iload_n 1, 1) := by decide +kernel
theorem d_G_air_30 : decode b_G_air 30 = .ok (.putfield 100, 3) := by decide +kernel
theorem d_G_air_33 : decode b_G_air 33 = .ok (.aload_n 0, 1) := by decide +kernel
theorem d_G_air_34 : decode b_G_air 34 = .ok (.getfield 36, 3) := by decide +kernel
theorem d_G_air_37 : decode b_G_air 37 = .ok (.iload_n 2, 1) := by decide +kernel
theorem d_G_air_38 : decode b_G_air 38 = .ok (.putfield 103, 3) := by decide +kernel
theorem d_G_air_41 : decode b_G_air 41 = .ok (.iload_n 3, 1) := by decide +kernel
theorem d_G_air_42 : decode b_G_air 42 = .ok (.ireturn, 1) := by decide +kernel
theorem d_G_fall_0 : decode b_G_fall 0 = .ok (.iload_n 1, 1) := by decide +kernel
theorem d_G_fall_1 : decode b_G_fall 1 = .ok (.iconst 0, 1) := by decide +kernel
theorem d_G_fall_2 : decode b_G_fall 2 = .ok (.iconst 3, 1) := by decide +kernel
theorem d_G_fall_3 : decode b_G_fall 3 = .ok (.invokestatic 78, 3) := by decide +kernel
theorem d_G_fall_6 : decode b_G_fall 6 = .ok (.ifCond .eq 21, 3) := by decide +kernel
theorem d_G_fall_9 : decode b_G_fall 9 = .ok (.iload_n 2, 1) := by decide +kernel
theorem d_G_fall_10 : decode b_G_fall 10 = .ok (.iconst 0, 1) := by decide +kernel
theorem d_G_fall_11 : decode b_G_fall 11 = .ok (.iconst 3, 1) := by decide +kernel
theorem d_G_fall_12 : decode b_G_fall 12 = .ok (.invokestatic 78, 3) := by decide +kernel
theorem d_G_fall_15 : decode b_G_fall 15 = .ok (.ifCond .eq 12, 3) := by decide +kernel
theorem d_G_fall_18 : decode b_G_fall 18 = .ok (.iload_n 3, 1) := by decide +kernel
theorem d_G_fall_19 : decode b_G_fall 19 = .ok (.iconst 0, 1) := by decide +kernel
theorem d_G_fall_20 : decode b_G_fall 20 = .ok (.iconst 3, 1) := by decide +kernel
theorem d_G_fall_21 : decode b_G_fall 21 = .ok (.invokestatic 78, 3) := by decide +kernel
theorem d_G_fall_24 : decode b_G_fall 24 = .ok (.ifCond .ne 13, 3) := by decide +kernel
theorem d_G_fall_27 : decode b_G_fall 27 = .ok (.new 73, 3) := by decide +kernel
theorem d_G_fall_30 : decode b_G_fall 30 = .ok (.dup, 1) := by decide +kernel
theorem d_G_fall_31 : decode b_G_fall 31 = .ok (.ldc 107, 2) := by decide +kernel
theorem d_G_fall_33 : decode b_G_fall 33 = .ok (.invokespecial 77, 3) := by decide +kernel
theorem d_G_fall_36 : decode b_G_fall 36 = .ok (.athrow, 1) := by decide +kernel
theorem d_G_fall_37 : decode b_G_fall 37 = .ok (.aload_n 0, 1) := by decide +kernel
theorem d_G_fall_38 : decode b_G_fall 38 = .ok (.getfield 36, 3) := by decide +kernel
theorem d_G_fall_41 : decode b_G_fall 41 = .ok (.getfield 109, 3) := by decide +kernel
theorem d_G_fall_44 : decode b_G_fall 44 = .ok (.istore 4, 2) := by decide +kernel
theorem d_G_fall_46 : decode b_G_fall 46 = .ok (.aload_n 0, 1) := by decide +kernel
theorem d_G_fall_47 : decode b_G_fall 47 = .ok (.getfield 36, 3) := by decide +kernel
theorem d_G_fall_50 : decode b_G_fall 50 = .ok (.iload_n 1, 1) := by decide +kernel
theorem d_G_fall_51 : decode b_G_fall 51 = .ok (.putfield 112, 3) := by decide +kernel
theorem d_G_fall_54 : decode b_G_fall 54 = .ok (.aload_n 0, 1) := by decide +kernel
theorem d_G_fall_55 : decode b_G_fall 55 = .ok (.getfield 36, 3) := by decide +kernel
theorem d_G_fall_58 : decode b_G_fall 58 = .ok (.iload_n 2, 1) := by decide +kernel
theorem d_G_fall_59 : decode b_G_fall 59 = .ok (.putfield 115, 3) := by decide +kernel
theorem d_G_fall_62 : decode b_G_fall 62 = .ok (.aload_n 0, 1) := by decide +kernel
theorem d_G_fall_63 : decode b_G_fall 63 = .ok (.getfield 36, 3) := by decide +kernel
theorem d_G_fall_66 : decode b_G_fall 66 = .ok (.iload_n 3, 1) := by decide +kernel
theorem d_G_fall_67 : decode b_G_fall 67 = .ok (.putfield 109, 3) := by decide +kernel
theorem d_G_fall_70 : decode b_G_fall 70 = .ok (.iload 4, 2) := by decide +kernel
theorem d_G_fall_72 : decode b_G_fall 72 = .ok (.ireturn, 1) := by decide +kernel
theorem d_G_forecast_0 : decode b_G_forecast 0 = .ok (.iload_n 1, 1) := by decide +kernel
theorem d_G_forecast_1 : decode b_G_forecast 1 = .ok (.iconst 1, 1) := by decide +kernel
theorem d_G_forecast_2 : decode b_G_forecast 2 = .ok (.bipush 48, 2) := by decide +kernel
theorem d_G_forecast_4 : decode b_G_forecast 4 = .ok (.invokestatic 78, 3) := by decide +kernel
theorem d_G_forecast_7 : decode b_G_forecast 7 = .ok (.ifCond .ne 13, 3) := by decide +kernel
theorem d_G_forecast_10 : decode b_G_forecast 10 = .ok (.new 73, 3) := by decide +kernel
theorem d_G_forecast_13 : decode b_G_forecast 13 = .ok (.dup, 1) := by decide +kernel
theorem d_G_forecast_14 : decode b_G_forecast 14 = .ok (.ldc 118, 2) := by decide +kernel
theorem d_G_forecast_16 : decode b_G_forecast 16 = .ok (.invokespecial 77, 3) := by decide +kernel
theorem d_G_forecast_19 : decode b_G_forecast 19 = .ok (.athrow, 1) := by decide +kernel
theorem d_G_forecast_20 : decode b_G_forecast 20 = .ok (.iload_n 2, 1) := by decide +kernel
theorem d_G_forecast_21 : decode b_G_forecast 21 = .ok (.invokestatic 95, 3) := by decide +kernel
theorem d_G_forecast_24 : decode b_G_forecast 24 = .ok (.ifCond .eq 18, 3) := by decide +kernel
theorem d_G_forecast_27 : decode b_G_forecast 27 = .ok (.iload_n 3, 1) := by decide +kernel
theorem d_G_forecast_28 : decode b_G_forecast 28 = .ok (.invokestatic 95, 3) := by decide +kernel
theorem d_G_forecast_31 : decode b_G_forecast 31 = .ok (.ifCond .eq 11, 3) := by decide +kernel
theorem d_G_forecast_34 : decode b_G_forecast 34 = .ok (.iload 4, 2) := by decide +kernel
theorem d_G_forecast_36 : decode b_G_forecast 36 = .ok (.invokestatic 95, 3) := by decide +kernel
theorem d_G_forecast_39 : decode b_G_forecast 39 = .ok (.ifCond .ne 13, 3) := by decide +kernel
theorem d_G_forecast_42 : decode b_G_forecast 42 = .ok (.new 73, 3) := by decide +kernel
theorem d_G_forecast_45 : decode b_G_forecast 45 = .ok (.dup, 1) := by decide +kernel
theorem d_G_forecast_46 : decode b_G_forecast 46 = .ok (.ldc 120, 2) := by decide +kernel
theorem d_G_forecast_48 : decode b_G_forecast 48 = .ok (.invokespecial 77, 3) := by decide +kernel
theorem d_G_forecast_51 : decode b_G_forecast 51 = .ok (.athrow, 1) := by decide +kernel
theorem d_G_forecast_52 : decode b_G_forecast 52 = .ok (.aload_n 0, 1) := by decide +kernel
theorem d_G_forecast_53 : decode b_G_forecast 53 = .ok (.getfield 122, 3) := by decide +kernel
theorem d_G_forecast_56 : decode b_G_forecast 56 = .ok (.aload_n 0, 1) := by decide +kernel
theorem d_G_forecast_57 : decode b_G_forecast 57 = .ok (.getfield 23, 3) := by decide +kernel
theorem d_G_forecast_60 : decode b_G_forecast 60 = .ok (.arraylength, 1) := by decide +kernel
theorem d_G_forecast_61 : decode b_G_forecast 61 = .ok (.if_icmp .lt 13, 3) := by decide +kernel
theorem d_G_forecast_64 : decode b_G_forecast 64 = .ok (.new 87, 3) := by decide +kernel
theorem d_G_forecast_67 : decode b_G_forecast 67 = .ok (.dup, 1) := by decide +kernel
theorem d_G_forecast_68 : decode b_G_forecast 68 = .ok (.ldc 125, 2) := by decide +kernel
theorem d_G_forecast_70 : decode b_G_forecast 70 = .ok (.invokespecial 91, 3) := by decide +kernel
theorem d_G_forecast_73 : decode b_G_forecast 73 = .ok (.athrow, 1) := by decide +kernel
theorem d_G_forecast_74 : decode b_G_forecast 74 = .ok (.new 21, 3) := by decide +kernel
theorem d_G_forecast_77 : decode b_G_forecast 77 = .ok (.dup, 1) := by decide +kernel
theorem d_G_forecast_78 : decode b_G_forecast 78 = .ok (.aload_n 0, 1) := by decide +kernel
theorem d_G_forecast_79 : decode b_G_forecast 79 = .ok (.getfield 127, 3) := by decide +kernel
theorem d_G_forecast_82 : decode b_G_forecast 82 = .ok (.aload_n 0, 1) := by decide +kernel
theorem d_G_forecast_83 : decode b_G_forecast 83 = .ok (.getfield 127, 3) := by decide +kernel
theorem d_G_forecast_86 : decode b_G_forecast 86 = .ok (.iload_n 1, 1) := by decide +kernel
theorem d_G_forecast_87 : decode b_G_forecast 87 = .ok (.iadd, 1) := by decide +kernel
theorem d_G_forecast_88 : decode b_G_forecast 88 = .ok (.aload_n 0, 1) := by decide +kernel
theorem d_G_forecast_89 : decode b_G_forecast 89 = .ok (.getfield 58, 3) := by decide +kernel
theorem d_G_forecast_92 : decode b_G_forecast 92 = .ok (.aload_n 0, 1) := by decide +kernel
theorem d_G_forecast_93 : decode b_G_forecast 93 = .ok (.invokevirtual 130, 3) := by decide +kernel
theorem d_G_forecast_96 : decode b_G_forecast 96 = .ok (.iadd, 1) := by decide +kernel
theorem d_G_forecast_97 : decode b_G_forecast 97 = .ok (.invokespecial 134, 3) := by decide +kernel
theorem d_G_forecast_100 : decode b_G_forecast 100 = .ok (.astore 6, 2) := by decide +kernel
theorem d_G_forecast_102 : decode b_G_forecast 102 = .ok (.aload 6, 2) := by decide +kernel
theorem d_G_forecast_104 : decode b_G_forecast 104 = .ok (.iload_n 2, 1) := by decide +kernel
theorem d_G_forecast_105 : decode b_G_forecast 105 = .ok (.iload_n 3, 1) := by decide +kernel
theorem d_G_forecast_106 : decode b_G_forecast 106 = .ok (.iload 4, 2) := by decide +kernel
theorem d_G_forecast_108 : decode b_G_forecast 108 = .ok (.iload 5, 2) := by decide +kernel
theorem d_G_forecast_110 : decode b_G_forecast 110 = .ok (.invokevirtual 137, 3) := by decide +kernel
theorem d_G_forecast_113 : decode b_G_forecast 113 = .ok (.aload_n 0, 1) := by decide +kernel
theorem d_G_forecast_114 : decode b_G_forecast 114 = .ok (.getfield 23, 3) := by decide +kernel
theorem d_G_forecast_117 : decode b_G_forecast 117 = .ok (.aload_n 0, 1) := by decide +kernel
theorem d_G_forecast_118 : decode b_G_forecast 118 = .ok (.getfield 122, 3) := by decide +kernel
theorem d_G_forecast_121 : decode b_G_forecast 121 = .ok (.aload 6, 2) := by decide +kernel
theorem d_G_forecast_123 : decode b_G_forecast 123 = .ok (.aastore, 1) := by decide +kernel
theorem d_G_forecast_124 : decode b_G_forecast 124 = .ok (.aload_n 0, 1) := by decide +kernel
theorem d_G_forecast_125 : decode b_G_forecast 125 = .ok (.dup, 1) := by decide +kernel
theorem d_G_forecast_126 : decode b_G_forecast 126 = .ok (.getfield 122, 3) := by decide +kernel
theorem d_G_forecast_129 : decode b_G_forecast 129 = .ok (.iconst 1, 1) := by decide +kernel
theorem d_G_forecast_130 : decode b_G_forecast 130 = .ok (.iadd, 1) := by decide +kernel
theorem d_G_forecast_131 : decode b_G_forecast 131 = .ok (.putfield 122, 3) := by decide +kernel
theorem d_G_forecast_134 : decode b_G_forecast 134 = .ok (.aload_n 0, 1) := by decide +kernel
theorem d_G_forecast_135 : decode b_G_forecast 135 = .ok (.aload 6, 2) := by decide +kernel
theorem d_G_forecast_137 : decode b_G_forecast 137 = .ok (.invokevirtual 141, 3) := by decide +kernel
theorem d_G_forecast_140 : decode b_G_forecast 140 = .ok (.ireturn, 1) := by decide +kernel
theorem d_G_pass_0 : decode b_G_pass 0 = .ok (.iload_n 1, 1) := by decide +kernel
theorem d_G_pass_1 : decode b_G_pass 1 = .ok (.iconst 1, 1) := by decide +kernel
theorem d_G_pass_2 : decode b_G_pass 2 = .ok (.bipush 20, 2) := by decide +kernel
theorem d_G_pass_4 : decode b_G_pass 4 = .ok (.invokestatic 78, 3) := by decide +kernel
theorem d_G_pass_7 : decode b_G_pass 7 = .ok (.ifCond .ne 13, 3) := by decide +kernel
theorem d_G_pass_10 : decode b_G_pass 10 = .ok (.new 73, 3) := by decide +kernel
theorem d_G_pass_13 : decode b_G_pass 13 = .ok (.dup, 1) := by decide +kernel
theorem d_G_pass_14 : decode b_G_pass 14 = .ok (.ldc 145, 2) := by decide +kernel
theorem d_G_pass_16 : decode b_G_pass 16 = .ok (.invokespecial 77, 3) := by decide +kernel
theorem d_G_pass_19 : decode b_G_pass 19 = .ok (.athrow, 1) := by decide +kernel
theorem d_G_pass_20 : decode b_G_pass 20 = .ok (.aload_n 0, 1) := by decide +kernel
theorem d_G_pass_21 : decode b_G_pass 21 = .ok (.getfield 127, 3) := by decide +kernel
theorem d_G_pass_24 : decode b_G_pass 24 = .ok (.iload_n 1, 1) := by decide +kernel
theorem d_G_pass_25 : decode b_G_pass 25 = .ok (.iadd, 1) := by decide +kernel
theorem d_G_pass_26 : decode b_G_pass 26 = .ok (.sipush 199, 3) := by decide +kernel
theorem d_G_pass_29 : decode b_G_pass 29 = .ok (.if_icmp .le 13, 3) := by decide +kernel
theorem d_G_pass_32 : decode b_G_pass 32 = .ok (.new 87, 3) := by decide +kernel
theorem d_G_pass_35 : decode b_G_pass 35 = .ok (.dup, 1) := by decide +kernel
theorem d_G_pass_36 : decode b_G_pass 36 = .ok (.ldc 147, 2) := by decide +kernel
theorem d_G_pass_38 : decode b_G_pass 38 = .ok (.invokespecial 91, 3) := by decide +kernel
theorem d_G_pass_41 : decode b_G_pass 41 = .ok (.athrow, 1) := by decide +kernel
theorem d_G_pass_42 : decode b_G_pass 42 = .ok (.iconst 0, 1) := by decide +kernel
theorem d_G_pass_43 : decode b_G_pass 43 = .ok (.istore_n 2, 1) := by decide +kernel
theorem d_G_pass_44 : decode b_G_pass 44 = .ok (.iconst 0, 1) := by decide +kernel
theorem d_G_pass_45 : decode b_G_pass 45 = .ok (.istore_n 3, 1) := by decide +kernel
theorem d_G_pass_46 : decode b_G_pass 46 = .ok (.iload_n 3, 1) := by decide +kernel
theorem d_G_pass_47 : decode b_G_pass 47 = .ok (.iload_n 1, 1) := by decide +kernel
theorem d_G_pass_48 : decode b_G_pass 48 = .ok (.if_icmp .ge 20, 3) := by decide +kernel
theorem d_G_pass_51 : decode b_G_pass 51 = .ok (.aload_n 0, 1) := by decide +kernel
theorem d_G_pass_52 : decode b_G_pass 52 = .ok (.invokevirtual 149, 3) := by decide +kernel
theorem d_G_pass_55 : decode b_G_pass 55 = .ok (.iload_n 2, 1) := by decide +kernel
theorem d_G_pass_56 : decode b_G_pass 56 = .ok (.aload_n 0, 1) := by decide +kernel
theorem d_G_pass_57 : decode b_G_pass 57 = .ok (.invokevirtual 152, 3) := by decide +kernel
theorem d_G_pass_60 : decode b_G_pass 60 = .ok (.iadd, 1) := by decide +kernel
theorem d_G_pass_61 : decode b_G_pass 61 = .ok (.istore_n 2, 1) := by decide +kernel
theorem d_G_pass_62 : decode b_G_pass 62 = .ok (.iinc 3 1, 3) := by decide +kernel
theorem d_G_pass_65 : decode b_G_pass 65 = .ok (.goto (-19), 3) := by decide +kernel
theorem d_G_pass_68 : decode b_G_pass 68 = .ok (.iload_n 2, 1) := by decide +kernel
theorem d_G_pass_69 : decode b_G_pass 69 = .ok (.ireturn, 1) := by decide +kernel
theorem d_G_lorry_0 : decode b_G_lorry 0 = .ok (.aload_n 0, 1) := by decide +kernel
theorem d_G_lorry_1 : decode b_G_lorry 1 = .ok (.getfield 155, 3) := by decide +kernel
theorem d_G_lorry_4 : decode b_G_lorry 4 = .ok (.istore_n 2, 1) := by decide +kernel
theorem d_G_lorry_5 : decode b_G_lorry 5 = .ok (.iload_n 2, 1) := by decide +kernel
theorem d_G_lorry_6 : decode b_G_lorry 6 = .ok (.aload_n 0, 1) := by decide +kernel
theorem d_G_lorry_7 : decode b_G_lorry 7 = .ok (.getfield 17, 3) := by decide +kernel
theorem d_G_lorry_10 : decode b_G_lorry 10 = .ok (.arraylength, 1) := by decide +kernel
theorem d_G_lorry_11 : decode b_G_lorry 11 = .ok (.if_icmp .lt 13, 3) := by decide +kernel
theorem d_G_lorry_14 : decode b_G_lorry 14 = .ok (.new 87, 3) := by decide +kernel
theorem d_G_lorry_17 : decode b_G_lorry 17 = .ok (.dup, 1) := by decide +kernel
theorem d_G_lorry_18 : decode b_G_lorry 18 = .ok (.ldc 158, 2) := by decide +kernel
theorem d_G_lorry_20 : decode b_G_lorry 20 = .ok (.invokespecial 91, 3) := by decide +kernel
theorem d_G_lorry_23 : decode b_G_lorry 23 = .ok (.athrow, 1) := by decide +kernel
theorem d_G_lorry_24 : decode b_G_lorry 24 = .ok (.aload_n 0, 1) := by decide +kernel
theorem d_G_lorry_25 : decode b_G_lorry 25 = .ok (.getfield 17, 3) := by decide +kernel
theorem d_G_lorry_28 : decode b_G_lorry 28 = .ok (.iload_n 2, 1) := by decide +kernel
theorem d_G_lorry_29 : decode b_G_lorry 29 = .ok (.new 15, 3) := by decide +kernel
theorem d_G_lorry_32 : decode b_G_lorry 32 = .ok (.dup, 1) := by decide +kernel
theorem d_G_lorry_33 : decode b_G_lorry 33 = .ok (.iload_n 1, 1) := by decide +kernel
theorem d_G_lorry_34 : decode b_G_lorry 34 = .ok (.invokespecial 160, 3) := by decide +kernel
theorem d_G_lorry_37 : decode b_G_lorry 37 = .ok (.aastore, 1) := by decide +kernel
theorem d_G_lorry_38 : decode b_G_lorry 38 = .ok (.aload_n 0, 1) := by decide +kernel
theorem d_G_lorry_39 : decode b_G_lorry 39 = .ok (.iload_n 2, 1) := by decide +kernel
theorem d_G_lorry_40 : decode b_G_lorry 40 = .ok (.iconst 1, 1) := by decide +kernel
theorem d_G_lorry_41 : decode b_G_lorry 41 = .ok (.iadd, 1) := by decide +kernel
theorem d_G_lorry_42 : decode b_G_lorry 42 = .ok (.putfield 155, 3) := by decide +kernel
theorem d_G_lorry_45 : decode b_G_lorry 45 = .ok (.iload_n 2, 1) := by decide +kernel
theorem d_G_lorry_46 : decode b_G_lorry 46 = .ok (.ireturn, 1) := by decide +kernel
theorem d_G_rate_0 : decode b_G_rate 0 = .ok (.aload_n 0, 1) := by decide +kernel
theorem d_G_rate_1 : decode b_G_rate 1 = .ok (.iload_n 1, 1) := by decide +kernel
theorem d_G_rate_2 : decode b_G_rate 2 = .ok (.invokevirtual 163, 3) := by decide +kernel
theorem d_G_rate_5 : decode b_G_rate 5 = .ok (.astore_n 3, 1) := by decide +kernel
theorem d_G_rate_6 : decode b_G_rate 6 = .ok (.aload_n 3, 1) := by decide +kernel
theorem d_G_rate_7 : decode b_G_rate 7 = .ok (.ifnonnull 13, 3) := by decide +kernel
theorem d_G_rate_10 : decode b_G_rate 10 = .ok (.new 66, 3) := by decide +kernel
theorem d_G_rate_13 : decode b_G_rate 13 = .ok (.dup, 1) := by decide +kernel
theorem d_G_rate_14 : decode b_G_rate 14 = .ok (.ldc 167, 2) := by decide +kernel
theorem d_G_rate_16 : decode b_G_rate 16 = .ok (.invokespecial 70, 3) := by decide +kernel
theorem d_G_rate_19 : decode b_G_rate 19 = .ok (.athrow, 1) := by decide +kernel
theorem d_G_rate_20 : decode b_G_rate 20 = .ok (.iload_n 2, 1) := by decide +kernel
theorem d_G_rate_21 : decode b_G_rate 21 = .ok (.iconst 0, 1) := by decide +kernel
theorem d_G_rate_22 : decode b_G_rate 22 = .ok (.bipush 9, 2) := by decide +kernel
theorem d_G_rate_24 : decode b_G_rate 24 = .ok (.invokestatic 78, 3) := by decide +kernel
theorem d_G_rate_27 : decode b_G_rate 27 = .ok (.ifCond .ne 13, 3) := by decide +kernel
theorem d_G_rate_30 : decode b_G_rate 30 = .ok (.new 73, 3) := by decide +kernel
theorem d_G_rate_33 : decode b_G_rate 33 = .ok (.dup, 1) := by decide +kernel
theorem d_G_rate_34 : decode b_G_rate 34 = .ok (.ldc 169, 2) := by decide +kernel
theorem d_G_rate_36 : decode b_G_rate 36 = .ok (.invokespecial 77, 3) := by decide +kernel
theorem d_G_rate_39 : decode b_G_rate 39 = .ok (.athrow, 1) := by decide +kernel
theorem d_G_rate_40 : decode b_G_rate 40 = .ok (.aload_n 3, 1) := by decide +kernel
theorem d_G_rate_41 : decode b_G_rate 41 = .ok (.getfield 171, 3) := by decide +kernel
theorem d_G_rate_44 : decode b_G_rate 44 = .ok (.istore 4, 2) := by decide +kernel
theorem d_G_rate_46 : decode b_G_rate 46 = .ok (.aload_n 3, 1) := by decide +kernel
theorem d_G_rate_47 : decode b_G_rate 47 = .ok (.iload_n 2, 1) := by decide +kernel
theorem d_G_rate_48 : decode b_G_rate 48 = .ok (.putfield 171, 3) := by decide +kernel
theorem d_G_rate_51 : decode b_G_rate 51 = .ok (.iload 4, 2) := by decide +kernel
theorem d_G_rate_53 : decode b_G_rate 53 = .ok (.ireturn, 1) := by decide +kernel
theorem d_G_order_0 : decode b_G_order 0 = .ok (.aload_n 0, 1) := by decide +kernel
theorem d_G_order_1 : decode b_G_order 1 = .ok (.iload_n 1, 1) := by decide +kernel
theorem d_G_order_2 : decode b_G_order 2 = .ok (.invokevirtual 163, 3) := by decide +kernel
theorem d_G_order_5 : decode b_G_order 5 = .ok (.astore_n 3, 1) := by decide +kernel
theorem d_G_order_6 : decode b_G_order 6 = .ok (.aload_n 3, 1) := by decide +kernel
theorem d_G_order_7 : decode b_G_order 7 = .ok (.ifnull 11, 3) := by decide +kernel
theorem d_G_order_10 : decode b_G_order 10 = .ok (.aload_n 0, 1) := by decide +kernel
theorem d_G_order_11 : decode b_G_order 11 = .ok (.iload_n 2, 1) := by decide +kernel
theorem d_G_order_12 : decode b_G_order 12 = .ok (.invokevirtual 174, 3) := by decide +kernel
theorem d_G_order_15 : decode b_G_order 15 = .ok (.ifnonnull 13, 3) := by decide +kernel
theorem d_G_order_18 : decode b_G_order 18 = .ok (.new 66, 3) := by decide +kernel
theorem d_G_order_21 : decode b_G_order 21 = .ok (.dup, 1) := by decide +kernel
theorem d_G_order_22 : decode b_G_order 22 = .ok (.ldc 178, 2) := by decide +kernel
theorem d_G_order_24 : decode b_G_order 24 = .ok (.invokespecial 70, 3) := by decide +kernel
theorem d_G_order_27 : decode b_G_order 27 = .ok (.athrow, 1) := by decide +kernel
theorem d_G_order_28 : decode b_G_order 28 = .ok (.aload_n 3, 1) := by decide +kernel
theorem d_G_order_29 : decode b_G_order 29 = .ok (.getfield 180, 3) := by decide +kernel
theorem d_G_order_32 : decode b_G_order 32 = .ok (.bipush 8, 2) := by decide +kernel
theorem d_G_order_34 : decode b_G_order 34 = .ok (.if_icmp .lt 13, 3) := by decide +kernel
theorem d_G_order_37 : decode b_G_order 37 = .ok (.new 87, 3) := by decide +kernel
theorem d_G_order_40 : decode b_G_order 40 = .ok (.dup, 1) := by decide +kernel
theorem d_G_order_41 : decode b_G_order 41 = .ok (.ldc 183, 2) := by decide +kernel
theorem d_G_order_43 : decode b_G_order 43 = .ok (.invokespecial 91, 3) := by decide +kernel
theorem d_G_order_46 : decode b_G_order 46 = .ok (.athrow, 1) := by decide +kernel
theorem d_G_order_47 : decode b_G_order 47 = .ok (.aload_n 3, 1) := by decide +kernel
theorem d_G_order_48 : decode b_G_order 48 = .ok (.iload_n 2, 1) := by decide +kernel
theorem d_G_order_49 : decode b_G_order 49 = .ok (.invokevirtual 185, 3) := by decide +kernel
theorem d_G_order_52 : decode b_G_order 52 = .ok (.aload_n 3, 1) := by decide +kernel
theorem d_G_order_53 : decode b_G_order 53 = .ok (.getfield 180, 3) := by decide +kernel
theorem d_G_order_56 : decode b_G_order 56 = .ok (.ireturn, 1) := by decide +kernel
theorem d_G_load_0 : decode b_G_load 0 = .ok (.aload_n 0, 1) := by decide +kernel
theorem d_G_load_1 : decode b_G_load 1 = .ok (.iload_n 1, 1) := by decide +kernel
theorem d_G_load_2 : decode b_G_load 2 = .ok (.invokevirtual 163, 3) := by decide +kernel
theorem d_G_load_5 : decode b_G_load 5 = .ok (.astore_n 2, 1) := by decide +kernel
theorem d_G_load_6 : decode b_G_load 6 = .ok (.aload_n 2, 1) := by decide +kernel
theorem d_G_load_7 : decode b_G_load 7 = .ok (.ifnonnull 13, 3) := by decide +kernel
theorem d_G_load_10 : decode b_G_load 10 = .ok (.new 66, 3) := by decide +kernel
theorem d_G_load_13 : decode b_G_load 13 = .ok (.dup, 1) := by decide +kernel
theorem d_G_load_14 : decode b_G_load 14 = .ok (.ldc 167, 2) := by decide +kernel
theorem d_G_load_16 : decode b_G_load 16 = .ok (.invokespecial 70, 3) := by decide +kernel
theorem d_G_load_19 : decode b_G_load 19 = .ok (.athrow, 1) := by decide +kernel
theorem d_G_load_20 : decode b_G_load 20 = .ok (.aload_n 2, 1) := by decide +kernel
theorem d_G_load_21 : decode b_G_load 21 = .ok (.getfield 189, 3) := by decide +kernel
theorem d_G_load_24 : decode b_G_load 24 = .ok (.ifCond .eq 13, 3) := by decide +kernel
theorem d_G_load_27 : decode b_G_load 27 = .ok (.new 87, 3) := by decide +kernel
theorem d_G_load_30 : decode b_G_load 30 = .ok (.dup, 1) := by decide +kernel
theorem d_G_load_31 : decode b_G_load 31 = .ok (.ldc 192, 2) := by decide +kernel
theorem d_G_load_33 : decode b_G_load 33 = .ok (.invokespecial 91, 3) := by decide +kernel
theorem d_G_load_36 : decode b_G_load 36 = .ok (.athrow, 1) := by decide +kernel
theorem d_G_load_37 : decode b_G_load 37 = .ok (.bipush 90, 2) := by decide +kernel
theorem d_G_load_39 : decode b_G_load 39 = .ok (.aload_n 2, 1) := by decide +kernel
theorem d_G_load_40 : decode b_G_load 40 = .ok (.getfield 194, 3) := by decide +kernel
theorem d_G_load_43 : decode b_G_load 43 = .ok (.isub, 1) := by decide +kernel
theorem d_G_load_44 : decode b_G_load 44 = .ok (.aload_n 0, 1) := by decide +kernel
theorem d_G_load_45 : decode b_G_load 45 = .ok (.getfield 58, 3) := by decide +kernel
theorem d_G_load_48 : decode b_G_load 48 = .ok (.invokestatic 197, 3) := by decide +kernel
theorem d_G_load_51 : decode b_G_load 51 = .ok (.istore_n 3, 1) := by decide +kernel
theorem d_G_load_52 : decode b_G_load 52 = .ok (.aload_n 2, 1) := by decide +kernel
theorem d_G_load_53 : decode b_G_load 53 = .ok (.dup, 1) := by decide +kernel
theorem d_G_load_54 : decode b_G_load 54 = .ok (.getfield 194, 3) := by decide +kernel
theorem d_G_load_57 : decode b_G_load 57 = .ok (.iload_n 3, 1) := by decide +kernel
theorem d_G_load_58 : decode b_G_load 58 = .ok (.iadd, 1) := by decide +kernel
theorem d_G_load_59 : decode b_G_load 59 = .ok (.putfield 194, 3) := by decide +kernel
theorem d_G_load_62 : decode b_G_load 62 = .ok (.aload_n 0, 1) := by decide +kernel
theorem d_G_load_63 : decode b_G_load 63 = .ok (.dup, 1) := by decide +kernel
theorem d_G_load_64 : decode b_G_load 64 = .ok (.getfield 58, 3) := by decide +kernel
theorem d_G_load_67 : decode b_G_load 67 = .ok (.iload_n 3, 1) := by decide +kernel
theorem d_G_load_68 : decode b_G_load 68 = .ok (.isub, 1) := by decide +kernel
theorem d_G_load_69 : decode b_G_load 69 = .ok (.putfield 58, 3) := by decide +kernel
theorem d_G_load_72 : decode b_G_load 72 = .ok (.iload_n 3, 1) := by decide +kernel
theorem d_G_load_73 : decode b_G_load 73 = .ok (.ireturn, 1) := by decide +kernel
theorem d_G_rest_0 : decode b_G_rest 0 = .ok (.aload_n 0, 1) := by decide +kernel
theorem d_G_rest_1 : decode b_G_rest 1 = .ok (.iload_n 1, 1) := by decide +kernel
theorem d_G_rest_2 : decode b_G_rest 2 = .ok (.invokevirtual 163, 3) := by decide +kernel
theorem d_G_rest_5 : decode b_G_rest 5 = .ok (.astore_n 2, 1) := by decide +kernel
theorem d_G_rest_6 : decode b_G_rest 6 = .ok (.aload_n 2, 1) := by decide +kernel
theorem d_G_rest_7 : decode b_G_rest 7 = .ok (.ifnonnull 13, 3) := by decide +kernel
theorem d_G_rest_10 : decode b_G_rest 10 = .ok (.new 66, 3) := by decide +kernel
theorem d_G_rest_13 : decode b_G_rest 13 = .ok (.dup, 1) := by decide +kernel
theorem d_G_rest_14 : decode b_G_rest 14 = .ok (.ldc 167, 2) := by decide +kernel
theorem d_G_rest_16 : decode b_G_rest 16 = .ok (.invokespecial 70, 3) := by decide +kernel
theorem d_G_rest_19 : decode b_G_rest 19 = .ok (.athrow, 1) := by decide +kernel
theorem d_G_rest_20 : decode b_G_rest 20 = .ok (.aload_n 2, 1) := by decide +kernel
theorem d_G_rest_21 : decode b_G_rest 21 = .ok (.getfield 189, 3) := by decide +kernel
theorem d_G_rest_24 : decode b_G_rest 24 = .ok (.iconst (-1), 1) := by decide +kernel
theorem d_G_rest_25 : decode b_G_rest 25 = .ok (.if_icmp .ne 13, 3) := by decide +kernel
theorem d_G_rest_28 : decode b_G_rest 28 = .ok (.new 87, 3) := by decide +kernel
theorem d_G_rest_31 : decode b_G_rest 31 = .ok (.dup, 1) := by decide +kernel
theorem d_G_rest_32 : decode b_G_rest 32 = .ok (.ldc 203, 2) := by decide +kernel
theorem d_G_rest_34 : decode b_G_rest 34 = .ok (.invokespecial 91, 3) := by decide +kernel
theorem d_G_rest_37 : decode b_G_rest 37 = .ok (.athrow, 1) := by decide +kernel
theorem d_G_rest_38 : decode b_G_rest 38 = .ok (.aload_n 2, 1) := by decide +kernel
theorem d_G_rest_39 : decode b_G_rest 39 = .ok (.getfield 205, 3) := by decide +kernel
theorem d_G_rest_42 : decode b_G_rest 42 = .ok (.istore_n 3, 1) := by decide +kernel
theorem d_G_rest_43 : decode b_G_rest 43 = .ok (.aload_n 2, 1) := by decide +kernel
theorem d_G_rest_44 : decode b_G_rest 44 = .ok (.iconst 0, 1) := by decide +kernel
theorem d_G_rest_45 : decode b_G_rest 45 = .ok (.putfield 205, 3) := by decide +kernel
theorem d_G_rest_48 : decode b_G_rest 48 = .ok (.aload_n 2, 1) := by decide +kernel
theorem d_G_rest_49 : decode b_G_rest 49 = .ok (.iconst 0, 1) := by decide +kernel
theorem d_G_rest_50 : decode b_G_rest 50 = .ok (.putfield 180, 3) := by decide +kernel
theorem d_G_rest_53 : decode b_G_rest 53 = .ok (.iload_n 3, 1) := by decide +kernel
theorem d_G_rest_54 : decode b_G_rest 54 = .ok (.ireturn, 1) := by decide +kernel
theorem d_G_deliver_0 : decode b_G_deliver 0 = .ok (.iload_n 1, 1) := by decide +kernel
theorem d_G_deliver_1 : decode b_G_deliver 1 = .ok (.iconst 1, 1) := by decide +kernel
theorem d_G_deliver_2 : decode b_G_deliver 2 = .ok (.sipush 500, 3) := by decide +kernel
theorem d_G_deliver_5 : decode b_G_deliver 5 = .ok (.invokestatic 78, 3) := by decide +kernel
theorem d_G_deliver_8 : decode b_G_deliver 8 = .ok (.ifCond .eq 13, 3) := by decide +kernel
theorem d_G_deliver_11 : decode b_G_deliver 11 = .ok (.iload_n 2, 1) := by decide +kernel
theorem d_G_deliver_12 : decode b_G_deliver 12 = .ok (.iconst 1, 1) := by decide +kernel
theorem d_G_deliver_13 : decode b_G_deliver 13 = .ok (.bipush 96, 2) := by decide +kernel
theorem d_G_deliver_15 : decode b_G_deliver 15 = .ok (.invokestatic 78, 3) := by decide +kernel
theorem d_G_deliver_18 : decode b_G_deliver 18 = .ok (.ifCond .ne 13, 3) := by decide +kernel
theorem d_G_deliver_21 : decode b_G_deliver 21 = .ok (.new 73, 3) := by decide +kernel
theorem d_G_deliver_24 : decode b_G_deliver 24 = .ok (.dup, 1) := by decide +kernel
theorem d_G_deliver_25 : decode b_G_deliver 25 = .ok (.ldc 208, 2) := by decide +kernel
theorem d_G_deliver_27 : decode b_G_deliver 27 = .ok (.invokespecial 77, 3) := by decide +kernel
theorem d_G_deliver_30 : decode b_G_deliver 30 = .ok (.athrow, 1) := by decide +kernel
theorem d_G_deliver_31 : decode b_G_deliver 31 = .ok (.aload_n 0, 1) := by decide +kernel
theorem d_G_deliver_32 : decode b_G_deliver 32 = .ok (.invokevirtual 210, 3) := by decide +kernel
theorem d_G_deliver_35 : decode b_G_deliver 35 = .ok (.iconst 5, 1) := by decide +kernel
theorem d_G_deliver_36 : decode b_G_deliver 36 = .ok (.if_icmp .lt 13, 3) := by decide +kernel
theorem d_G_deliver_39 : decode b_G_deliver 39 = .ok (.new 87, 3) := by decide +kernel
theorem d_G_deliver_42 : decode b_G_deliver 42 = .ok (.dup, 1) := by decide +kernel
theorem d_G_deliver_43 : decode b_G_deliver 43 = .ok (.ldc 213, 2) := by decide +kernel
theorem d_G_deliver_45 : decode b_G_deliver 45 = .ok (.invokespecial 91, 3) := by decide +kernel
theorem d_G_deliver_48 : decode b_G_deliver 48 = .ok (.athrow, 1) := by decide +kernel
theorem d_G_deliver_49 : decode b_G_deliver 49 = .ok (.aload_n 0, 1) := by decide +kernel
theorem d_G_deliver_50 : decode b_G_deliver 50 = .ok (.new 27, 3) := by decide +kernel
theorem d_G_deliver_53 : decode b_G_deliver 53 = .ok (.dup, 1) := by decide +kernel
theorem d_G_deliver_54 : decode b_G_deliver 54 = .ok (.iload_n 1, 1) := by decide +kernel
theorem d_G_deliver_55 : decode b_G_deliver 55 = .ok (.aload_n 0, 1) := by decide +kernel
theorem d_G_deliver_56 : decode b_G_deliver 56 = .ok (.getfield 127, 3) := by decide +kernel
theorem d_G_deliver_59 : decode b_G_deliver 59 = .ok (.iload_n 2, 1) := by decide +kernel
theorem d_G_deliver_60 : decode b_G_deliver 60 = .ok (.iadd, 1) := by decide +kernel
theorem d_G_deliver_61 : decode b_G_deliver 61 = .ok (.invokespecial 215, 3) := by decide +kernel
theorem d_G_deliver_64 : decode b_G_deliver 64 = .ok (.invokevirtual 218, 3) := by decide +kernel
theorem d_G_deliver_67 : decode b_G_deliver 67 = .ok (.aload_n 0, 1) := by decide +kernel
theorem d_G_deliver_68 : decode b_G_deliver 68 = .ok (.invokevirtual 210, 3) := by decide +kernel
theorem d_G_deliver_71 : decode b_G_deliver 71 = .ok (.ireturn, 1) := by decide +kernel
theorem d_G_claim_0 : decode b_G_claim 0 = .ok (.aload_n 0, 1) := by decide +kernel
theorem d_G_claim_1 : decode b_G_claim 1 = .ok (.iload_n 1, 1) := by decide +kernel
theorem d_G_claim_2 : decode b_G_claim 2 = .ok (.invokevirtual 174, 3) := by decide +kernel
theorem d_G_claim_5 : decode b_G_claim 5 = .ok (.astore_n 3, 1) := by decide +kernel
theorem d_G_claim_6 : decode b_G_claim 6 = .ok (.aload_n 3, 1) := by decide +kernel
theorem d_G_claim_7 : decode b_G_claim 7 = .ok (.ifnonnull 13, 3) := by decide +kernel
theorem d_G_claim_10 : decode b_G_claim 10 = .ok (.new 66, 3) := by decide +kernel
theorem d_G_claim_13 : decode b_G_claim 13 = .ok (.dup, 1) := by decide +kernel
theorem d_G_claim_14 : decode b_G_claim 14 = .ok (.ldc 222, 2) := by decide +kernel
theorem d_G_claim_16 : decode b_G_claim 16 = .ok (.invokespecial 70, 3) := by decide +kernel
theorem d_G_claim_19 : decode b_G_claim 19 = .ok (.athrow, 1) := by decide +kernel
theorem d_G_claim_20 : decode b_G_claim 20 = .ok (.iload_n 2, 1) := by decide +kernel
theorem d_G_claim_21 : decode b_G_claim 21 = .ok (.iconst 1, 1) := by decide +kernel
theorem d_G_claim_22 : decode b_G_claim 22 = .ok (.aload_n 0, 1) := by decide +kernel
theorem d_G_claim_23 : decode b_G_claim 23 = .ok (.getfield 127, 3) := by decide +kernel
theorem d_G_claim_26 : decode b_G_claim 26 = .ok (.invokestatic 78, 3) := by decide +kernel
theorem d_G_claim_29 : decode b_G_claim 29 = .ok (.ifCond .ne 13, 3) := by decide +kernel
theorem d_G_claim_32 : decode b_G_claim 32 = .ok (.new 73, 3) := by decide +kernel
theorem d_G_claim_35 : decode b_G_claim 35 = .ok (.dup, 1) := by decide +kernel
theorem d_G_claim_36 : decode b_G_claim 36 = .ok (.ldc 224, 2) := by decide +kernel
theorem d_G_claim_38 : decode b_G_claim 38 = .ok (.invokespecial 77, 3) := by decide +kernel
theorem d_G_claim_41 : decode b_G_claim 41 = .ok (.athrow, 1) := by decide +kernel
theorem d_G_claim_42 : decode b_G_claim 42 = .ok (.aload_n 0, 1) := by decide +kernel
theorem d_G_claim_43 : decode b_G_claim 43 = .ok (.aload_n 3, 1) := by decide +kernel
theorem d_G_claim_44 : decode b_G_claim 44 = .ok (.iload_n 2, 1) := by decide +kernel
theorem d_G_claim_45 : decode b_G_claim 45 = .ok (.invokevirtual 226, 3) := by decide +kernel
theorem d_G_claim_48 : decode b_G_claim 48 = .ok (.ireturn, 1) := by decide +kernel
theorem d_G_ofRoad_0 : decode b_G_ofRoad 0 = .ok (.aload_n 0, 1) := by decide +kernel
theorem d_G_ofRoad_1 : decode b_G_ofRoad 1 = .ok (.iload_n 1, 1) := by decide +kernel
theorem d_G_ofRoad_2 : decode b_G_ofRoad 2 = .ok (.invokevirtual 174, 3) := by decide +kernel
theorem d_G_ofRoad_5 : decode b_G_ofRoad 5 = .ok (.astore_n 3, 1) := by decide +kernel
theorem d_G_ofRoad_6 : decode b_G_ofRoad 6 = .ok (.aload_n 3, 1) := by decide +kernel
theorem d_G_ofRoad_7 : decode b_G_ofRoad 7 = .ok (.ifnonnull 13, 3) := by decide +kernel
theorem d_G_ofRoad_10 : decode b_G_ofRoad 10 = .ok (.new 66, 3) := by decide +kernel
theorem d_G_ofRoad_13 : decode b_G_ofRoad 13 = .ok (.dup, 1) := by decide +kernel
theorem d_G_ofRoad_14 : decode b_G_ofRoad 14 = .ok (.ldc 222, 2) := by decide +kernel
theorem d_G_ofRoad_16 : decode b_G_ofRoad 16 = .ok (.invokespecial 70, 3) := by decide +kernel
theorem d_G_ofRoad_19 : decode b_G_ofRoad 19 = .ok (.athrow, 1) := by decide +kernel
theorem d_G_ofRoad_20 : decode b_G_ofRoad 20 = .ok (.iload_n 2, 1) := by decide +kernel
theorem d_G_ofRoad_21 : decode b_G_ofRoad 21 = .ok (.iconst 0, 1) := by decide +kernel
theorem d_G_ofRoad_22 : decode b_G_ofRoad 22 = .ok (.bipush 14, 2) := by decide +kernel
theorem d_G_ofRoad_24 : decode b_G_ofRoad 24 = .ok (.invokestatic 78, 3) := by decide +kernel
theorem d_G_ofRoad_27 : decode b_G_ofRoad 27 = .ok (.ifCond .ne 13, 3) := by decide +kernel
theorem d_G_ofRoad_30 : decode b_G_ofRoad 30 = .ok (.new 73, 3) := by decide +kernel
theorem d_G_ofRoad_33 : decode b_G_ofRoad 33 = .ok (.dup, 1) := by decide +kernel
theorem d_G_ofRoad_34 : decode b_G_ofRoad 34 = .ok (.ldc 230, 2) := by decide +kernel
theorem d_G_ofRoad_36 : decode b_G_ofRoad 36 = .ok (.invokespecial 77, 3) := by decide +kernel
theorem d_G_ofRoad_39 : decode b_G_ofRoad 39 = .ok (.athrow, 1) := by decide +kernel
theorem d_G_ofRoad_40 : decode b_G_ofRoad 40 = .ok (.aload_n 3, 1) := by decide +kernel
theorem d_G_ofRoad_41 : decode b_G_ofRoad 41 = .ok (.iload_n 2, 1) := by decide +kernel
theorem d_G_ofRoad_42 : decode b_G_ofRoad 42 = .ok (.invokevirtual 232, 3) := by decide +kernel
theorem d_G_ofRoad_45 : decode b_G_ofRoad 45 = .ok (.ireturn, 1) := by decide +kernel
theorem d_G_ofLorry_0 : decode b_G_ofLorry 0 = .ok (.aload_n 0, 1) := by decide +kernel
theorem d_G_ofLorry_1 : decode b_G_ofLorry 1 = .ok (.iload_n 1, 1) := by decide +kernel
theorem d_G_ofLorry_2 : decode b_G_ofLorry 2 = .ok (.invokevirtual 163, 3) := by decide +kernel
theorem d_G_ofLorry_5 : decode b_G_ofLorry 5 = .ok (.astore_n 3, 1) := by decide +kernel
theorem d_G_ofLorry_6 : decode b_G_ofLorry 6 = .ok (.aload_n 3, 1) := by decide +kernel
theorem d_G_ofLorry_7 : decode b_G_ofLorry 7 = .ok (.ifnonnull 13, 3) := by decide +kernel
theorem d_G_ofLorry_10 : decode b_G_ofLorry 10 = .ok (.new 66, 3) := by decide +kernel
theorem d_G_ofLorry_13 : decode b_G_ofLorry 13 = .ok (.dup, 1) := by decide +kernel
theorem d_G_ofLorry_14 : decode b_G_ofLorry 14 = .ok (.ldc 167, 2) := by decide +kernel
theorem d_G_ofLorry_16 : decode b_G_ofLorry 16 = .ok (.invokespecial 70, 3) := by decide +kernel
theorem d_G_ofLorry_19 : decode b_G_ofLorry 19 = .ok (.athrow, 1) := by decide +kernel
theorem d_G_ofLorry_20 : decode b_G_ofLorry 20 = .ok (.iload_n 2, 1) := by decide +kernel
theorem d_G_ofLorry_21 : decode b_G_ofLorry 21 = .ok (.iconst 0, 1) := by decide +kernel
theorem d_G_ofLorry_22 : decode b_G_ofLorry 22 = .ok (.bipush 8, 2) := by decide +kernel
theorem d_G_ofLorry_24 : decode b_G_ofLorry 24 = .ok (.invokestatic 78, 3) := by decide +kernel
theorem d_G_ofLorry_27 : decode b_G_ofLorry 27 = .ok (.ifCond .ne 13, 3) := by decide +kernel
theorem d_G_ofLorry_30 : decode b_G_ofLorry 30 = .ok (.new 73, 3) := by decide +kernel
theorem d_G_ofLorry_33 : decode b_G_ofLorry 33 = .ok (.dup, 1) := by decide +kernel
theorem d_G_ofLorry_34 : decode b_G_ofLorry 34 = .ok (.ldc 236, 2) := by decide +kernel
theorem d_G_ofLorry_36 : decode b_G_ofLorry 36 = .ok (.invokespecial 77, 3) := by decide +kernel
theorem d_G_ofLorry_39 : decode b_G_ofLorry 39 = .ok (.athrow, 1) := by decide +kernel
theorem d_G_ofLorry_40 : decode b_G_ofLorry 40 = .ok (.aload_n 3, 1) := by decide +kernel
theorem d_G_ofLorry_41 : decode b_G_ofLorry 41 = .ok (.iload_n 2, 1) := by decide +kernel
theorem d_G_ofLorry_42 : decode b_G_ofLorry 42 = .ok (.invokevirtual 238, 3) := by decide +kernel
theorem d_G_ofLorry_45 : decode b_G_ofLorry 45 = .ok (.ireturn, 1) := by decide +kernel
theorem d_G_many_0 : decode b_G_many 0 = .ok (.iload_n 1, 1) := by decide +kernel
theorem d_G_many_1 : decode b_G_many 1 = .ok (.iconst 0, 1) := by decide +kernel
theorem d_G_many_2 : decode b_G_many 2 = .ok (.bipush 14, 2) := by decide +kernel
theorem d_G_many_4 : decode b_G_many 4 = .ok (.invokestatic 78, 3) := by decide +kernel
theorem d_G_many_7 : decode b_G_many 7 = .ok (.ifCond .ne 13, 3) := by decide +kernel
theorem d_G_many_10 : decode b_G_many 10 = .ok (.new 73, 3) := by decide +kernel
theorem d_G_many_13 : decode b_G_many 13 = .ok (.dup, 1) := by decide +kernel
theorem d_G_many_14 : decode b_G_many 14 = .ok (.ldc 230, 2) := by decide +kernel
theorem d_G_many_16 : decode b_G_many 16 = .ok (.invokespecial 77, 3) := by decide +kernel
theorem d_G_many_19 : decode b_G_many 19 = .ok (.athrow, 1) := by decide +kernel
theorem d_G_many_20 : decode b_G_many 20 = .ok (.aload_n 0, 1) := by decide +kernel
theorem d_G_many_21 : decode b_G_many 21 = .ok (.iload_n 1, 1) := by decide +kernel
theorem d_G_many_22 : decode b_G_many 22 = .ok (.invokevirtual 239, 3) := by decide +kernel
theorem d_G_many_25 : decode b_G_many 25 = .ok (.ireturn, 1) := by decide +kernel
theorem d_G_way_0 : decode b_G_way 0 = .ok (.iload_n 1, 1) := by decide +kernel
theorem d_G_way_1 : decode b_G_way 1 = .ok (.invokestatic 62, 3) := by decide +kernel
theorem d_G_way_4 : decode b_G_way 4 = .ok (.ifCond .eq 10, 3) := by decide +kernel
theorem d_G_way_7 : decode b_G_way 7 = .ok (.iload_n 2, 1) := by decide +kernel
theorem d_G_way_8 : decode b_G_way 8 = .ok (.invokestatic 62, 3) := by decide +kernel
theorem d_G_way_11 : decode b_G_way 11 = .ok (.ifCond .ne 13, 3) := by decide +kernel
theorem d_G_way_14 : decode b_G_way 14 = .ok (.new 66, 3) := by decide +kernel
theorem d_G_way_17 : decode b_G_way 17 = .ok (.dup, 1) := by decide +kernel
theorem d_G_way_18 : decode b_G_way 18 = .ok (.ldc 68, 2) := by decide +kernel
theorem d_G_way_20 : decode b_G_way 20 = .ok (.invokespecial 70, 3) := by decide +kernel
theorem d_G_way_23 : decode b_G_way 23 = .ok (.athrow, 1) := by decide +kernel
theorem d_G_way_24 : decode b_G_way 24 = .ok (.aload_n 0, 1) := by decide +kernel
theorem d_G_way_25 : decode b_G_way 25 = .ok (.iload_n 1, 1) := by decide +kernel
theorem d_G_way_26 : decode b_G_way 26 = .ok (.iload_n 2, 1) := by decide +kernel
theorem d_G_way_27 : decode b_G_way 27 = .ok (.invokevirtual 242, 3) := by decide +kernel
theorem d_G_way_30 : decode b_G_way 30 = .ok (.ireturn, 1) := by decide +kernel
theorem d_G_meanWarmth_0 : decode b_G_meanWarmth 0 = .ok (.iconst 0, 1) := by decide +kernel
theorem d_G_meanWarmth_1 : decode b_G_meanWarmth 1 = .ok (.istore_n 1, 1) := by decide +kernel
theorem d_G_meanWarmth_2 : decode b_G_meanWarmth 2 = .ok (.iconst 0, 1) := by decide +kernel
theorem d_G_meanWarmth_3 : decode b_G_meanWarmth 3 = .ok (.istore_n 2, 1) := by decide +kernel
theorem d_G_meanWarmth_4 : decode b_G_meanWarmth 4 = .ok (.aload_n 0, 1) := by decide +kernel
theorem d_G_meanWarmth_5 : decode b_G_meanWarmth 5 = .ok (.getfield 11, 3) := by decide +kernel
theorem d_G_meanWarmth_8 : decode b_G_meanWarmth 8 = .ok (.astore_n 3, 1) := by decide +kernel
theorem d_G_meanWarmth_9 : decode b_G_meanWarmth 9 = .ok (.aload_n 3, 1) := by decide +kernel
theorem d_G_meanWarmth_10 : decode b_G_meanWarmth 10 = .ok (.arraylength, 1) := by decide +kernel
theorem d_G_meanWarmth_11 : decode b_G_meanWarmth 11 = .ok (.istore 4, 2) := by decide +kernel
theorem d_G_meanWarmth_13 : decode b_G_meanWarmth 13 = .ok (.iconst 0, 1) := by decide +kernel
theorem d_G_meanWarmth_14 : decode b_G_meanWarmth 14 = .ok (.istore 5, 2) := by decide +kernel
theorem d_G_meanWarmth_16 : decode b_G_meanWarmth 16 = .ok (.iload 5, 2) := by decide +kernel
theorem d_G_meanWarmth_18 : decode b_G_meanWarmth 18 = .ok (.iload 4, 2) := by decide +kernel
theorem d_G_meanWarmth_20 : decode b_G_meanWarmth 20 = .ok (.if_icmp .ge 34, 3) := by decide +kernel
theorem d_G_meanWarmth_23 : decode b_G_meanWarmth 23 = .ok (.aload_n 3, 1) := by decide +kernel
theorem d_G_meanWarmth_24 : decode b_G_meanWarmth 24 = .ok (.iload 5, 2) := by decide +kernel
theorem d_G_meanWarmth_26 : decode b_G_meanWarmth 26 = .ok (.aaload, 1) := by decide +kernel
theorem d_G_meanWarmth_27 : decode b_G_meanWarmth 27 = .ok (.astore 6, 2) := by decide +kernel
theorem d_G_meanWarmth_29 : decode b_G_meanWarmth 29 = .ok (.aload 6, 2) := by decide +kernel
theorem d_G_meanWarmth_31 : decode b_G_meanWarmth 31 = .ok (.ifnull 17, 3) := by decide +kernel
theorem d_G_meanWarmth_34 : decode b_G_meanWarmth 34 = .ok (.iload_n 1, 1) := by decide +kernel
theorem d_G_meanWarmth_35 : decode b_G_meanWarmth 35 = .ok (.aload 6, 2) := by decide +kernel
theorem d_G_meanWarmth_37 : decode b_G_meanWarmth 37 = .ok (.getfield 245, 3) := by decide +kernel
theorem d_G_meanWarmth_40 : decode b_G_meanWarmth 40 = .ok (.getfield 248, 3) := by decide +kernel
theorem d_G_meanWarmth_43 : decode b_G_meanWarmth 43 = .ok (.iadd, 1) := by decide +kernel
theorem d_G_meanWarmth_44 : decode b_G_meanWarmth 44 = .ok (.istore_n 1, 1) := by decide +kernel
theorem d_G_meanWarmth_45 : decode b_G_meanWarmth 45 = .ok (.iinc 2 1, 3) := by decide +kernel
theorem d_G_meanWarmth_48 : decode b_G_meanWarmth 48 = .ok (.iinc 5 1, 3) := by decide +kernel
theorem d_G_meanWarmth_51 : decode b_G_meanWarmth 51 = .ok (.goto (-35), 3) := by decide +kernel
theorem d_G_meanWarmth_54 : decode b_G_meanWarmth 54 = .ok (.iload_n 2, 1) := by decide +kernel
theorem d_G_meanWarmth_55 : decode b_G_meanWarmth 55 = .ok (.ifCond .ne 7, 3) := by decide +kernel
theorem d_G_meanWarmth_58 : decode b_G_meanWarmth 58 = .ok (.dconst 0, 1) := by decide +kernel
theorem d_G_meanWarmth_59 : decode b_G_meanWarmth 59 = .ok (.goto 8, 3) := by decide +kernel
theorem d_G_meanWarmth_62 : decode b_G_meanWarmth 62 = .ok (.iload_n 1, 1) := by decide +kernel
theorem d_G_meanWarmth_63 : decode b_G_meanWarmth 63 = .ok (.i2d, 1) := by decide +kernel
theorem d_G_meanWarmth_64 : decode b_G_meanWarmth 64 = .ok (.iload_n 2, 1) := by decide +kernel
theorem d_G_meanWarmth_65 : decode b_G_meanWarmth 65 = .ok (.i2d, 1) := by decide +kernel
theorem d_G_meanWarmth_66 : decode b_G_meanWarmth 66 = .ok (.ddiv, 1) := by decide +kernel
theorem d_G_meanWarmth_67 : decode b_G_meanWarmth 67 = .ok (.dreturn, 1) := by decide +kernel
theorem d_G_slipperyIn_0 : decode b_G_slipperyIn 0 = .ok (.aload_n 0, 1) := by decide +kernel
theorem d_G_slipperyIn_1 : decode b_G_slipperyIn 1 = .ok (.iload_n 1, 1) := by decide +kernel
theorem d_G_slipperyIn_2 : decode b_G_slipperyIn 2 = .ok (.invokevirtual 174, 3) := by decide +kernel
theorem d_G_slipperyIn_5 : decode b_G_slipperyIn 5 = .ok (.astore_n 3, 1) := by decide +kernel
theorem d_G_slipperyIn_6 : decode b_G_slipperyIn 6 = .ok (.aload_n 3, 1) := by decide +kernel
theorem d_G_slipperyIn_7 : decode b_G_slipperyIn 7 = .ok (.ifnonnull 13, 3) := by decide +kernel
theorem d_G_slipperyIn_10 : decode b_G_slipperyIn 10 = .ok (.new 66, 3) := by decide +kernel
theorem d_G_slipperyIn_13 : decode b_G_slipperyIn 13 = .ok (.dup, 1) := by decide +kernel
theorem d_G_slipperyIn_14 : decode b_G_slipperyIn 14 = .ok (.ldc 222, 2) := by decide +kernel
theorem d_G_slipperyIn_16 : decode b_G_slipperyIn 16 = .ok (.invokespecial 70, 3) := by decide +kernel
theorem d_G_slipperyIn_19 : decode b_G_slipperyIn 19 = .ok (.athrow, 1) := by decide +kernel
theorem d_G_slipperyIn_20 : decode b_G_slipperyIn 20 = .ok (.iload_n 2, 1) := by decide +kernel
theorem d_G_slipperyIn_21 : decode b_G_slipperyIn 21 = .ok (.iconst 1, 1) := by decide +kernel
theorem d_G_slipperyIn_22 : decode b_G_slipperyIn 22 = .ok (.bipush 24, 2) := by decide +kernel
theorem d_G_slipperyIn_24 : decode b_G_slipperyIn 24 = .ok (.invokestatic 78, 3) := by decide +kernel
theorem d_G_slipperyIn_27 : decode b_G_slipperyIn 27 = .ok (.ifCond .ne 13, 3) := by decide +kernel
theorem d_G_slipperyIn_30 : decode b_G_slipperyIn 30 = .ok (.new 73, 3) := by decide +kernel
theorem d_G_slipperyIn_33 : decode b_G_slipperyIn 33 = .ok (.dup, 1) := by decide +kernel
theorem d_G_slipperyIn_34 : decode b_G_slipperyIn 34 = .ok (.ldc 251, 2) := by decide +kernel
theorem d_G_slipperyIn_36 : decode b_G_slipperyIn 36 = .ok (.invokespecial 77, 3) := by decide +kernel
theorem d_G_slipperyIn_39 : decode b_G_slipperyIn 39 = .ok (.athrow, 1) := by decide +kernel
theorem d_G_slipperyIn_40 : decode b_G_slipperyIn 40 = .ok (.aload_n 0, 1) := by decide +kernel
theorem d_G_slipperyIn_41 : decode b_G_slipperyIn 41 = .ok (.aload_n 3, 1) := by decide +kernel
theorem d_G_slipperyIn_42 : decode b_G_slipperyIn 42 = .ok (.iconst 0, 1) := by decide +kernel
theorem d_G_slipperyIn_43 : decode b_G_slipperyIn 43 = .ok (.iload_n 2, 1) := by decide +kernel
theorem d_G_slipperyIn_44 : decode b_G_slipperyIn 44 = .ok (.invokevirtual 253, 3) := by decide +kernel
theorem d_G_slipperyIn_47 : decode b_G_slipperyIn 47 = .ok (.ireturn, 1) := by decide +kernel
theorem d_G_saltFor_0 : decode b_G_saltFor 0 = .ok (.aload_n 0, 1) := by decide +kernel
theorem d_G_saltFor_1 : decode b_G_saltFor 1 = .ok (.iload_n 1, 1) := by decide +kernel
theorem d_G_saltFor_2 : decode b_G_saltFor 2 = .ok (.invokevirtual 174, 3) := by decide +kernel
theorem d_G_saltFor_5 : decode b_G_saltFor 5 = .ok (.astore_n 3, 1) := by decide +kernel
theorem d_G_saltFor_6 : decode b_G_saltFor 6 = .ok (.aload_n 3, 1) := by decide +kernel
theorem d_G_saltFor_7 : decode b_G_saltFor 7 = .ok (.ifnonnull 13, 3) := by decide +kernel
theorem d_G_saltFor_10 : decode b_G_saltFor 10 = .ok (.new 66, 3) := by decide +kernel
theorem d_G_saltFor_13 : decode b_G_saltFor 13 = .ok (.dup, 1) := by decide +kernel
theorem d_G_saltFor_14 : decode b_G_saltFor 14 = .ok (.ldc 222, 2) := by decide +kernel
theorem d_G_saltFor_16 : decode b_G_saltFor 16 = .ok (.invokespecial 70, 3) := by decide +kernel
theorem d_G_saltFor_19 : decode b_G_saltFor 19 = .ok (.athrow, 1) := by decide +kernel
theorem d_G_saltFor_20 : decode b_G_saltFor 20 = .ok (.iload_n 2, 1) := by decide +kernel
theorem d_G_saltFor_21 : decode b_G_saltFor 21 = .ok (.iconst 1, 1) := by decide +kernel
theorem d_G_saltFor_22 : decode b_G_saltFor 22 = .ok (.bipush 24, 2) := by decide +kernel
theorem d_G_saltFor_24 : decode b_G_saltFor 24 = .ok (.invokestatic 78, 3) := by decide +kernel
theorem d_G_saltFor_27 : decode b_G_saltFor 27 = .ok (.ifCond .ne 13, 3) := by decide +kernel
theorem d_G_saltFor_30 : decode b_G_saltFor 30 = .ok (.new 73, 3) := by decide +kernel
theorem d_G_saltFor_33 : decode b_G_saltFor 33 = .ok (.dup, 1) := by decide +kernel
theorem d_G_saltFor_34 : decode b_G_saltFor 34 = .ok (.ldc 251, 2) := by decide +kernel
theorem d_G_saltFor_36 : decode b_G_saltFor 36 = .ok (.invokespecial 77, 3) := by decide +kernel
theorem d_G_saltFor_39 : decode b_G_saltFor 39 = .ok (.athrow, 1) := by decide +kernel
theorem d_G_saltFor_40 : decode b_G_saltFor 40 = .ok (.aload_n 0, 1) := by decide +kernel
theorem d_G_saltFor_41 : decode b_G_saltFor 41 = .ok (.aload_n 3, 1) := by decide +kernel
theorem d_G_saltFor_42 : decode b_G_saltFor 42 = .ok (.iload_n 2, 1) := by decide +kernel
theorem d_G_saltFor_43 : decode b_G_saltFor 43 = .ok (.invokevirtual 257, 3) := by decide +kernel
theorem d_G_saltFor_46 : decode b_G_saltFor 46 = .ok (.ireturn, 1) := by decide +kernel
theorem d_G_bestOrders_0 : decode b_G_bestOrders 0 = .ok (.aload_n 0, 1) := by decide +kernel
theorem d_G_bestOrders_1 : decode b_G_bestOrders 1 = .ok (.iload_n 1, 1) := by decide +kernel
theorem d_G_bestOrders_2 : decode b_G_bestOrders 2 = .ok (.invokevirtual 163, 3) := by decide +kernel
theorem d_G_bestOrders_5 : decode b_G_bestOrders 5 = .ok (.ifnull 10, 3) := by decide +kernel
theorem d_G_bestOrders_8 : decode b_G_bestOrders 8 = .ok (.iload_n 2, 1) := by decide +kernel
theorem d_G_bestOrders_9 : decode b_G_bestOrders 9 = .ok (.invokestatic 62, 3) := by decide +kernel
theorem d_G_bestOrders_12 : decode b_G_bestOrders 12 = .ok (.ifCond .ne 14, 3) := by decide +kernel
theorem d_G_bestOrders_15 : decode b_G_bestOrders 15 = .ok (.new 66, 3) := by decide +kernel
theorem d_G_bestOrders_18 : decode b_G_bestOrders 18 = .ok (.dup, 1) := by decide +kernel
theorem d_G_bestOrders_19 : decode b_G_bestOrders 19 = .ok (.ldc_w 260, 3) := by decide +kernel
theorem d_G_bestOrders_22 : decode b_G_bestOrders 22 = .ok (.invokespecial 70, 3) := by decide +kernel
theorem d_G_bestOrders_25 : decode b_G_bestOrders 25 = .ok (.athrow, 1) := by decide +kernel
theorem d_G_bestOrders_26 : decode b_G_bestOrders 26 = .ok (.aload_n 0, 1) := by decide +kernel
theorem d_G_bestOrders_27 : decode b_G_bestOrders 27 = .ok (.getfield 54, 3) := by decide +kernel
theorem d_G_bestOrders_30 : decode b_G_bestOrders 30 = .ok (.aload_n 0, 1) := by decide +kernel
theorem d_G_bestOrders_31 : decode b_G_bestOrders 31 = .ok (.getfield 11, 3) := by decide +kernel
theorem d_G_bestOrders_34 : decode b_G_bestOrders 34 = .ok (.iload_n 2, 1) := by decide +kernel
theorem d_G_bestOrders_35 : decode b_G_bestOrders 35 = .ok (.invokevirtual 262, 3) := by decide +kernel
theorem d_G_bestOrders_38 : decode b_G_bestOrders 38 = .ok (.ireturn, 1) := by decide +kernel
theorem d_G_digest_0 : decode b_G_digest 0 = .ok (.ldc2_w 266, 3) := by decide +kernel
theorem d_G_digest_3 : decode b_G_digest 3 = .ok (.lstore_n 1, 1) := by decide +kernel
theorem d_G_digest_4 : decode b_G_digest 4 = .ok (.iconst 0, 1) := by decide +kernel
theorem d_G_digest_5 : decode b_G_digest 5 = .ok (.istore_n 3, 1) := by decide +kernel
theorem d_G_digest_6 : decode b_G_digest 6 = .ok (.iload_n 3, 1) := by decide +kernel
theorem d_G_digest_7 : decode b_G_digest 7 = .ok (.bipush 14, 2) := by decide +kernel
theorem d_G_digest_9 : decode b_G_digest 9 = .ok (.if_icmp .gt 22, 3) := by decide +kernel
theorem d_G_digest_12 : decode b_G_digest 12 = .ok (.lload_n 1, 1) := by decide +kernel
theorem d_G_digest_13 : decode b_G_digest 13 = .ok (.ldc2_w 268, 3) := by decide +kernel
theorem d_G_digest_16 : decode b_G_digest 16 = .ok (.lmul, 1) := by decide +kernel
theorem d_G_digest_17 : decode b_G_digest 17 = .ok (.aload_n 0, 1) := by decide +kernel
theorem d_G_digest_18 : decode b_G_digest 18 = .ok (.iload_n 3, 1) := by decide +kernel
theorem d_G_digest_19 : decode b_G_digest 19 = .ok (.invokevirtual 239, 3) := by decide +kernel
theorem d_G_digest_22 : decode b_G_digest 22 = .ok (.i2l, 1) := by decide +kernel
theorem d_G_digest_23 : decode b_G_digest 23 = .ok (.ladd, 1) := by decide +kernel
theorem d_G_digest_24 : decode b_G_digest 24 = .ok (.lstore_n 1, 1) := by decide +kernel
theorem d_G_digest_25 : decode b_G_digest 25 = .ok (.iinc 3 1, 3) := by decide +kernel
theorem d_G_digest_28 : decode b_G_digest 28 = .ok (.goto (-22), 3) := by decide +kernel
theorem d_G_digest_31 : decode b_G_digest 31 = .ok (.aload_n 0, 1) := by decide +kernel
theorem d_G_digest_32 : decode b_G_digest 32 = .ok (.getfield 11, 3) := by decide +kernel
theorem d_G_digest_35 : decode b_G_digest 35 = .ok (.astore_n 3, 1) := by decide +kernel
theorem d_G_digest_36 : decode b_G_digest 36 = .ok (.aload_n 3, 1) := by decide +kernel
theorem d_G_digest_37 : decode b_G_digest 37 = .ok (.arraylength, 1) := by decide +kernel
theorem d_G_digest_38 : decode b_G_digest 38 = .ok (.istore 4, 2) := by decide +kernel
theorem d_G_digest_40 : decode b_G_digest 40 = .ok (.iconst 0, 1) := by decide +kernel
theorem d_G_digest_41 : decode b_G_digest 41 = .ok (.istore 5, 2) := by decide +kernel
theorem d_G_digest_43 : decode b_G_digest 43 = .ok (.iload 5, 2) := by decide +kernel
theorem d_G_digest_45 : decode b_G_digest 45 = .ok (.iload 4, 2) := by decide +kernel
theorem d_G_digest_47 : decode b_G_digest 47 = .ok (.if_icmp .ge 28, 3) := by decide +kernel
theorem d_G_digest_50 : decode b_G_digest 50 = .ok (.aload_n 3, 1) := by decide +kernel
theorem d_G_digest_51 : decode b_G_digest 51 = .ok (.iload 5, 2) := by decide +kernel
theorem d_G_digest_53 : decode b_G_digest 53 = .ok (.aaload, 1) := by decide +kernel
theorem d_G_digest_54 : decode b_G_digest 54 = .ok (.astore 6, 2) := by decide +kernel
theorem d_G_digest_56 : decode b_G_digest 56 = .ok (.aload 6, 2) := by decide +kernel
theorem d_G_digest_58 : decode b_G_digest 58 = .ok (.ifnull 11, 3) := by decide +kernel
theorem d_G_digest_61 : decode b_G_digest 61 = .ok (.aload_n 0, 1) := by decide +kernel
theorem d_G_digest_62 : decode b_G_digest 62 = .ok (.aload 6, 2) := by decide +kernel
theorem d_G_digest_64 : decode b_G_digest 64 = .ok (.lload_n 1, 1) := by decide +kernel
theorem d_G_digest_65 : decode b_G_digest 65 = .ok (.invokevirtual 270, 3) := by decide +kernel
theorem d_G_digest_68 : decode b_G_digest 68 = .ok (.lstore_n 1, 1) := by decide +kernel
theorem d_G_digest_69 : decode b_G_digest 69 = .ok (.iinc 5 1, 3) := by decide +kernel
theorem d_G_digest_72 : decode b_G_digest 72 = .ok (.goto (-29), 3) := by decide +kernel
theorem d_G_digest_75 : decode b_G_digest 75 = .ok (.aload_n 0, 1) := by decide +kernel
theorem d_G_digest_76 : decode b_G_digest 76 = .ok (.getfield 17, 3) := by decide +kernel
theorem d_G_digest_79 : decode b_G_digest 79 = .ok (.astore_n 3, 1) := by decide +kernel
theorem d_G_digest_80 : decode b_G_digest 80 = .ok (.aload_n 3, 1) := by decide +kernel
theorem d_G_digest_81 : decode b_G_digest 81 = .ok (.arraylength, 1) := by decide +kernel
theorem d_G_digest_82 : decode b_G_digest 82 = .ok (.istore 4, 2) := by decide +kernel
theorem d_G_digest_84 : decode b_G_digest 84 = .ok (.iconst 0, 1) := by decide +kernel
theorem d_G_digest_85 : decode b_G_digest 85 = .ok (.istore 5, 2) := by decide +kernel
theorem d_G_digest_87 : decode b_G_digest 87 = .ok (.iload 5, 2) := by decide +kernel
theorem d_G_digest_89 : decode b_G_digest 89 = .ok (.iload 4, 2) := by decide +kernel
theorem d_G_digest_91 : decode b_G_digest 91 = .ok (.if_icmp .ge 27, 3) := by decide +kernel
theorem d_G_digest_94 : decode b_G_digest 94 = .ok (.aload_n 3, 1) := by decide +kernel
theorem d_G_digest_95 : decode b_G_digest 95 = .ok (.iload 5, 2) := by decide +kernel
theorem d_G_digest_97 : decode b_G_digest 97 = .ok (.aaload, 1) := by decide +kernel
theorem d_G_digest_98 : decode b_G_digest 98 = .ok (.astore 6, 2) := by decide +kernel
theorem d_G_digest_100 : decode b_G_digest 100 = .ok (.aload 6, 2) := by decide +kernel
theorem d_G_digest_102 : decode b_G_digest 102 = .ok (.ifnull 10, 3) := by decide +kernel
theorem d_G_digest_105 : decode b_G_digest 105 = .ok (.aload 6, 2) := by decide +kernel
theorem d_G_digest_107 : decode b_G_digest 107 = .ok (.lload_n 1, 1) := by decide +kernel
theorem d_G_digest_108 : decode b_G_digest 108 = .ok (.invokestatic 274, 3) := by decide +kernel
theorem d_G_digest_111 : decode b_G_digest 111 = .ok (.lstore_n 1, 1) := by decide +kernel
theorem d_G_digest_112 : decode b_G_digest 112 = .ok (.iinc 5 1, 3) := by decide +kernel
theorem d_G_digest_115 : decode b_G_digest 115 = .ok (.goto (-28), 3) := by decide +kernel
theorem d_G_digest_118 : decode b_G_digest 118 = .ok (.iconst 0, 1) := by decide +kernel
theorem d_G_digest_119 : decode b_G_digest 119 = .ok (.istore_n 3, 1) := by decide +kernel
theorem d_G_digest_120 : decode b_G_digest 120 = .ok (.iload_n 3, 1) := by decide +kernel
theorem d_G_digest_121 : decode b_G_digest 121 = .ok (.bipush 7, 2) := by decide +kernel
theorem d_G_digest_123 : decode b_G_digest 123 = .ok (.if_icmp .ge 23, 3) := by decide +kernel
theorem d_G_digest_126 : decode b_G_digest 126 = .ok (.lload_n 1, 1) := by decide +kernel
theorem d_G_digest_127 : decode b_G_digest 127 = .ok (.ldc2_w 268, 3) := by decide +kernel
theorem d_G_digest_130 : decode b_G_digest 130 = .ok (.lmul, 1) := by decide +kernel
theorem d_G_digest_131 : decode b_G_digest 131 = .ok (.aload_n 0, 1) := by decide +kernel
theorem d_G_digest_132 : decode b_G_digest 132 = .ok (.iconst 0, 1) := by decide +kernel
theorem d_G_digest_133 : decode b_G_digest 133 = .ok (.iload_n 3, 1) := by decide +kernel
theorem d_G_digest_134 : decode b_G_digest 134 = .ok (.invokevirtual 242, 3) := by decide +kernel
theorem d_G_digest_137 : decode b_G_digest 137 = .ok (.i2l, 1) := by decide +kernel
theorem d_G_digest_138 : decode b_G_digest 138 = .ok (.ladd, 1) := by decide +kernel
theorem d_G_digest_139 : decode b_G_digest 139 = .ok (.lstore_n 1, 1) := by decide +kernel
theorem d_G_digest_140 : decode b_G_digest 140 = .ok (.iinc 3 1, 3) := by decide +kernel
theorem d_G_digest_143 : decode b_G_digest 143 = .ok (.goto (-23), 3) := by decide +kernel
theorem d_G_digest_146 : decode b_G_digest 146 = .ok (.aload_n 0, 1) := by decide +kernel
theorem d_G_digest_147 : decode b_G_digest 147 = .ok (.getfield 155, 3) := by decide +kernel
theorem d_G_digest_150 : decode b_G_digest 150 = .ok (.ifCond .ne 7, 3) := by decide +kernel
theorem d_G_digest_153 : decode b_G_digest 153 = .ok (.lload_n 1, 1) := by decide +kernel
theorem d_G_digest_154 : decode b_G_digest 154 = .ok (.goto 22, 3) := by decide +kernel
theorem d_G_digest_157 : decode b_G_digest 157 = .ok (.lload_n 1, 1) := by decide +kernel
theorem d_G_digest_158 : decode b_G_digest 158 = .ok (.ldc2_w 268, 3) := by decide +kernel
theorem d_G_digest_161 : decode b_G_digest 161 = .ok (.lmul, 1) := by decide +kernel
theorem d_G_digest_162 : decode b_G_digest 162 = .ok (.aload_n 0, 1) := by decide +kernel
theorem d_G_digest_163 : decode b_G_digest 163 = .ok (.getfield 54, 3) := by decide +kernel
theorem d_G_digest_166 : decode b_G_digest 166 = .ok (.aload_n 0, 1) := by decide +kernel
theorem d_G_digest_167 : decode b_G_digest 167 = .ok (.getfield 11, 3) := by decide +kernel
theorem d_G_digest_170 : decode b_G_digest 170 = .ok (.iconst 0, 1) := by decide +kernel
theorem d_G_digest_171 : decode b_G_digest 171 = .ok (.invokevirtual 262, 3) := by decide +kernel
theorem d_G_digest_174 : decode b_G_digest 174 = .ok (.i2l, 1) := by decide +kernel
theorem d_G_digest_175 : decode b_G_digest 175 = .ok (.ladd, 1) := by decide +kernel
theorem d_G_digest_176 : decode b_G_digest 176 = .ok (.lreturn, 1) := by decide +kernel
theorem d_G_digestOfRoad_0 : decode b_G_digestOfRoad 0 = .ok (.lload_n 2, 1) := by decide +kernel
theorem d_G_digestOfRoad_1 : decode b_G_digestOfRoad 1 = .ok (.lstore 4, 2) := by decide +kernel
theorem d_G_digestOfRoad_3 : decode b_G_digestOfRoad 3 = .ok (.iconst 0, 1) := by decide +kernel
theorem d_G_digestOfRoad_4 : decode b_G_digestOfRoad 4 = .ok (.istore 6, 2) := by decide +kernel
theorem d_G_digestOfRoad_6 : decode b_G_digestOfRoad 6 = .ok (.iload 6, 2) := by decide +kernel
theorem d_G_digestOfRoad_8 : decode b_G_digestOfRoad 8 = .ok (.bipush 14, 2) := by decide +kernel
theorem d_G_digestOfRoad_10 : decode b_G_digestOfRoad 10 = .ok (.if_icmp .gt 25, 3) := by decide +kernel
theorem d_G_digestOfRoad_13 : decode b_G_digestOfRoad 13 = .ok (.lload 4, 2) := by decide +kernel
theorem d_G_digestOfRoad_15 : decode b_G_digestOfRoad 15 = .ok (.ldc2_w 268, 3) := by decide +kernel
theorem d_G_digestOfRoad_18 : decode b_G_digestOfRoad 18 = .ok (.lmul, 1) := by decide +kernel
theorem d_G_digestOfRoad_19 : decode b_G_digestOfRoad 19 = .ok (.aload_n 1, 1) := by decide +kernel
theorem d_G_digestOfRoad_20 : decode b_G_digestOfRoad 20 = .ok (.iload 6, 2) := by decide +kernel
theorem d_G_digestOfRoad_22 : decode b_G_digestOfRoad 22 = .ok (.invokevirtual 232, 3) := by decide +kernel
theorem d_G_digestOfRoad_25 : decode b_G_digestOfRoad 25 = .ok (.i2l, 1) := by decide +kernel
theorem d_G_digestOfRoad_26 : decode b_G_digestOfRoad 26 = .ok (.ladd, 1) := by decide +kernel
theorem d_G_digestOfRoad_27 : decode b_G_digestOfRoad 27 = .ok (.lstore 4, 2) := by decide +kernel
theorem d_G_digestOfRoad_29 : decode b_G_digestOfRoad 29 = .ok (.iinc 6 1, 3) := by decide +kernel
theorem d_G_digestOfRoad_32 : decode b_G_digestOfRoad 32 = .ok (.goto (-26), 3) := by decide +kernel
theorem d_G_digestOfRoad_35 : decode b_G_digestOfRoad 35 = .ok (.lload 4, 2) := by decide +kernel
theorem d_G_digestOfRoad_37 : decode b_G_digestOfRoad 37 = .ok (.ldc2_w 268, 3) := by decide +kernel
theorem d_G_digestOfRoad_40 : decode b_G_digestOfRoad 40 = .ok (.lmul, 1) := by decide +kernel
theorem d_G_digestOfRoad_41 : decode b_G_digestOfRoad 41 = .ok (.aload_n 0, 1) := by decide +kernel
theorem d_G_digestOfRoad_42 : decode b_G_digestOfRoad 42 = .ok (.aload_n 1, 1) := by decide +kernel
theorem d_G_digestOfRoad_43 : decode b_G_digestOfRoad 43 = .ok (.iconst 0, 1) := by decide +kernel
theorem d_G_digestOfRoad_44 : decode b_G_digestOfRoad 44 = .ok (.bipush 8, 2) := by decide +kernel
theorem d_G_digestOfRoad_46 : decode b_G_digestOfRoad 46 = .ok (.invokevirtual 253, 3) := by decide +kernel
theorem d_G_digestOfRoad_49 : decode b_G_digestOfRoad 49 = .ok (.i2l, 1) := by decide +kernel
theorem d_G_digestOfRoad_50 : decode b_G_digestOfRoad 50 = .ok (.ladd, 1) := by decide +kernel
theorem d_G_digestOfRoad_51 : decode b_G_digestOfRoad 51 = .ok (.lstore 4, 2) := by decide +kernel
theorem d_G_digestOfRoad_53 : decode b_G_digestOfRoad 53 = .ok (.lload 4, 2) := by decide +kernel
theorem d_G_digestOfRoad_55 : decode b_G_digestOfRoad 55 = .ok (.ldc2_w 268, 3) := by decide +kernel
theorem d_G_digestOfRoad_58 : decode b_G_digestOfRoad 58 = .ok (.lmul, 1) := by decide +kernel
theorem d_G_digestOfRoad_59 : decode b_G_digestOfRoad 59 = .ok (.aload_n 0, 1) := by decide +kernel
theorem d_G_digestOfRoad_60 : decode b_G_digestOfRoad 60 = .ok (.aload_n 1, 1) := by decide +kernel
theorem d_G_digestOfRoad_61 : decode b_G_digestOfRoad 61 = .ok (.iconst 4, 1) := by decide +kernel
theorem d_G_digestOfRoad_62 : decode b_G_digestOfRoad 62 = .ok (.invokevirtual 257, 3) := by decide +kernel
theorem d_G_digestOfRoad_65 : decode b_G_digestOfRoad 65 = .ok (.i2l, 1) := by decide +kernel
theorem d_G_digestOfRoad_66 : decode b_G_digestOfRoad 66 = .ok (.ladd, 1) := by decide +kernel
theorem d_G_digestOfRoad_67 : decode b_G_digestOfRoad 67 = .ok (.lstore 4, 2) := by decide +kernel
theorem d_G_digestOfRoad_69 : decode b_G_digestOfRoad 69 = .ok (.aload_n 0, 1) := by decide +kernel
theorem d_G_digestOfRoad_70 : decode b_G_digestOfRoad 70 = .ok (.getfield 127, 3) := by decide +kernel
theorem d_G_digestOfRoad_73 : decode b_G_digestOfRoad 73 = .ok (.ifCond .ne 8, 3) := by decide +kernel
theorem d_G_digestOfRoad_76 : decode b_G_digestOfRoad 76 = .ok (.lload 4, 2) := by decide +kernel
theorem d_G_digestOfRoad_78 : decode b_G_digestOfRoad 78 = .ok (.goto 20, 3) := by decide +kernel
theorem d_G_digestOfRoad_81 : decode b_G_digestOfRoad 81 = .ok (.lload 4, 2) := by decide +kernel
theorem d_G_digestOfRoad_83 : decode b_G_digestOfRoad 83 = .ok (.ldc2_w 268, 3) := by decide +kernel
theorem d_G_digestOfRoad_86 : decode b_G_digestOfRoad 86 = .ok (.lmul, 1) := by decide +kernel
theorem d_G_digestOfRoad_87 : decode b_G_digestOfRoad 87 = .ok (.aload_n 0, 1) := by decide +kernel
theorem d_G_digestOfRoad_88 : decode b_G_digestOfRoad 88 = .ok (.aload_n 1, 1) := by decide +kernel
theorem d_G_digestOfRoad_89 : decode b_G_digestOfRoad 89 = .ok (.aload_n 0, 1) := by decide +kernel
theorem d_G_digestOfRoad_90 : decode b_G_digestOfRoad 90 = .ok (.getfield 127, 3) := by decide +kernel
theorem d_G_digestOfRoad_93 : decode b_G_digestOfRoad 93 = .ok (.invokevirtual 226, 3) := by decide +kernel
theorem d_G_digestOfRoad_96 : decode b_G_digestOfRoad 96 = .ok (.i2l, 1) := by decide +kernel
theorem d_G_digestOfRoad_97 : decode b_G_digestOfRoad 97 = .ok (.ladd, 1) := by decide +kernel
theorem d_G_digestOfRoad_98 : decode b_G_digestOfRoad 98 = .ok (.lreturn, 1) := by decide +kernel
theorem d_G_digestOfLorry_0 : decode b_G_digestOfLorry 0 = .ok (.lload_n 1, 1) := by decide +kernel
theorem d_G_digestOfLorry_1 : decode b_G_digestOfLorry 1 = .ok (.lstore_n 3, 1) := by decide +kernel
theorem d_G_digestOfLorry_2 : decode b_G_digestOfLorry 2 = .ok (.iconst 0, 1) := by decide +kernel
theorem d_G_digestOfLorry_3 : decode b_G_digestOfLorry 3 = .ok (.istore 5, 2) := by decide +kernel
theorem d_G_digestOfLorry_5 : decode b_G_digestOfLorry 5 = .ok (.iload 5, 2) := by decide +kernel
theorem d_G_digestOfLorry_7 : decode b_G_digestOfLorry 7 = .ok (.bipush 8, 2) := by decide +kernel
theorem d_G_digestOfLorry_9 : decode b_G_digestOfLorry 9 = .ok (.if_icmp .gt 23, 3) := by decide +kernel
theorem d_G_digestOfLorry_12 : decode b_G_digestOfLorry 12 = .ok (.lload_n 3, 1) := by decide +kernel
theorem d_G_digestOfLorry_13 : decode b_G_digestOfLorry 13 = .ok (.ldc2_w 268, 3) := by decide +kernel
theorem d_G_digestOfLorry_16 : decode b_G_digestOfLorry 16 = .ok (.lmul, 1) := by decide +kernel
theorem d_G_digestOfLorry_17 : decode b_G_digestOfLorry 17 = .ok (.aload_n 0, 1) := by decide +kernel
theorem d_G_digestOfLorry_18 : decode b_G_digestOfLorry 18 = .ok (.iload 5, 2) := by decide +kernel
theorem d_G_digestOfLorry_20 : decode b_G_digestOfLorry 20 = .ok (.invokevirtual 238, 3) := by decide +kernel
theorem d_G_digestOfLorry_23 : decode b_G_digestOfLorry 23 = .ok (.i2l, 1) := by decide +kernel
theorem d_G_digestOfLorry_24 : decode b_G_digestOfLorry 24 = .ok (.ladd, 1) := by decide +kernel
theorem d_G_digestOfLorry_25 : decode b_G_digestOfLorry 25 = .ok (.lstore_n 3, 1) := by decide +kernel
theorem d_G_digestOfLorry_26 : decode b_G_digestOfLorry 26 = .ok (.iinc 5 1, 3) := by decide +kernel
theorem d_G_digestOfLorry_29 : decode b_G_digestOfLorry 29 = .ok (.goto (-24), 3) := by decide +kernel
theorem d_G_digestOfLorry_32 : decode b_G_digestOfLorry 32 = .ok (.lload_n 3, 1) := by decide +kernel
theorem d_G_digestOfLorry_33 : decode b_G_digestOfLorry 33 = .ok (.lreturn, 1) := by decide +kernel
theorem d_G_isWithin_0 : decode b_G_isWithin 0 = .ok (.iload_n 0, 1) := by decide +kernel
theorem d_G_isWithin_1 : decode b_G_isWithin 1 = .ok (.iload_n 1, 1) := by decide +kernel
theorem d_G_isWithin_2 : decode b_G_isWithin 2 = .ok (.if_icmp .lt 12, 3) := by decide +kernel
theorem d_G_isWithin_5 : decode b_G_isWithin 5 = .ok (.iload_n 0, 1) := by decide +kernel
theorem d_G_isWithin_6 : decode b_G_isWithin 6 = .ok (.iload_n 2, 1) := by decide +kernel
theorem d_G_isWithin_7 : decode b_G_isWithin 7 = .ok (.if_icmp .gt 7, 3) := by decide +kernel
theorem d_G_isWithin_10 : decode b_G_isWithin 10 = .ok (.iconst 1, 1) := by decide +kernel
theorem d_G_isWithin_11 : decode b_G_isWithin 11 = .ok (.goto 4, 3) := by decide +kernel
theorem d_G_isWithin_14 : decode b_G_isWithin 14 = .ok (.iconst 0, 1) := by decide +kernel
theorem d_G_isWithin_15 : decode b_G_isWithin 15 = .ok (.ireturn, 1) := by decide +kernel
theorem d_G_isNode_0 : decode b_G_isNode 0 = .ok (.iload_n 0, 1) := by decide +kernel
theorem d_G_isNode_1 : decode b_G_isNode 1 = .ok (.iconst 0, 1) := by decide +kernel
theorem d_G_isNode_2 : decode b_G_isNode 2 = .ok (.bipush 6, 2) := by decide +kernel
theorem d_G_isNode_4 : decode b_G_isNode 4 = .ok (.invokestatic 78, 3) := by decide +kernel
theorem d_G_isNode_7 : decode b_G_isNode 7 = .ok (.ireturn, 1) := by decide +kernel
theorem d_G_isAir_0 : decode b_G_isAir 0 = .ok (.iload_n 0, 1) := by decide +kernel
theorem d_G_isAir_1 : decode b_G_isAir 1 = .ok (.bipush (-20), 2) := by decide +kernel
theorem d_G_isAir_3 : decode b_G_isAir 3 = .ok (.bipush 20, 2) := by decide +kernel
theorem d_G_isAir_5 : decode b_G_isAir 5 = .ok (.invokestatic 78, 3) := by decide +kernel
theorem d_G_isAir_8 : decode b_G_isAir 8 = .ok (.ireturn, 1) := by decide +kernel
theorem d_G_roadAt_0 : decode b_G_roadAt 0 = .ok (.iload_n 1, 1) := by decide +kernel
theorem d_G_roadAt_1 : decode b_G_roadAt 1 = .ok (.ifCond .lt 21, 3) := by decide +kernel
theorem d_G_roadAt_4 : decode b_G_roadAt 4 = .ok (.iload_n 1, 1) := by decide +kernel
theorem d_G_roadAt_5 : decode b_G_roadAt 5 = .ok (.aload_n 0, 1) := by decide +kernel
theorem d_G_roadAt_6 : decode b_G_roadAt 6 = .ok (.getfield 11, 3) := by decide +kernel
theorem d_G_roadAt_9 : decode b_G_roadAt 9 = .ok (.arraylength, 1) := by decide +kernel
theorem d_G_roadAt_10 : decode b_G_roadAt 10 = .ok (.if_icmp .ge 12, 3) := by decide +kernel
theorem d_G_roadAt_13 : decode b_G_roadAt 13 = .ok (.aload_n 0, 1) := by decide +kernel
theorem d_G_roadAt_14 : decode b_G_roadAt 14 = .ok (.getfield 11, 3) := by decide +kernel
theorem d_G_roadAt_17 : decode b_G_roadAt 17 = .ok (.iload_n 1, 1) := by decide +kernel
theorem d_G_roadAt_18 : decode b_G_roadAt 18 = .ok (.aaload, 1) := by decide +kernel
theorem d_G_roadAt_19 : decode b_G_roadAt 19 = .ok (.goto 4, 3) := by decide +kernel
theorem d_G_roadAt_22 : decode b_G_roadAt 22 = .ok (.aconst_null, 1) := by decide +kernel
theorem d_G_roadAt_23 : decode b_G_roadAt 23 = .ok (.areturn, 1) := by decide +kernel
theorem d_G_lorryAt_0 : decode b_G_lorryAt 0 = .ok (.iload_n 1, 1) := by decide +kernel
theorem d_G_lorryAt_1 : decode b_G_lorryAt 1 = .ok (.ifCond .lt 21, 3) := by decide +kernel
theorem d_G_lorryAt_4 : decode b_G_lorryAt 4 = .ok (.iload_n 1, 1) := by decide +kernel
theorem d_G_lorryAt_5 : decode b_G_lorryAt 5 = .ok (.aload_n 0, 1) := by decide +kernel
theorem d_G_lorryAt_6 : decode b_G_lorryAt 6 = .ok (.getfield 17, 3) := by decide +kernel
theorem d_G_lorryAt_9 : decode b_G_lorryAt 9 = .ok (.arraylength, 1) := by decide +kernel
theorem d_G_lorryAt_10 : decode b_G_lorryAt 10 = .ok (.if_icmp .ge 12, 3) := by decide +kernel
theorem d_G_lorryAt_13 : decode b_G_lorryAt 13 = .ok (.aload_n 0, 1) := by decide +kernel
theorem d_G_lorryAt_14 : decode b_G_lorryAt 14 = .ok (.getfield 17, 3) := by decide +kernel
theorem d_G_lorryAt_17 : decode b_G_lorryAt 17 = .ok (.iload_n 1, 1) := by decide +kernel
theorem d_G_lorryAt_18 : decode b_G_lorryAt 18 = .ok (.aaload, 1) := by decide +kernel
theorem d_G_lorryAt_19 : decode b_G_lorryAt 19 = .ok (.goto 4, 3) := by decide +kernel
theorem d_G_lorryAt_22 : decode b_G_lorryAt 22 = .ok (.aconst_null, 1) := by decide +kernel
theorem d_G_lorryAt_23 : decode b_G_lorryAt 23 = .ok (.areturn, 1) := by decide +kernel
theorem d_G_numberAt_0 : decode b_G_numberAt 0 = .ok (.iload_n 1, 1) := by decide +kernel
theorem d_G_numberAt_1 : decode b_G_numberAt 1 = .ok (.ifCond .lt 15, 3) := by decide +kernel
theorem d_G_numberAt_4 : decode b_G_numberAt 4 = .ok (.iload_n 1, 1) := by decide +kernel
theorem d_G_numberAt_5 : decode b_G_numberAt 5 = .ok (.aload_n 0, 1) := by decide +kernel
theorem d_G_numberAt_6 : decode b_G_numberAt 6 = .ok (.arraylength, 1) := by decide +kernel
theorem d_G_numberAt_7 : decode b_G_numberAt 7 = .ok (.if_icmp .ge 9, 3) := by decide +kernel
theorem d_G_numberAt_10 : decode b_G_numberAt 10 = .ok (.aload_n 0, 1) := by decide +kernel
theorem d_G_numberAt_11 : decode b_G_numberAt 11 = .ok (.iload_n 1, 1) := by decide +kernel
theorem d_G_numberAt_12 : decode b_G_numberAt 12 = .ok (.iaload, 1) := by decide +kernel
theorem d_G_numberAt_13 : decode b_G_numberAt 13 = .ok (.goto 6, 3) := by decide +kernel
theorem d_G_numberAt_16 : decode b_G_numberAt 16 = .ok (.ldc_w 278, 3) := by decide +kernel
theorem d_G_numberAt_19 : decode b_G_numberAt 19 = .ok (.ireturn, 1) := by decide +kernel
theorem d_G_lower_0 : decode b_G_lower 0 = .ok (.iload_n 1, 1) := by decide +kernel
theorem d_G_lower_1 : decode b_G_lower 1 = .ok (.ifCond .lt 20, 3) := by decide +kernel
theorem d_G_lower_4 : decode b_G_lower 4 = .ok (.iload_n 1, 1) := by decide +kernel
theorem d_G_lower_5 : decode b_G_lower 5 = .ok (.aload_n 0, 1) := by decide +kernel
theorem d_G_lower_6 : decode b_G_lower 6 = .ok (.arraylength, 1) := by decide +kernel
theorem d_G_lower_7 : decode b_G_lower 7 = .ok (.if_icmp .ge 14, 3) := by decide +kernel
theorem d_G_lower_10 : decode b_G_lower 10 = .ok (.iload_n 2, 1) := by decide +kernel
theorem d_G_lower_11 : decode b_G_lower 11 = .ok (.aload_n 0, 1) := by decide +kernel
theorem d_G_lower_12 : decode b_G_lower 12 = .ok (.iload_n 1, 1) := by decide +kernel
theorem d_G_lower_13 : decode b_G_lower 13 = .ok (.iaload, 1) := by decide +kernel
theorem d_G_lower_14 : decode b_G_lower 14 = .ok (.if_icmp .ge 7, 3) := by decide +kernel
theorem d_G_lower_17 : decode b_G_lower 17 = .ok (.aload_n 0, 1) := by decide +kernel
theorem d_G_lower_18 : decode b_G_lower 18 = .ok (.iload_n 1, 1) := by decide +kernel
theorem d_G_lower_19 : decode b_G_lower 19 = .ok (.iload_n 2, 1) := by decide +kernel
theorem d_G_lower_20 : decode b_G_lower 20 = .ok (.iastore, 1) := by decide +kernel
theorem d_G_lower_21 : decode b_G_lower 21 = .ok (.return_, 1) := by decide +kernel
theorem d_G_passQuarter_0 : decode b_G_passQuarter 0 = .ok (.aload_n 0, 1) := by decide +kernel
theorem d_G_passQuarter_1 : decode b_G_passQuarter 1 = .ok (.dup, 1) := by decide +kernel
theorem d_G_passQuarter_2 : decode b_G_passQuarter 2 = .ok (.getfield 127, 3) := by decide +kernel
theorem d_G_passQuarter_5 : decode b_G_passQuarter 5 = .ok (.iconst 1, 1) := by decide +kernel
theorem d_G_passQuarter_6 : decode b_G_passQuarter 6 = .ok (.iadd, 1) := by decide +kernel
theorem d_G_passQuarter_7 : decode b_G_passQuarter 7 = .ok (.putfield 127, 3) := by decide +kernel
theorem d_G_passQuarter_10 : decode b_G_passQuarter 10 = .ok (.aload_n 0, 1) := by decide +kernel
theorem d_G_passQuarter_11 : decode b_G_passQuarter 11 = .ok (.getfield 11, 3) := by decide +kernel
theorem d_G_passQuarter_14 : decode b_G_passQuarter 14 = .ok (.astore_n 1, 1) := by decide +kernel
theorem d_G_passQuarter_15 : decode b_G_passQuarter 15 = .ok (.aload_n 1, 1) := by decide +kernel
theorem d_G_passQuarter_16 : decode b_G_passQuarter 16 = .ok (.arraylength, 1) := by decide +kernel
theorem d_G_passQuarter_17 : decode b_G_passQuarter 17 = .ok (.istore_n 2, 1) := by decide +kernel
theorem d_G_passQuarter_18 : decode b_G_passQuarter 18 = .ok (.iconst 0, 1) := by decide +kernel
theorem d_G_passQuarter_19 : decode b_G_passQuarter 19 = .ok (.istore_n 3, 1) := by decide +kernel
theorem d_G_passQuarter_20 : decode b_G_passQuarter 20 = .ok (.iload_n 3, 1) := by decide +kernel
theorem d_G_passQuarter_21 : decode b_G_passQuarter 21 = .ok (.iload_n 2, 1) := by decide +kernel
theorem d_G_passQuarter_22 : decode b_G_passQuarter 22 = .ok (.if_icmp .ge 42, 3) := by decide +kernel
theorem d_G_passQuarter_25 : decode b_G_passQuarter 25 = .ok (.aload_n 1, 1) := by decide +kernel
theorem d_G_passQuarter_26 : decode b_G_passQuarter 26 = .ok (.iload_n 3, 1) := by decide +kernel
theorem d_G_passQuarter_27 : decode b_G_passQuarter 27 = .ok (.aaload, 1) := by decide +kernel
theorem d_G_passQuarter_28 : decode b_G_passQuarter 28 = .ok (.astore 4, 2) := by decide +kernel
theorem d_G_passQuarter_30 : decode b_G_passQuarter 30 = .ok (.aload 4, 2) := by decide +kernel
theorem d_G_passQuarter_32 : decode b_G_passQuarter 32 = .ok (.ifnull 26, 3) := by decide +kernel
theorem d_G_passQuarter_35 : decode b_G_passQuarter 35 = .ok (.aload 4, 2) := by decide +kernel
theorem d_G_passQuarter_37 : decode b_G_passQuarter 37 = .ok (.aload 4, 2) := by decide +kernel
theorem d_G_passQuarter_39 : decode b_G_passQuarter 39 = .ok (.getfield 245, 3) := by decide +kernel
theorem d_G_passQuarter_42 : decode b_G_passQuarter 42 = .ok (.aload_n 0, 1) := by decide +kernel
theorem d_G_passQuarter_43 : decode b_G_passQuarter 43 = .ok (.getfield 36, 3) := by decide +kernel
theorem d_G_passQuarter_46 : decode b_G_passQuarter 46 = .ok (.invokevirtual 279, 3) := by decide +kernel
theorem d_G_passQuarter_49 : decode b_G_passQuarter 49 = .ok (.aload 4, 2) := by decide +kernel
theorem d_G_passQuarter_51 : decode b_G_passQuarter 51 = .ok (.aload_n 0, 1) := by decide +kernel
theorem d_G_passQuarter_52 : decode b_G_passQuarter 52 = .ok (.getfield 127, 3) := by decide +kernel
theorem d_G_passQuarter_55 : decode b_G_passQuarter 55 = .ok (.invokevirtual 283, 3) := by decide +kernel
theorem d_G_passQuarter_58 : decode b_G_passQuarter 58 = .ok (.iinc 3 1, 3) := by decide +kernel
theorem d_G_passQuarter_61 : decode b_G_passQuarter 61 = .ok (.goto (-41), 3) := by decide +kernel
theorem d_G_passQuarter_64 : decode b_G_passQuarter 64 = .ok (.aload_n 0, 1) := by decide +kernel
theorem d_G_passQuarter_65 : decode b_G_passQuarter 65 = .ok (.getfield 17, 3) := by decide +kernel
theorem d_G_passQuarter_68 : decode b_G_passQuarter 68 = .ok (.astore_n 1, 1) := by decide +kernel
theorem d_G_passQuarter_69 : decode b_G_passQuarter 69 = .ok (.aload_n 1, 1) := by decide +kernel
theorem d_G_passQuarter_70 : decode b_G_passQuarter 70 = .ok (.arraylength, 1) := by decide +kernel
theorem d_G_passQuarter_71 : decode b_G_passQuarter 71 = .ok (.istore_n 2, 1) := by decide +kernel
theorem d_G_passQuarter_72 : decode b_G_passQuarter 72 = .ok (.iconst 0, 1) := by decide +kernel
theorem d_G_passQuarter_73 : decode b_G_passQuarter 73 = .ok (.istore_n 3, 1) := by decide +kernel
theorem d_G_passQuarter_74 : decode b_G_passQuarter 74 = .ok (.iload_n 3, 1) := by decide +kernel
theorem d_G_passQuarter_75 : decode b_G_passQuarter 75 = .ok (.iload_n 2, 1) := by decide +kernel
theorem d_G_passQuarter_76 : decode b_G_passQuarter 76 = .ok (.if_icmp .ge 25, 3) := by decide +kernel
theorem d_G_passQuarter_79 : decode b_G_passQuarter 79 = .ok (.aload_n 1, 1) := by decide +kernel
theorem d_G_passQuarter_80 : decode b_G_passQuarter 80 = .ok (.iload_n 3, 1) := by decide +kernel
theorem d_G_passQuarter_81 : decode b_G_passQuarter 81 = .ok (.aaload, 1) := by decide +kernel
theorem d_G_passQuarter_82 : decode b_G_passQuarter 82 = .ok (.astore 4, 2) := by decide +kernel
theorem d_G_passQuarter_84 : decode b_G_passQuarter 84 = .ok (.aload 4, 2) := by decide +kernel
theorem d_G_passQuarter_86 : decode b_G_passQuarter 86 = .ok (.ifnull 9, 3) := by decide +kernel
theorem d_G_passQuarter_89 : decode b_G_passQuarter 89 = .ok (.aload_n 0, 1) := by decide +kernel
theorem d_G_passQuarter_90 : decode b_G_passQuarter 90 = .ok (.aload 4, 2) := by decide +kernel
theorem d_G_passQuarter_92 : decode b_G_passQuarter 92 = .ok (.invokevirtual 286, 3) := by decide +kernel
theorem d_G_passQuarter_95 : decode b_G_passQuarter 95 = .ok (.iinc 3 1, 3) := by decide +kernel
theorem d_G_passQuarter_98 : decode b_G_passQuarter 98 = .ok (.goto (-24), 3) := by decide +kernel
theorem d_G_passQuarter_101 : decode b_G_passQuarter 101 = .ok (.aload_n 0, 1) := by decide +kernel
theorem d_G_passQuarter_102 : decode b_G_passQuarter 102 = .ok (.invokevirtual 290, 3) := by decide +kernel
theorem d_G_passQuarter_105 : decode b_G_passQuarter 105 = .ok (.return_, 1) := by decide +kernel
theorem d_G_work_0 : decode b_G_work 0 = .ok (.aload_n 1, 1) := by decide +kernel
theorem d_G_work_1 : decode b_G_work 1 = .ok (.getfield 180, 3) := by decide +kernel
theorem d_G_work_4 : decode b_G_work 4 = .ok (.ifCond .eq 12, 3) := by decide +kernel
theorem d_G_work_7 : decode b_G_work 7 = .ok (.aload_n 1, 1) := by decide +kernel
theorem d_G_work_8 : decode b_G_work 8 = .ok (.getfield 205, 3) := by decide +kernel
theorem d_G_work_11 : decode b_G_work 11 = .ok (.bipush 40, 2) := by decide +kernel
theorem d_G_work_13 : decode b_G_work 13 = .ok (.if_icmp .lt 4, 3) := by decide +kernel
theorem d_G_work_16 : decode b_G_work 16 = .ok (.return_, 1) := by decide +kernel
theorem d_G_work_17 : decode b_G_work 17 = .ok (.aload_n 1, 1) := by decide +kernel
theorem d_G_work_18 : decode b_G_work 18 = .ok (.dup, 1) := by decide +kernel
theorem d_G_work_19 : decode b_G_work 19 = .ok (.getfield 205, 3) := by decide +kernel
theorem d_G_work_22 : decode b_G_work 22 = .ok (.iconst 1, 1) := by decide +kernel
theorem d_G_work_23 : decode b_G_work 23 = .ok (.iadd, 1) := by decide +kernel
theorem d_G_work_24 : decode b_G_work 24 = .ok (.putfield 205, 3) := by decide +kernel
theorem d_G_work_27 : decode b_G_work 27 = .ok (.aload_n 0, 1) := by decide +kernel
theorem d_G_work_28 : decode b_G_work 28 = .ok (.aload_n 1, 1) := by decide +kernel
theorem d_G_work_29 : decode b_G_work 29 = .ok (.invokevirtual 293, 3) := by decide +kernel
theorem d_G_work_32 : decode b_G_work 32 = .ok (.invokevirtual 174, 3) := by decide +kernel
theorem d_G_work_35 : decode b_G_work 35 = .ok (.astore_n 2, 1) := by decide +kernel
theorem d_G_work_36 : decode b_G_work 36 = .ok (.aload_n 2, 1) := by decide +kernel
theorem d_G_work_37 : decode b_G_work 37 = .ok (.ifnull 22, 3) := by decide +kernel
theorem d_G_work_40 : decode b_G_work 40 = .ok (.aload_n 1, 1) := by decide +kernel
theorem d_G_work_41 : decode b_G_work 41 = .ok (.getfield 189, 3) := by decide +kernel
theorem d_G_work_44 : decode b_G_work 44 = .ok (.iconst (-1), 1) := by decide +kernel
theorem d_G_work_45 : decode b_G_work 45 = .ok (.if_icmp .eq 19, 3) := by decide +kernel
theorem d_G_work_48 : decode b_G_work 48 = .ok (.aload_n 2, 1) := by decide +kernel
theorem d_G_work_49 : decode b_G_work 49 = .ok (.aload_n 1, 1) := by decide +kernel
theorem d_G_work_50 : decode b_G_work 50 = .ok (.getfield 189, 3) := by decide +kernel
theorem d_G_work_53 : decode b_G_work 53 = .ok (.invokevirtual 296, 3) := by decide +kernel
theorem d_G_work_56 : decode b_G_work 56 = .ok (.ifCond .ne 8, 3) := by decide +kernel
theorem d_G_work_59 : decode b_G_work 59 = .ok (.aload_n 1, 1) := by decide +kernel
theorem d_G_work_60 : decode b_G_work 60 = .ok (.invokevirtual 299, 3) := by decide +kernel
theorem d_G_work_63 : decode b_G_work 63 = .ok (.return_, 1) := by decide +kernel
theorem d_G_work_64 : decode b_G_work 64 = .ok (.aload_n 1, 1) := by decide +kernel
theorem d_G_work_65 : decode b_G_work 65 = .ok (.getfield 189, 3) := by decide +kernel
theorem d_G_work_68 : decode b_G_work 68 = .ok (.iconst (-1), 1) := by decide +kernel
theorem d_G_work_69 : decode b_G_work 69 = .ok (.if_icmp .eq 20, 3) := by decide +kernel
theorem d_G_work_72 : decode b_G_work 72 = .ok (.aload_n 1, 1) := by decide +kernel
theorem d_G_work_73 : decode b_G_work 73 = .ok (.aload_n 2, 1) := by decide +kernel
theorem d_G_work_74 : decode b_G_work 74 = .ok (.aload_n 1, 1) := by decide +kernel
theorem d_G_work_75 : decode b_G_work 75 = .ok (.getfield 189, 3) := by decide +kernel
theorem d_G_work_78 : decode b_G_work 78 = .ok (.invokevirtual 302, 3) := by decide +kernel
theorem d_G_work_81 : decode b_G_work 81 = .ok (.putfield 305, 3) := by decide +kernel
theorem d_G_work_84 : decode b_G_work 84 = .ok (.aload_n 1, 1) := by decide +kernel
theorem d_G_work_85 : decode b_G_work 85 = .ok (.iconst (-1), 1) := by decide +kernel
theorem d_G_work_86 : decode b_G_work 86 = .ok (.putfield 189, 3) := by decide +kernel
theorem d_G_work_89 : decode b_G_work 89 = .ok (.aload_n 1, 1) := by decide +kernel
theorem d_G_work_90 : decode b_G_work 90 = .ok (.dup, 1) := by decide +kernel
theorem d_G_work_91 : decode b_G_work 91 = .ok (.getfield 308, 3) := by decide +kernel
theorem d_G_work_94 : decode b_G_work 94 = .ok (.iconst 1, 1) := by decide +kernel
theorem d_G_work_95 : decode b_G_work 95 = .ok (.iadd, 1) := by decide +kernel
theorem d_G_work_96 : decode b_G_work 96 = .ok (.putfield 308, 3) := by decide +kernel
theorem d_G_work_99 : decode b_G_work 99 = .ok (.aload_n 1, 1) := by decide +kernel
theorem d_G_work_100 : decode b_G_work 100 = .ok (.getfield 308, 3) := by decide +kernel
theorem d_G_work_103 : decode b_G_work 103 = .ok (.aload_n 2, 1) := by decide +kernel
theorem d_G_work_104 : decode b_G_work 104 = .ok (.getfield 311, 3) := by decide +kernel
theorem d_G_work_107 : decode b_G_work 107 = .ok (.if_icmp .lt 13, 3) := by decide +kernel
theorem d_G_work_110 : decode b_G_work 110 = .ok (.aload_n 1, 1) := by decide +kernel
theorem d_G_work_111 : decode b_G_work 111 = .ok (.invokevirtual 314, 3) := by decide +kernel
theorem d_G_work_114 : decode b_G_work 114 = .ok (.aload_n 0, 1) := by decide +kernel
theorem d_G_work_115 : decode b_G_work 115 = .ok (.aload_n 2, 1) := by decide +kernel
theorem d_G_work_116 : decode b_G_work 116 = .ok (.aload_n 1, 1) := by decide +kernel
theorem d_G_work_117 : decode b_G_work 117 = .ok (.invokevirtual 317, 3) := by decide +kernel
theorem d_G_work_120 : decode b_G_work 120 = .ok (.return_, 1) := by decide +kernel
theorem d_G_treat_0 : decode b_G_treat 0 = .ok (.aload_n 2, 1) := by decide +kernel
theorem d_G_treat_1 : decode b_G_treat 1 = .ok (.getfield 171, 3) := by decide +kernel
theorem d_G_treat_4 : decode b_G_treat 4 = .ok (.aload_n 1, 1) := by decide +kernel
theorem d_G_treat_5 : decode b_G_treat 5 = .ok (.getfield 311, 3) := by decide +kernel
theorem d_G_treat_8 : decode b_G_treat 8 = .ok (.imul, 1) := by decide +kernel
theorem d_G_treat_9 : decode b_G_treat 9 = .ok (.aload_n 2, 1) := by decide +kernel
theorem d_G_treat_10 : decode b_G_treat 10 = .ok (.getfield 194, 3) := by decide +kernel
theorem d_G_treat_13 : decode b_G_treat 13 = .ok (.invokestatic 197, 3) := by decide +kernel
theorem d_G_treat_16 : decode b_G_treat 16 = .ok (.istore_n 3, 1) := by decide +kernel
theorem d_G_treat_17 : decode b_G_treat 17 = .ok (.aload_n 2, 1) := by decide +kernel
theorem d_G_treat_18 : decode b_G_treat 18 = .ok (.dup, 1) := by decide +kernel
theorem d_G_treat_19 : decode b_G_treat 19 = .ok (.getfield 194, 3) := by decide +kernel
theorem d_G_treat_22 : decode b_G_treat 22 = .ok (.iload_n 3, 1) := by decide +kernel
theorem d_G_treat_23 : decode b_G_treat 23 = .ok (.isub, 1) := by decide +kernel
theorem d_G_treat_24 : decode b_G_treat 24 = .ok (.putfield 194, 3) := by decide +kernel
theorem d_G_treat_27 : decode b_G_treat 27 = .ok (.aload_n 2, 1) := by decide +kernel
theorem d_G_treat_28 : decode b_G_treat 28 = .ok (.dup, 1) := by decide +kernel
theorem d_G_treat_29 : decode b_G_treat 29 = .ok (.getfield 321, 3) := by decide +kernel
theorem d_G_treat_32 : decode b_G_treat 32 = .ok (.iload_n 3, 1) := by decide +kernel
theorem d_G_treat_33 : decode b_G_treat 33 = .ok (.iadd, 1) := by decide +kernel
theorem d_G_treat_34 : decode b_G_treat 34 = .ok (.putfield 321, 3) := by decide +kernel
theorem d_G_treat_37 : decode b_G_treat 37 = .ok (.aload_n 1, 1) := by decide +kernel
theorem d_G_treat_38 : decode b_G_treat 38 = .ok (.getfield 245, 3) := by decide +kernel
theorem d_G_treat_41 : decode b_G_treat 41 = .ok (.dup, 1) := by decide +kernel
theorem d_G_treat_42 : decode b_G_treat 42 = .ok (.getfield 324, 3) := by decide +kernel
theorem d_G_treat_45 : decode b_G_treat 45 = .ok (.iload_n 3, 1) := by decide +kernel
theorem d_G_treat_46 : decode b_G_treat 46 = .ok (.iadd, 1) := by decide +kernel
theorem d_G_treat_47 : decode b_G_treat 47 = .ok (.putfield 324, 3) := by decide +kernel
theorem d_G_treat_50 : decode b_G_treat 50 = .ok (.aload_n 2, 1) := by decide +kernel
theorem d_G_treat_51 : decode b_G_treat 51 = .ok (.getfield 327, 3) := by decide +kernel
theorem d_G_treat_54 : decode b_G_treat 54 = .ok (.ifCond .eq 27, 3) := by decide +kernel
theorem d_G_treat_57 : decode b_G_treat 57 = .ok (.aload_n 0, 1) := by decide +kernel
theorem d_G_treat_58 : decode b_G_treat 58 = .ok (.dup, 1) := by decide +kernel
theorem d_G_treat_59 : decode b_G_treat 59 = .ok (.getfield 330, 3) := by decide +kernel
theorem d_G_treat_62 : decode b_G_treat 62 = .ok (.aload_n 1, 1) := by decide +kernel
theorem d_G_treat_63 : decode b_G_treat 63 = .ok (.getfield 245, 3) := by decide +kernel
theorem d_G_treat_66 : decode b_G_treat 66 = .ok (.getfield 333, 3) := by decide +kernel
theorem d_G_treat_69 : decode b_G_treat 69 = .ok (.iadd, 1) := by decide +kernel
theorem d_G_treat_70 : decode b_G_treat 70 = .ok (.putfield 330, 3) := by decide +kernel
theorem d_G_treat_73 : decode b_G_treat 73 = .ok (.aload_n 1, 1) := by decide +kernel
theorem d_G_treat_74 : decode b_G_treat 74 = .ok (.getfield 245, 3) := by decide +kernel
theorem d_G_treat_77 : decode b_G_treat 77 = .ok (.iconst 0, 1) := by decide +kernel
theorem d_G_treat_78 : decode b_G_treat 78 = .ok (.putfield 333, 3) := by decide +kernel
theorem d_G_treat_81 : decode b_G_treat 81 = .ok (.iload_n 3, 1) := by decide +kernel
theorem d_G_treat_82 : decode b_G_treat 82 = .ok (.ifCond .gt 10, 3) := by decide +kernel
theorem d_G_treat_85 : decode b_G_treat 85 = .ok (.aload_n 2, 1) := by decide +kernel
theorem d_G_treat_86 : decode b_G_treat 86 = .ok (.getfield 327, 3) := by decide +kernel
theorem d_G_treat_89 : decode b_G_treat 89 = .ok (.ifCond .eq 11, 3) := by decide +kernel
theorem d_G_treat_92 : decode b_G_treat 92 = .ok (.aload_n 1, 1) := by decide +kernel
theorem d_G_treat_93 : decode b_G_treat 93 = .ok (.aload_n 0, 1) := by decide +kernel
theorem d_G_treat_94 : decode b_G_treat 94 = .ok (.getfield 127, 3) := by decide +kernel
theorem d_G_treat_97 : decode b_G_treat 97 = .ok (.invokevirtual 336, 3) := by decide +kernel
theorem d_G_treat_100 : decode b_G_treat 100 = .ok (.return_, 1) := by decide +kernel
theorem d_G_takeDeliveries_0 : decode b_G_takeDeliveries 0 = .ok (.iconst 0, 1) := by decide +kernel
theorem d_G_takeDeliveries_1 : decode b_G_takeDeliveries 1 = .ok (.istore_n 1, 1) := by decide +kernel
theorem d_G_takeDeliveries_2 : decode b_G_takeDeliveries 2 = .ok (.iload_n 1, 1) := by decide +kernel
theorem d_G_takeDeliveries_3 : decode b_G_takeDeliveries 3 = .ok (.aload_n 0, 1) := by decide +kernel
theorem d_G_takeDeliveries_4 : decode b_G_takeDeliveries 4 = .ok (.getfield 29, 3) := by decide +kernel
theorem d_G_takeDeliveries_7 : decode b_G_takeDeliveries 7 = .ok (.arraylength, 1) := by decide +kernel
theorem d_G_takeDeliveries_8 : decode b_G_takeDeliveries 8 = .ok (.if_icmp .ge 89, 3) := by decide +kernel
theorem d_G_takeDeliveries_11 : decode b_G_takeDeliveries 11 = .ok (.aload_n 0, 1) := by decide +kernel
theorem d_G_takeDeliveries_12 : decode b_G_takeDeliveries 12 = .ok (.getfield 29, 3) := by decide +kernel
theorem d_G_takeDeliveries_15 : decode b_G_takeDeliveries 15 = .ok (.iload_n 1, 1) := by decide +kernel
theorem d_G_takeDeliveries_16 : decode b_G_takeDeliveries 16 = .ok (.aaload, 1) := by decide +kernel
theorem d_G_takeDeliveries_17 : decode b_G_takeDeliveries 17 = .ok (.astore_n 2, 1) := by decide +kernel
theorem d_G_takeDeliveries_18 : decode b_G_takeDeliveries 18 = .ok (.aload_n 2, 1) := by decide +kernel
theorem d_G_takeDeliveries_19 : decode b_G_takeDeliveries 19 = .ok (.ifnull 72, 3) := by decide +kernel
theorem d_G_takeDeliveries_22 : decode b_G_takeDeliveries 22 = .ok (.aload_n 2, 1) := by decide +kernel
theorem d_G_takeDeliveries_23 : decode b_G_takeDeliveries 23 = .ok (.getfield 339, 3) := by decide +kernel
theorem d_G_takeDeliveries_26 : decode b_G_takeDeliveries 26 = .ok (.aload_n 0, 1) := by decide +kernel
theorem d_G_takeDeliveries_27 : decode b_G_takeDeliveries 27 = .ok (.getfield 127, 3) := by decide +kernel
theorem d_G_takeDeliveries_30 : decode b_G_takeDeliveries 30 = .ok (.if_icmp .ne 61, 3) := by decide +kernel
theorem d_G_takeDeliveries_33 : decode b_G_takeDeliveries 33 = .ok (.aload_n 2, 1) := by decide +kernel
theorem d_G_takeDeliveries_34 : decode b_G_takeDeliveries 34 = .ok (.getfield 342, 3) := by decide +kernel
theorem d_G_takeDeliveries_37 : decode b_G_takeDeliveries 37 = .ok (.sipush 999, 3) := by decide +kernel
theorem d_G_takeDeliveries_40 : decode b_G_takeDeliveries 40 = .ok (.aload_n 0, 1) := by decide +kernel
theorem d_G_takeDeliveries_41 : decode b_G_takeDeliveries 41 = .ok (.getfield 58, 3) := by decide +kernel
theorem d_G_takeDeliveries_44 : decode b_G_takeDeliveries 44 = .ok (.isub, 1) := by decide +kernel
theorem d_G_takeDeliveries_45 : decode b_G_takeDeliveries 45 = .ok (.invokestatic 197, 3) := by decide +kernel
theorem d_G_takeDeliveries_48 : decode b_G_takeDeliveries 48 = .ok (.istore_n 3, 1) := by decide +kernel
theorem d_G_takeDeliveries_49 : decode b_G_takeDeliveries 49 = .ok (.aload_n 0, 1) := by decide +kernel
theorem d_G_takeDeliveries_50 : decode b_G_takeDeliveries 50 = .ok (.dup, 1) := by decide +kernel
theorem d_G_takeDeliveries_51 : decode b_G_takeDeliveries 51 = .ok (.getfield 58, 3) := by decide +kernel
theorem d_G_takeDeliveries_54 : decode b_G_takeDeliveries 54 = .ok (.iload_n 3, 1) := by decide +kernel
theorem d_G_takeDeliveries_55 : decode b_G_takeDeliveries 55 = .ok (.iadd, 1) := by decide +kernel
theorem d_G_takeDeliveries_56 : decode b_G_takeDeliveries 56 = .ok (.putfield 58, 3) := by decide +kernel
theorem d_G_takeDeliveries_59 : decode b_G_takeDeliveries 59 = .ok (.aload_n 0, 1) := by decide +kernel
theorem d_G_takeDeliveries_60 : decode b_G_takeDeliveries 60 = .ok (.dup, 1) := by decide +kernel
theorem d_G_takeDeliveries_61 : decode b_G_takeDeliveries 61 = .ok (.getfield 345, 3) := by decide +kernel
theorem d_G_takeDeliveries_64 : decode b_G_takeDeliveries 64 = .ok (.iload_n 3, 1) := by decide +kernel
theorem d_G_takeDeliveries_65 : decode b_G_takeDeliveries 65 = .ok (.iadd, 1) := by decide +kernel
theorem d_G_takeDeliveries_66 : decode b_G_takeDeliveries 66 = .ok (.putfield 345, 3) := by decide +kernel
theorem d_G_takeDeliveries_69 : decode b_G_takeDeliveries 69 = .ok (.aload_n 0, 1) := by decide +kernel
theorem d_G_takeDeliveries_70 : decode b_G_takeDeliveries 70 = .ok (.dup, 1) := by decide +kernel
theorem d_G_takeDeliveries_71 : decode b_G_takeDeliveries 71 = .ok (.getfield 348, 3) := by decide +kernel
theorem d_G_takeDeliveries_74 : decode b_G_takeDeliveries 74 = .ok (.aload_n 2, 1) := by decide +kernel
theorem d_G_takeDeliveries_75 : decode b_G_takeDeliveries 75 = .ok (.getfield 342, 3) := by decide +kernel
theorem d_G_takeDeliveries_78 : decode b_G_takeDeliveries 78 = .ok (.iload_n 3, 1) := by decide +kernel
theorem d_G_takeDeliveries_79 : decode b_G_takeDeliveries 79 = .ok (.isub, 1) := by decide +kernel
theorem d_G_takeDeliveries_80 : decode b_G_takeDeliveries 80 = .ok (.iadd, 1) := by decide +kernel
theorem d_G_takeDeliveries_81 : decode b_G_takeDeliveries 81 = .ok (.putfield 348, 3) := by decide +kernel
theorem d_G_takeDeliveries_84 : decode b_G_takeDeliveries 84 = .ok (.aload_n 0, 1) := by decide +kernel
theorem d_G_takeDeliveries_85 : decode b_G_takeDeliveries 85 = .ok (.getfield 29, 3) := by decide +kernel
theorem d_G_takeDeliveries_88 : decode b_G_takeDeliveries 88 = .ok (.iload_n 1, 1) := by decide +kernel
theorem d_G_takeDeliveries_89 : decode b_G_takeDeliveries 89 = .ok (.aconst_null, 1) := by decide +kernel
theorem d_G_takeDeliveries_90 : decode b_G_takeDeliveries 90 = .ok (.aastore, 1) := by decide +kernel
theorem d_G_takeDeliveries_91 : decode b_G_takeDeliveries 91 = .ok (.iinc 1 1, 3) := by decide +kernel
theorem d_G_takeDeliveries_94 : decode b_G_takeDeliveries 94 = .ok (.goto (-92), 3) := by decide +kernel
theorem d_G_takeDeliveries_97 : decode b_G_takeDeliveries 97 = .ok (.return_, 1) := by decide +kernel
theorem d_G_keepDelivery_0 : decode b_G_keepDelivery 0 = .ok (.iconst 0, 1) := by decide +kernel
theorem d_G_keepDelivery_1 : decode b_G_keepDelivery 1 = .ok (.istore_n 2, 1) := by decide +kernel
theorem d_G_keepDelivery_2 : decode b_G_keepDelivery 2 = .ok (.iload_n 2, 1) := by decide +kernel
theorem d_G_keepDelivery_3 : decode b_G_keepDelivery 3 = .ok (.aload_n 0, 1) := by decide +kernel
theorem d_G_keepDelivery_4 : decode b_G_keepDelivery 4 = .ok (.getfield 29, 3) := by decide +kernel
theorem d_G_keepDelivery_7 : decode b_G_keepDelivery 7 = .ok (.arraylength, 1) := by decide +kernel
theorem d_G_keepDelivery_8 : decode b_G_keepDelivery 8 = .ok (.if_icmp .ge 26, 3) := by decide +kernel
theorem d_G_keepDelivery_11 : decode b_G_keepDelivery 11 = .ok (.aload_n 0, 1) := by decide +kernel
theorem d_G_keepDelivery_12 : decode b_G_keepDelivery 12 = .ok (.getfield 29, 3) := by decide +kernel
theorem d_G_keepDelivery_15 : decode b_G_keepDelivery 15 = .ok (.iload_n 2, 1) := by decide +kernel
theorem d_G_keepDelivery_16 : decode b_G_keepDelivery 16 = .ok (.aaload, 1) := by decide +kernel
theorem d_G_keepDelivery_17 : decode b_G_keepDelivery 17 = .ok (.ifnonnull 11, 3) := by decide +kernel
theorem d_G_keepDelivery_20 : decode b_G_keepDelivery 20 = .ok (.aload_n 0, 1) := by decide +kernel
theorem d_G_keepDelivery_21 : decode b_G_keepDelivery 21 = .ok (.getfield 29, 3) := by decide +kernel
theorem d_G_keepDelivery_24 : decode b_G_keepDelivery 24 = .ok (.iload_n 2, 1) := by decide +kernel
theorem d_G_keepDelivery_25 : decode b_G_keepDelivery 25 = .ok (.aload_n 1, 1) := by decide +kernel
theorem d_G_keepDelivery_26 : decode b_G_keepDelivery 26 = .ok (.aastore, 1) := by decide +kernel
theorem d_G_keepDelivery_27 : decode b_G_keepDelivery 27 = .ok (.return_, 1) := by decide +kernel
theorem d_G_keepDelivery_28 : decode b_G_keepDelivery 28 = .ok (.iinc 2 1, 3) := by decide +kernel
theorem d_G_keepDelivery_31 : decode b_G_keepDelivery 31 = .ok (.goto (-29), 3) := by decide +kernel
theorem d_G_keepDelivery_34 : decode b_G_keepDelivery 34 = .ok (.return_, 1) := by decide +kernel
theorem d_G_roadsForetold_0 : decode b_G_roadsForetold 0 = .ok (.iconst 0, 1) := by decide +kernel
theorem d_G_roadsForetold_1 : decode b_G_roadsForetold 1 = .ok (.istore_n 2, 1) := by decide +kernel
theorem d_G_roadsForetold_2 : decode b_G_roadsForetold 2 = .ok (.aload_n 0, 1) := by decide +kernel
theorem d_G_roadsForetold_3 : decode b_G_roadsForetold 3 = .ok (.getfield 11, 3) := by decide +kernel
theorem d_G_roadsForetold_6 : decode b_G_roadsForetold 6 = .ok (.astore_n 3, 1) := by decide +kernel
theorem d_G_roadsForetold_7 : decode b_G_roadsForetold 7 = .ok (.aload_n 3, 1) := by decide +kernel
theorem d_G_roadsForetold_8 : decode b_G_roadsForetold 8 = .ok (.arraylength, 1) := by decide +kernel
theorem d_G_roadsForetold_9 : decode b_G_roadsForetold 9 = .ok (.istore 4, 2) := by decide +kernel
theorem d_G_roadsForetold_11 : decode b_G_roadsForetold 11 = .ok (.iconst 0, 1) := by decide +kernel
theorem d_G_roadsForetold_12 : decode b_G_roadsForetold 12 = .ok (.istore 5, 2) := by decide +kernel
theorem d_G_roadsForetold_14 : decode b_G_roadsForetold 14 = .ok (.iload 5, 2) := by decide +kernel
theorem d_G_roadsForetold_16 : decode b_G_roadsForetold 16 = .ok (.iload 4, 2) := by decide +kernel
theorem d_G_roadsForetold_18 : decode b_G_roadsForetold 18 = .ok (.if_icmp .ge 32, 3) := by decide +kernel
theorem d_G_roadsForetold_21 : decode b_G_roadsForetold 21 = .ok (.aload_n 3, 1) := by decide +kernel
theorem d_G_roadsForetold_22 : decode b_G_roadsForetold 22 = .ok (.iload 5, 2) := by decide +kernel
theorem d_G_roadsForetold_24 : decode b_G_roadsForetold 24 = .ok (.aaload, 1) := by decide +kernel
theorem d_G_roadsForetold_25 : decode b_G_roadsForetold 25 = .ok (.astore 6, 2) := by decide +kernel
theorem d_G_roadsForetold_27 : decode b_G_roadsForetold 27 = .ok (.aload 6, 2) := by decide +kernel
theorem d_G_roadsForetold_29 : decode b_G_roadsForetold 29 = .ok (.ifnull 15, 3) := by decide +kernel
theorem d_G_roadsForetold_32 : decode b_G_roadsForetold 32 = .ok (.aload_n 1, 1) := by decide +kernel
theorem d_G_roadsForetold_33 : decode b_G_roadsForetold 33 = .ok (.aload 6, 2) := by decide +kernel
theorem d_G_roadsForetold_35 : decode b_G_roadsForetold 35 = .ok (.invokevirtual 351, 3) := by decide +kernel
theorem d_G_roadsForetold_38 : decode b_G_roadsForetold 38 = .ok (.ifCond .eq 6, 3) := by decide +kernel
theorem d_G_roadsForetold_41 : decode b_G_roadsForetold 41 = .ok (.iinc 2 1, 3) := by decide +kernel
theorem d_G_roadsForetold_44 : decode b_G_roadsForetold 44 = .ok (.iinc 5 1, 3) := by decide +kernel
theorem d_G_roadsForetold_47 : decode b_G_roadsForetold 47 = .ok (.goto (-33), 3) := by decide +kernel
theorem d_G_roadsForetold_50 : decode b_G_roadsForetold 50 = .ok (.iload_n 2, 1) := by decide +kernel
theorem d_G_roadsForetold_51 : decode b_G_roadsForetold 51 = .ok (.ireturn, 1) := by decide +kernel
theorem d_G_answerTo_0 : decode b_G_answerTo 0 = .ok (.aload_n 1, 1) := by decide +kernel
theorem d_G_answerTo_1 : decode b_G_answerTo 1 = .ok (.iload_n 2, 1) := by decide +kernel
theorem d_G_answerTo_2 : decode b_G_answerTo 2 = .ok (.invokevirtual 355, 3) := by decide +kernel
theorem d_G_answerTo_5 : decode b_G_answerTo 5 = .ok (.ifCond .ne 5, 3) := by decide +kernel
theorem d_G_answerTo_8 : decode b_G_answerTo 8 = .ok (.iconst 0, 1) := by decide +kernel
theorem d_G_answerTo_9 : decode b_G_answerTo 9 = .ok (.ireturn, 1) := by decide +kernel
theorem d_G_answerTo_10 : decode b_G_answerTo 10 = .ok (.aload_n 1, 1) := by decide +kernel
theorem d_G_answerTo_11 : decode b_G_answerTo 11 = .ok (.iload_n 2, 1) := by decide +kernel
theorem d_G_answerTo_12 : decode b_G_answerTo 12 = .ok (.bipush 12, 2) := by decide +kernel
theorem d_G_answerTo_14 : decode b_G_answerTo 14 = .ok (.isub, 1) := by decide +kernel
theorem d_G_answerTo_15 : decode b_G_answerTo 15 = .ok (.iload_n 2, 1) := by decide +kernel
theorem d_G_answerTo_16 : decode b_G_answerTo 16 = .ok (.invokevirtual 358, 3) := by decide +kernel
theorem d_G_answerTo_19 : decode b_G_answerTo 19 = .ok (.ifCond .eq 5, 3) := by decide +kernel
theorem d_G_answerTo_22 : decode b_G_answerTo 22 = .ok (.iconst 1, 1) := by decide +kernel
theorem d_G_answerTo_23 : decode b_G_answerTo 23 = .ok (.ireturn, 1) := by decide +kernel
theorem d_G_answerTo_24 : decode b_G_answerTo 24 = .ok (.aload_n 0, 1) := by decide +kernel
theorem d_G_answerTo_25 : decode b_G_answerTo 25 = .ok (.aload_n 1, 1) := by decide +kernel
theorem d_G_answerTo_26 : decode b_G_answerTo 26 = .ok (.iload_n 2, 1) := by decide +kernel
theorem d_G_answerTo_27 : decode b_G_answerTo 27 = .ok (.invokevirtual 362, 3) := by decide +kernel
theorem d_G_answerTo_30 : decode b_G_answerTo 30 = .ok (.astore_n 3, 1) := by decide +kernel
theorem d_G_answerTo_31 : decode b_G_answerTo 31 = .ok (.aload_n 3, 1) := by decide +kernel
theorem d_G_answerTo_32 : decode b_G_answerTo 32 = .ok (.ifnonnull 5, 3) := by decide +kernel
theorem d_G_answerTo_35 : decode b_G_answerTo 35 = .ok (.iconst 2, 1) := by decide +kernel
theorem d_G_answerTo_36 : decode b_G_answerTo 36 = .ok (.ireturn, 1) := by decide +kernel
theorem d_G_answerTo_37 : decode b_G_answerTo 37 = .ok (.aload_n 3, 1) := by decide +kernel
theorem d_G_answerTo_38 : decode b_G_answerTo 38 = .ok (.getfield 366, 3) := by decide +kernel
theorem d_G_answerTo_41 : decode b_G_answerTo 41 = .ok (.ifCond .ne 7, 3) := by decide +kernel
theorem d_G_answerTo_44 : decode b_G_answerTo 44 = .ok (.iconst 3, 1) := by decide +kernel
theorem d_G_answerTo_45 : decode b_G_answerTo 45 = .ok (.goto 4, 3) := by decide +kernel
theorem d_G_answerTo_48 : decode b_G_answerTo 48 = .ok (.iconst 4, 1) := by decide +kernel
theorem d_G_answerTo_49 : decode b_G_answerTo 49 = .ok (.ireturn, 1) := by decide +kernel
theorem d_G_lastWarning_0 : decode b_G_lastWarning 0 = .ok (.aconst_null, 1) := by decide +kernel
theorem d_G_lastWarning_1 : decode b_G_lastWarning 1 = .ok (.astore_n 3, 1) := by decide +kernel
theorem d_G_lastWarning_2 : decode b_G_lastWarning 2 = .ok (.aload_n 0, 1) := by decide +kernel
theorem d_G_lastWarning_3 : decode b_G_lastWarning 3 = .ok (.getfield 23, 3) := by decide +kernel
theorem d_G_lastWarning_6 : decode b_G_lastWarning 6 = .ok (.astore 4, 2) := by decide +kernel
theorem d_G_lastWarning_8 : decode b_G_lastWarning 8 = .ok (.aload 4, 2) := by decide +kernel
theorem d_G_lastWarning_10 : decode b_G_lastWarning 10 = .ok (.arraylength, 1) := by decide +kernel
theorem d_G_lastWarning_11 : decode b_G_lastWarning 11 = .ok (.istore 5, 2) := by decide +kernel
theorem d_G_lastWarning_13 : decode b_G_lastWarning 13 = .ok (.iconst 0, 1) := by decide +kernel
theorem d_G_lastWarning_14 : decode b_G_lastWarning 14 = .ok (.istore 6, 2) := by decide +kernel
theorem d_G_lastWarning_16 : decode b_G_lastWarning 16 = .ok (.iload 6, 2) := by decide +kernel
theorem d_G_lastWarning_18 : decode b_G_lastWarning 18 = .ok (.iload 5, 2) := by decide +kernel
theorem d_G_lastWarning_20 : decode b_G_lastWarning 20 = .ok (.if_icmp .ge 62, 3) := by decide +kernel
theorem d_G_lastWarning_23 : decode b_G_lastWarning 23 = .ok (.aload 4, 2) := by decide +kernel
theorem d_G_lastWarning_25 : decode b_G_lastWarning 25 = .ok (.iload 6, 2) := by decide +kernel
theorem d_G_lastWarning_27 : decode b_G_lastWarning 27 = .ok (.aaload, 1) := by decide +kernel
theorem d_G_lastWarning_28 : decode b_G_lastWarning 28 = .ok (.astore 7, 2) := by decide +kernel
theorem d_G_lastWarning_30 : decode b_G_lastWarning 30 = .ok (.aload 7, 2) := by decide +kernel
theorem d_G_lastWarning_32 : decode b_G_lastWarning 32 = .ok (.ifnull 44, 3) := by decide +kernel
theorem d_G_lastWarning_35 : decode b_G_lastWarning 35 = .ok (.aload 7, 2) := by decide +kernel
theorem d_G_lastWarning_37 : decode b_G_lastWarning 37 = .ok (.getfield 367, 3) := by decide +kernel
theorem d_G_lastWarning_40 : decode b_G_lastWarning 40 = .ok (.iload_n 2, 1) := by decide +kernel
theorem d_G_lastWarning_41 : decode b_G_lastWarning 41 = .ok (.iconst 4, 1) := by decide +kernel
theorem d_G_lastWarning_42 : decode b_G_lastWarning 42 = .ok (.isub, 1) := by decide +kernel
theorem d_G_lastWarning_43 : decode b_G_lastWarning 43 = .ok (.iload_n 2, 1) := by decide +kernel
theorem d_G_lastWarning_44 : decode b_G_lastWarning 44 = .ok (.invokestatic 78, 3) := by decide +kernel
theorem d_G_lastWarning_47 : decode b_G_lastWarning 47 = .ok (.ifCond .eq 29, 3) := by decide +kernel
theorem d_G_lastWarning_50 : decode b_G_lastWarning 50 = .ok (.iload_n 2, 1) := by decide +kernel
theorem d_G_lastWarning_51 : decode b_G_lastWarning 51 = .ok (.aload 7, 2) := by decide +kernel
theorem d_G_lastWarning_53 : decode b_G_lastWarning 53 = .ok (.getfield 368, 3) := by decide +kernel
theorem d_G_lastWarning_56 : decode b_G_lastWarning 56 = .ok (.isub, 1) := by decide +kernel
theorem d_G_lastWarning_57 : decode b_G_lastWarning 57 = .ok (.aload_n 1, 1) := by decide +kernel
theorem d_G_lastWarning_58 : decode b_G_lastWarning 58 = .ok (.invokevirtual 371, 3) := by decide +kernel
theorem d_G_lastWarning_61 : decode b_G_lastWarning 61 = .ok (.if_icmp .lt 15, 3) := by decide +kernel
theorem d_G_lastWarning_64 : decode b_G_lastWarning 64 = .ok (.aload 7, 2) := by decide +kernel
theorem d_G_lastWarning_66 : decode b_G_lastWarning 66 = .ok (.aload_n 1, 1) := by decide +kernel
theorem d_G_lastWarning_67 : decode b_G_lastWarning 67 = .ok (.invokevirtual 351, 3) := by decide +kernel
theorem d_G_lastWarning_70 : decode b_G_lastWarning 70 = .ok (.ifCond .eq 6, 3) := by decide +kernel
theorem d_G_lastWarning_73 : decode b_G_lastWarning 73 = .ok (.aload 7, 2) := by decide +kernel
theorem d_G_lastWarning_75 : decode b_G_lastWarning 75 = .ok (.astore_n 3, 1) := by decide +kernel
theorem d_G_lastWarning_76 : decode b_G_lastWarning 76 = .ok (.iinc 6 1, 3) := by decide +kernel
theorem d_G_lastWarning_79 : decode b_G_lastWarning 79 = .ok (.goto (-63), 3) := by decide +kernel
theorem d_G_lastWarning_82 : decode b_G_lastWarning 82 = .ok (.aload_n 3, 1) := by decide +kernel
theorem d_G_lastWarning_83 : decode b_G_lastWarning 83 = .ok (.areturn, 1) := by decide +kernel
theorem d_G_countOf_0 : decode b_G_countOf 0 = .ok (.iload_n 1, 1) := by decide +kernel
theorem d_G_countOf_1 : decode b_G_countOf 1 = .ok (.tableswitch 141 0 13 #[71, 76, 81, 86, 91, 96, 101, 106, 111, 116, 121, 126, 131, 136], 71) := by decide +kernel
theorem d_G_countOf_72 : decode b_G_countOf 72 = .ok (.aload_n 0, 1) := by decide +kernel
theorem d_G_countOf_73 : decode b_G_countOf 73 = .ok (.getfield 84, 3) := by decide +kernel
theorem d_G_countOf_76 : decode b_G_countOf 76 = .ok (.ireturn, 1) := by decide +kernel
theorem d_G_countOf_77 : decode b_G_countOf 77 = .ok (.aload_n 0, 1) := by decide +kernel
theorem d_G_countOf_78 : decode b_G_countOf 78 = .ok (.getfield 127, 3) := by decide +kernel
theorem d_G_countOf_81 : decode b_G_countOf 81 = .ok (.ireturn, 1) := by decide +kernel
theorem d_G_countOf_82 : decode b_G_countOf 82 = .ok (.aload_n 0, 1) := by decide +kernel
theorem d_G_countOf_83 : decode b_G_countOf 83 = .ok (.getfield 155, 3) := by decide +kernel
theorem d_G_countOf_86 : decode b_G_countOf 86 = .ok (.ireturn, 1) := by decide +kernel
theorem d_G_countOf_87 : decode b_G_countOf 87 = .ok (.aload_n 0, 1) := by decide +kernel
theorem d_G_countOf_88 : decode b_G_countOf 88 = .ok (.getfield 58, 3) := by decide +kernel
theorem d_G_countOf_91 : decode b_G_countOf 91 = .ok (.ireturn, 1) := by decide +kernel
theorem d_G_countOf_92 : decode b_G_countOf 92 = .ok (.aload_n 0, 1) := by decide +kernel
theorem d_G_countOf_93 : decode b_G_countOf 93 = .ok (.invokevirtual 130, 3) := by decide +kernel
theorem d_G_countOf_96 : decode b_G_countOf 96 = .ok (.ireturn, 1) := by decide +kernel
theorem d_G_countOf_97 : decode b_G_countOf 97 = .ok (.aload_n 0, 1) := by decide +kernel
theorem d_G_countOf_98 : decode b_G_countOf 98 = .ok (.invokevirtual 374, 3) := by decide +kernel
theorem d_G_countOf_101 : decode b_G_countOf 101 = .ok (.ireturn, 1) := by decide +kernel
theorem d_G_countOf_102 : decode b_G_countOf 102 = .ok (.aload_n 0, 1) := by decide +kernel
theorem d_G_countOf_103 : decode b_G_countOf 103 = .ok (.invokevirtual 377, 3) := by decide +kernel
theorem d_G_countOf_106 : decode b_G_countOf 106 = .ok (.ireturn, 1) := by decide +kernel
theorem d_G_countOf_107 : decode b_G_countOf 107 = .ok (.aload_n 0, 1) := by decide +kernel
theorem d_G_countOf_108 : decode b_G_countOf 108 = .ok (.invokevirtual 380, 3) := by decide +kernel
theorem d_G_countOf_111 : decode b_G_countOf 111 = .ok (.ireturn, 1) := by decide +kernel
theorem d_G_countOf_112 : decode b_G_countOf 112 = .ok (.aload_n 0, 1) := by decide +kernel
theorem d_G_countOf_113 : decode b_G_countOf 113 = .ok (.getfield 348, 3) := by decide +kernel
theorem d_G_countOf_116 : decode b_G_countOf 116 = .ok (.ireturn, 1) := by decide +kernel
theorem d_G_countOf_117 : decode b_G_countOf 117 = .ok (.aload_n 0, 1) := by decide +kernel
theorem d_G_countOf_118 : decode b_G_countOf 118 = .ok (.invokevirtual 383, 3) := by decide +kernel
theorem d_G_countOf_121 : decode b_G_countOf 121 = .ok (.ireturn, 1) := by decide +kernel
theorem d_G_countOf_122 : decode b_G_countOf 122 = .ok (.aload_n 0, 1) := by decide +kernel
theorem d_G_countOf_123 : decode b_G_countOf 123 = .ok (.getfield 330, 3) := by decide +kernel
theorem d_G_countOf_126 : decode b_G_countOf 126 = .ok (.ireturn, 1) := by decide +kernel
theorem d_G_countOf_127 : decode b_G_countOf 127 = .ok (.aload_n 0, 1) := by decide +kernel
theorem d_G_countOf_128 : decode b_G_countOf 128 = .ok (.getfield 122, 3) := by decide +kernel
theorem d_G_countOf_131 : decode b_G_countOf 131 = .ok (.ireturn, 1) := by decide +kernel
theorem d_G_countOf_132 : decode b_G_countOf 132 = .ok (.aload_n 0, 1) := by decide +kernel
theorem d_G_countOf_133 : decode b_G_countOf 133 = .ok (.invokevirtual 210, 3) := by decide +kernel
theorem d_G_countOf_136 : decode b_G_countOf 136 = .ok (.ireturn, 1) := by decide +kernel
theorem d_G_countOf_137 : decode b_G_countOf 137 = .ok (.aload_n 0, 1) := by decide +kernel
theorem d_G_countOf_138 : decode b_G_countOf 138 = .ok (.getfield 345, 3) := by decide +kernel
theorem d_G_countOf_141 : decode b_G_countOf 141 = .ok (.ireturn, 1) := by decide +kernel
theorem d_G_countOf_142 : decode b_G_countOf 142 = .ok (.aload_n 0, 1) := by decide +kernel
theorem d_G_countOf_143 : decode b_G_countOf 143 = .ok (.invokevirtual 152, 3) := by decide +kernel
theorem d_G_countOf_146 : decode b_G_countOf 146 = .ok (.ireturn, 1) := by decide +kernel
theorem d_G_saltInHoppers_0 : decode b_G_saltInHoppers 0 = .ok (.iconst 0, 1) := by decide +kernel
theorem d_G_saltInHoppers_1 : decode b_G_saltInHoppers 1 = .ok (.istore_n 1, 1) := by decide +kernel
theorem d_G_saltInHoppers_2 : decode b_G_saltInHoppers 2 = .ok (.aload_n 0, 1) := by decide +kernel
theorem d_G_saltInHoppers_3 : decode b_G_saltInHoppers 3 = .ok (.getfield 17, 3) := by decide +kernel
theorem d_G_saltInHoppers_6 : decode b_G_saltInHoppers 6 = .ok (.astore_n 2, 1) := by decide +kernel
theorem d_G_saltInHoppers_7 : decode b_G_saltInHoppers 7 = .ok (.aload_n 2, 1) := by decide +kernel
theorem d_G_saltInHoppers_8 : decode b_G_saltInHoppers 8 = .ok (.arraylength, 1) := by decide +kernel
theorem d_G_saltInHoppers_9 : decode b_G_saltInHoppers 9 = .ok (.istore_n 3, 1) := by decide +kernel
theorem d_G_saltInHoppers_10 : decode b_G_saltInHoppers 10 = .ok (.iconst 0, 1) := by decide +kernel
theorem d_G_saltInHoppers_11 : decode b_G_saltInHoppers 11 = .ok (.istore 4, 2) := by decide +kernel
theorem d_G_saltInHoppers_13 : decode b_G_saltInHoppers 13 = .ok (.iload 4, 2) := by decide +kernel
theorem d_G_saltInHoppers_15 : decode b_G_saltInHoppers 15 = .ok (.iload_n 3, 1) := by decide +kernel
theorem d_G_saltInHoppers_16 : decode b_G_saltInHoppers 16 = .ok (.if_icmp .ge 32, 3) := by decide +kernel
theorem d_G_saltInHoppers_19 : decode b_G_saltInHoppers 19 = .ok (.aload_n 2, 1) := by decide +kernel
theorem d_G_saltInHoppers_20 : decode b_G_saltInHoppers 20 = .ok (.iload 4, 2) := by decide +kernel
theorem d_G_saltInHoppers_22 : decode b_G_saltInHoppers 22 = .ok (.aaload, 1) := by decide +kernel
theorem d_G_saltInHoppers_23 : decode b_G_saltInHoppers 23 = .ok (.astore 5, 2) := by decide +kernel
theorem d_G_saltInHoppers_25 : decode b_G_saltInHoppers 25 = .ok (.iload_n 1, 1) := by decide +kernel
theorem d_G_saltInHoppers_26 : decode b_G_saltInHoppers 26 = .ok (.aload 5, 2) := by decide +kernel
theorem d_G_saltInHoppers_28 : decode b_G_saltInHoppers 28 = .ok (.ifnonnull 7, 3) := by decide +kernel
theorem d_G_saltInHoppers_31 : decode b_G_saltInHoppers 31 = .ok (.iconst 0, 1) := by decide +kernel
theorem d_G_saltInHoppers_32 : decode b_G_saltInHoppers 32 = .ok (.goto 8, 3) := by decide +kernel
theorem d_G_saltInHoppers_35 : decode b_G_saltInHoppers 35 = .ok (.aload 5, 2) := by decide +kernel
theorem d_G_saltInHoppers_37 : decode b_G_saltInHoppers 37 = .ok (.getfield 194, 3) := by decide +kernel
theorem d_G_saltInHoppers_40 : decode b_G_saltInHoppers 40 = .ok (.iadd, 1) := by decide +kernel
theorem d_G_saltInHoppers_41 : decode b_G_saltInHoppers 41 = .ok (.istore_n 1, 1) := by decide +kernel
theorem d_G_saltInHoppers_42 : decode b_G_saltInHoppers 42 = .ok (.iinc 4 1, 3) := by decide +kernel
theorem d_G_saltInHoppers_45 : decode b_G_saltInHoppers 45 = .ok (.goto (-32), 3) := by decide +kernel
theorem d_G_saltInHoppers_48 : decode b_G_saltInHoppers 48 = .ok (.iload_n 1, 1) := by decide +kernel
theorem d_G_saltInHoppers_49 : decode b_G_saltInHoppers 49 = .ok (.ireturn, 1) := by decide +kernel
theorem d_G_saltOnRoads_0 : decode b_G_saltOnRoads 0 = .ok (.iconst 0, 1) := by decide +kernel
theorem d_G_saltOnRoads_1 : decode b_G_saltOnRoads 1 = .ok (.istore_n 1, 1) := by decide +kernel
theorem d_G_saltOnRoads_2 : decode b_G_saltOnRoads 2 = .ok (.aload_n 0, 1) := by decide +kernel
theorem d_G_saltOnRoads_3 : decode b_G_saltOnRoads 3 = .ok (.getfield 11, 3) := by decide +kernel
theorem d_G_saltOnRoads_6 : decode b_G_saltOnRoads 6 = .ok (.astore_n 2, 1) := by decide +kernel
theorem d_G_saltOnRoads_7 : decode b_G_saltOnRoads 7 = .ok (.aload_n 2, 1) := by decide +kernel
theorem d_G_saltOnRoads_8 : decode b_G_saltOnRoads 8 = .ok (.arraylength, 1) := by decide +kernel
theorem d_G_saltOnRoads_9 : decode b_G_saltOnRoads 9 = .ok (.istore_n 3, 1) := by decide +kernel
theorem d_G_saltOnRoads_10 : decode b_G_saltOnRoads 10 = .ok (.iconst 0, 1) := by decide +kernel
theorem d_G_saltOnRoads_11 : decode b_G_saltOnRoads 11 = .ok (.istore 4, 2) := by decide +kernel
theorem d_G_saltOnRoads_13 : decode b_G_saltOnRoads 13 = .ok (.iload 4, 2) := by decide +kernel
theorem d_G_saltOnRoads_15 : decode b_G_saltOnRoads 15 = .ok (.iload_n 3, 1) := by decide +kernel
theorem d_G_saltOnRoads_16 : decode b_G_saltOnRoads 16 = .ok (.if_icmp .ge 35, 3) := by decide +kernel
theorem d_G_saltOnRoads_19 : decode b_G_saltOnRoads 19 = .ok (.aload_n 2, 1) := by decide +kernel
theorem d_G_saltOnRoads_20 : decode b_G_saltOnRoads 20 = .ok (.iload 4, 2) := by decide +kernel
theorem d_G_saltOnRoads_22 : decode b_G_saltOnRoads 22 = .ok (.aaload, 1) := by decide +kernel
theorem d_G_saltOnRoads_23 : decode b_G_saltOnRoads 23 = .ok (.astore 5, 2) := by decide +kernel
theorem d_G_saltOnRoads_25 : decode b_G_saltOnRoads 25 = .ok (.iload_n 1, 1) := by decide +kernel
theorem d_G_saltOnRoads_26 : decode b_G_saltOnRoads 26 = .ok (.aload 5, 2) := by decide +kernel
theorem d_G_saltOnRoads_28 : decode b_G_saltOnRoads 28 = .ok (.ifnonnull 7, 3) := by decide +kernel
theorem d_G_saltOnRoads_31 : decode b_G_saltOnRoads 31 = .ok (.iconst 0, 1) := by decide +kernel
theorem d_G_saltOnRoads_32 : decode b_G_saltOnRoads 32 = .ok (.goto 11, 3) := by decide +kernel
theorem d_G_saltOnRoads_35 : decode b_G_saltOnRoads 35 = .ok (.aload 5, 2) := by decide +kernel
theorem d_G_saltOnRoads_37 : decode b_G_saltOnRoads 37 = .ok (.getfield 245, 3) := by decide +kernel
theorem d_G_saltOnRoads_40 : decode b_G_saltOnRoads 40 = .ok (.getfield 324, 3) := by decide +kernel
theorem d_G_saltOnRoads_43 : decode b_G_saltOnRoads 43 = .ok (.iadd, 1) := by decide +kernel
theorem d_G_saltOnRoads_44 : decode b_G_saltOnRoads 44 = .ok (.istore_n 1, 1) := by decide +kernel
theorem d_G_saltOnRoads_45 : decode b_G_saltOnRoads 45 = .ok (.iinc 4 1, 3) := by decide +kernel
theorem d_G_saltOnRoads_48 : decode b_G_saltOnRoads 48 = .ok (.goto (-35), 3) := by decide +kernel
theorem d_G_saltOnRoads_51 : decode b_G_saltOnRoads 51 = .ok (.iload_n 1, 1) := by decide +kernel
theorem d_G_saltOnRoads_52 : decode b_G_saltOnRoads 52 = .ok (.ireturn, 1) := by decide +kernel
theorem d_G_saltInRiver_0 : decode b_G_saltInRiver 0 = .ok (.iconst 0, 1) := by decide +kernel
theorem d_G_saltInRiver_1 : decode b_G_saltInRiver 1 = .ok (.istore_n 1, 1) := by decide +kernel
theorem d_G_saltInRiver_2 : decode b_G_saltInRiver 2 = .ok (.aload_n 0, 1) := by decide +kernel
theorem d_G_saltInRiver_3 : decode b_G_saltInRiver 3 = .ok (.getfield 11, 3) := by decide +kernel
theorem d_G_saltInRiver_6 : decode b_G_saltInRiver 6 = .ok (.astore_n 2, 1) := by decide +kernel
theorem d_G_saltInRiver_7 : decode b_G_saltInRiver 7 = .ok (.aload_n 2, 1) := by decide +kernel
theorem d_G_saltInRiver_8 : decode b_G_saltInRiver 8 = .ok (.arraylength, 1) := by decide +kernel
theorem d_G_saltInRiver_9 : decode b_G_saltInRiver 9 = .ok (.istore_n 3, 1) := by decide +kernel
theorem d_G_saltInRiver_10 : decode b_G_saltInRiver 10 = .ok (.iconst 0, 1) := by decide +kernel
theorem d_G_saltInRiver_11 : decode b_G_saltInRiver 11 = .ok (.istore 4, 2) := by decide +kernel
theorem d_G_saltInRiver_13 : decode b_G_saltInRiver 13 = .ok (.iload 4, 2) := by decide +kernel
theorem d_G_saltInRiver_15 : decode b_G_saltInRiver 15 = .ok (.iload_n 3, 1) := by decide +kernel
theorem d_G_saltInRiver_16 : decode b_G_saltInRiver 16 = .ok (.if_icmp .ge 35, 3) := by decide +kernel
theorem d_G_saltInRiver_19 : decode b_G_saltInRiver 19 = .ok (.aload_n 2, 1) := by decide +kernel
theorem d_G_saltInRiver_20 : decode b_G_saltInRiver 20 = .ok (.iload 4, 2) := by decide +kernel
theorem d_G_saltInRiver_22 : decode b_G_saltInRiver 22 = .ok (.aaload, 1) := by decide +kernel
theorem d_G_saltInRiver_23 : decode b_G_saltInRiver 23 = .ok (.astore 5, 2) := by decide +kernel
theorem d_G_saltInRiver_25 : decode b_G_saltInRiver 25 = .ok (.iload_n 1, 1) := by decide +kernel
theorem d_G_saltInRiver_26 : decode b_G_saltInRiver 26 = .ok (.aload 5, 2) := by decide +kernel
theorem d_G_saltInRiver_28 : decode b_G_saltInRiver 28 = .ok (.ifnonnull 7, 3) := by decide +kernel
theorem d_G_saltInRiver_31 : decode b_G_saltInRiver 31 = .ok (.iconst 0, 1) := by decide +kernel
theorem d_G_saltInRiver_32 : decode b_G_saltInRiver 32 = .ok (.goto 11, 3) := by decide +kernel
theorem d_G_saltInRiver_35 : decode b_G_saltInRiver 35 = .ok (.aload 5, 2) := by decide +kernel
theorem d_G_saltInRiver_37 : decode b_G_saltInRiver 37 = .ok (.getfield 245, 3) := by decide +kernel
theorem d_G_saltInRiver_40 : decode b_G_saltInRiver 40 = .ok (.getfield 386, 3) := by decide +kernel
theorem d_G_saltInRiver_43 : decode b_G_saltInRiver 43 = .ok (.iadd, 1) := by decide +kernel
theorem d_G_saltInRiver_44 : decode b_G_saltInRiver 44 = .ok (.istore_n 1, 1) := by decide +kernel
theorem d_G_saltInRiver_45 : decode b_G_saltInRiver 45 = .ok (.iinc 4 1, 3) := by decide +kernel
theorem d_G_saltInRiver_48 : decode b_G_saltInRiver 48 = .ok (.goto (-35), 3) := by decide +kernel
theorem d_G_saltInRiver_51 : decode b_G_saltInRiver 51 = .ok (.iload_n 1, 1) := by decide +kernel
theorem d_G_saltInRiver_52 : decode b_G_saltInRiver 52 = .ok (.ireturn, 1) := by decide +kernel
theorem d_G_saltOnFields_0 : decode b_G_saltOnFields 0 = .ok (.iconst 0, 1) := by decide +kernel
theorem d_G_saltOnFields_1 : decode b_G_saltOnFields 1 = .ok (.istore_n 1, 1) := by decide +kernel
theorem d_G_saltOnFields_2 : decode b_G_saltOnFields 2 = .ok (.aload_n 0, 1) := by decide +kernel
theorem d_G_saltOnFields_3 : decode b_G_saltOnFields 3 = .ok (.getfield 11, 3) := by decide +kernel
theorem d_G_saltOnFields_6 : decode b_G_saltOnFields 6 = .ok (.astore_n 2, 1) := by decide +kernel
theorem d_G_saltOnFields_7 : decode b_G_saltOnFields 7 = .ok (.aload_n 2, 1) := by decide +kernel
theorem d_G_saltOnFields_8 : decode b_G_saltOnFields 8 = .ok (.arraylength, 1) := by decide +kernel
theorem d_G_saltOnFields_9 : decode b_G_saltOnFields 9 = .ok (.istore_n 3, 1) := by decide +kernel
theorem d_G_saltOnFields_10 : decode b_G_saltOnFields 10 = .ok (.iconst 0, 1) := by decide +kernel
theorem d_G_saltOnFields_11 : decode b_G_saltOnFields 11 = .ok (.istore 4, 2) := by decide +kernel
theorem d_G_saltOnFields_13 : decode b_G_saltOnFields 13 = .ok (.iload 4, 2) := by decide +kernel
theorem d_G_saltOnFields_15 : decode b_G_saltOnFields 15 = .ok (.iload_n 3, 1) := by decide +kernel
theorem d_G_saltOnFields_16 : decode b_G_saltOnFields 16 = .ok (.if_icmp .ge 35, 3) := by decide +kernel
theorem d_G_saltOnFields_19 : decode b_G_saltOnFields 19 = .ok (.aload_n 2, 1) := by decide +kernel
theorem d_G_saltOnFields_20 : decode b_G_saltOnFields 20 = .ok (.iload 4, 2) := by decide +kernel
theorem d_G_saltOnFields_22 : decode b_G_saltOnFields 22 = .ok (.aaload, 1) := by decide +kernel
theorem d_G_saltOnFields_23 : decode b_G_saltOnFields 23 = .ok (.astore 5, 2) := by decide +kernel
theorem d_G_saltOnFields_25 : decode b_G_saltOnFields 25 = .ok (.iload_n 1, 1) := by decide +kernel
theorem d_G_saltOnFields_26 : decode b_G_saltOnFields 26 = .ok (.aload 5, 2) := by decide +kernel
theorem d_G_saltOnFields_28 : decode b_G_saltOnFields 28 = .ok (.ifnonnull 7, 3) := by decide +kernel
theorem d_G_saltOnFields_31 : decode b_G_saltOnFields 31 = .ok (.iconst 0, 1) := by decide +kernel
theorem d_G_saltOnFields_32 : decode b_G_saltOnFields 32 = .ok (.goto 11, 3) := by decide +kernel
theorem d_G_saltOnFields_35 : decode b_G_saltOnFields 35 = .ok (.aload 5, 2) := by decide +kernel
theorem d_G_saltOnFields_37 : decode b_G_saltOnFields 37 = .ok (.getfield 245, 3) := by decide +kernel
theorem d_G_saltOnFields_40 : decode b_G_saltOnFields 40 = .ok (.getfield 389, 3) := by decide +kernel
theorem d_G_saltOnFields_43 : decode b_G_saltOnFields 43 = .ok (.iadd, 1) := by decide +kernel
theorem d_G_saltOnFields_44 : decode b_G_saltOnFields 44 = .ok (.istore_n 1, 1) := by decide +kernel
theorem d_G_saltOnFields_45 : decode b_G_saltOnFields 45 = .ok (.iinc 4 1, 3) := by decide +kernel
theorem d_G_saltOnFields_48 : decode b_G_saltOnFields 48 = .ok (.goto (-35), 3) := by decide +kernel
theorem d_G_saltOnFields_51 : decode b_G_saltOnFields 51 = .ok (.iload_n 1, 1) := by decide +kernel
theorem d_G_saltOnFields_52 : decode b_G_saltOnFields 52 = .ok (.ireturn, 1) := by decide +kernel
theorem d_G_waterRunOff_0 : decode b_G_waterRunOff 0 = .ok (.iconst 0, 1) := by decide +kernel
theorem d_G_waterRunOff_1 : decode b_G_waterRunOff 1 = .ok (.istore_n 1, 1) := by decide +kernel
theorem d_G_waterRunOff_2 : decode b_G_waterRunOff 2 = .ok (.aload_n 0, 1) := by decide +kernel
theorem d_G_waterRunOff_3 : decode b_G_waterRunOff 3 = .ok (.getfield 11, 3) := by decide +kernel
theorem d_G_waterRunOff_6 : decode b_G_waterRunOff 6 = .ok (.astore_n 2, 1) := by decide +kernel
theorem d_G_waterRunOff_7 : decode b_G_waterRunOff 7 = .ok (.aload_n 2, 1) := by decide +kernel
theorem d_G_waterRunOff_8 : decode b_G_waterRunOff 8 = .ok (.arraylength, 1) := by decide +kernel
theorem d_G_waterRunOff_9 : decode b_G_waterRunOff 9 = .ok (.istore_n 3, 1) := by decide +kernel
theorem d_G_waterRunOff_10 : decode b_G_waterRunOff 10 = .ok (.iconst 0, 1) := by decide +kernel
theorem d_G_waterRunOff_11 : decode b_G_waterRunOff 11 = .ok (.istore 4, 2) := by decide +kernel
theorem d_G_waterRunOff_13 : decode b_G_waterRunOff 13 = .ok (.iload 4, 2) := by decide +kernel
theorem d_G_waterRunOff_15 : decode b_G_waterRunOff 15 = .ok (.iload_n 3, 1) := by decide +kernel
theorem d_G_waterRunOff_16 : decode b_G_waterRunOff 16 = .ok (.if_icmp .ge 35, 3) := by decide +kernel
theorem d_G_waterRunOff_19 : decode b_G_waterRunOff 19 = .ok (.aload_n 2, 1) := by decide +kernel
theorem d_G_waterRunOff_20 : decode b_G_waterRunOff 20 = .ok (.iload 4, 2) := by decide +kernel
theorem d_G_waterRunOff_22 : decode b_G_waterRunOff 22 = .ok (.aaload, 1) := by decide +kernel
theorem d_G_waterRunOff_23 : decode b_G_waterRunOff 23 = .ok (.astore 5, 2) := by decide +kernel
theorem d_G_waterRunOff_25 : decode b_G_waterRunOff 25 = .ok (.iload_n 1, 1) := by decide +kernel
theorem d_G_waterRunOff_26 : decode b_G_waterRunOff 26 = .ok (.aload 5, 2) := by decide +kernel
theorem d_G_waterRunOff_28 : decode b_G_waterRunOff 28 = .ok (.ifnonnull 7, 3) := by decide +kernel
theorem d_G_waterRunOff_31 : decode b_G_waterRunOff 31 = .ok (.iconst 0, 1) := by decide +kernel
theorem d_G_waterRunOff_32 : decode b_G_waterRunOff 32 = .ok (.goto 11, 3) := by decide +kernel
theorem d_G_waterRunOff_35 : decode b_G_waterRunOff 35 = .ok (.aload 5, 2) := by decide +kernel
theorem d_G_waterRunOff_37 : decode b_G_waterRunOff 37 = .ok (.getfield 245, 3) := by decide +kernel
theorem d_G_waterRunOff_40 : decode b_G_waterRunOff 40 = .ok (.getfield 392, 3) := by decide +kernel
theorem d_G_waterRunOff_43 : decode b_G_waterRunOff 43 = .ok (.iadd, 1) := by decide +kernel
theorem d_G_waterRunOff_44 : decode b_G_waterRunOff 44 = .ok (.istore_n 1, 1) := by decide +kernel
theorem d_G_waterRunOff_45 : decode b_G_waterRunOff 45 = .ok (.iinc 4 1, 3) := by decide +kernel
theorem d_G_waterRunOff_48 : decode b_G_waterRunOff 48 = .ok (.goto (-35), 3) := by decide +kernel
theorem d_G_waterRunOff_51 : decode b_G_waterRunOff 51 = .ok (.iload_n 1, 1) := by decide +kernel
theorem d_G_waterRunOff_52 : decode b_G_waterRunOff 52 = .ok (.ireturn, 1) := by decide +kernel
theorem d_G_deliveriesOnTheirWay_0 : decode b_G_deliveriesOnTheirWay 0 = .ok (.iconst 0, 1) := by decide +kernel
theorem d_G_deliveriesOnTheirWay_1 : decode b_G_deliveriesOnTheirWay 1 = .ok (.istore_n 1, 1) := by decide +kernel
theorem d_G_deliveriesOnTheirWay_2 : decode b_G_deliveriesOnTheirWay 2 = .ok (.aload_n 0, 1) := by decide +kernel
theorem d_G_deliveriesOnTheirWay_3 : decode b_G_deliveriesOnTheirWay 3 = .ok (.getfield 29, 3) := by decide +kernel
theorem d_G_deliveriesOnTheirWay_6 : decode b_G_deliveriesOnTheirWay 6 = .ok (.astore_n 2, 1) := by decide +kernel
theorem d_G_deliveriesOnTheirWay_7 : decode b_G_deliveriesOnTheirWay 7 = .ok (.aload_n 2, 1) := by decide +kernel
theorem d_G_deliveriesOnTheirWay_8 : decode b_G_deliveriesOnTheirWay 8 = .ok (.arraylength, 1) := by decide +kernel
theorem d_G_deliveriesOnTheirWay_9 : decode b_G_deliveriesOnTheirWay 9 = .ok (.istore_n 3, 1) := by decide +kernel
theorem d_G_deliveriesOnTheirWay_10 : decode b_G_deliveriesOnTheirWay 10 = .ok (.iconst 0, 1) := by decide +kernel
theorem d_G_deliveriesOnTheirWay_11 : decode b_G_deliveriesOnTheirWay 11 = .ok (.istore 4, 2) := by decide +kernel
theorem d_G_deliveriesOnTheirWay_13 : decode b_G_deliveriesOnTheirWay 13 = .ok (.iload 4, 2) := by decide +kernel
theorem d_G_deliveriesOnTheirWay_15 : decode b_G_deliveriesOnTheirWay 15 = .ok (.iload_n 3, 1) := by decide +kernel
theorem d_G_deliveriesOnTheirWay_16 : decode b_G_deliveriesOnTheirWay 16 = .ok (.if_icmp .ge 28, 3) := by decide +kernel
theorem d_G_deliveriesOnTheirWay_19 : decode b_G_deliveriesOnTheirWay 19 = .ok (.aload_n 2, 1) := by decide +kernel
theorem d_G_deliveriesOnTheirWay_20 : decode b_G_deliveriesOnTheirWay 20 = .ok (.iload 4, 2) := by decide +kernel
theorem d_G_deliveriesOnTheirWay_22 : decode b_G_deliveriesOnTheirWay 22 = .ok (.aaload, 1) := by decide +kernel
theorem d_G_deliveriesOnTheirWay_23 : decode b_G_deliveriesOnTheirWay 23 = .ok (.astore 5, 2) := by decide +kernel
theorem d_G_deliveriesOnTheirWay_25 : decode b_G_deliveriesOnTheirWay 25 = .ok (.iload_n 1, 1) := by decide +kernel
theorem d_G_deliveriesOnTheirWay_26 : decode b_G_deliveriesOnTheirWay 26 = .ok (.aload 5, 2) := by decide +kernel
theorem d_G_deliveriesOnTheirWay_28 : decode b_G_deliveriesOnTheirWay 28 = .ok (.ifnonnull 7, 3) := by decide +kernel
theorem d_G_deliveriesOnTheirWay_31 : decode b_G_deliveriesOnTheirWay 31 = .ok (.iconst 0, 1) := by decide +kernel
theorem d_G_deliveriesOnTheirWay_32 : decode b_G_deliveriesOnTheirWay 32 = .ok (.goto 4, 3) := by decide +kernel
theorem d_G_deliveriesOnTheirWay_35 : decode b_G_deliveriesOnTheirWay 35 = .ok (.iconst 1, 1) := by decide +kernel
theorem d_G_deliveriesOnTheirWay_36 : decode b_G_deliveriesOnTheirWay 36 = .ok (.iadd, 1) := by decide +kernel
theorem d_G_deliveriesOnTheirWay_37 : decode b_G_deliveriesOnTheirWay 37 = .ok (.istore_n 1, 1) := by decide +kernel
theorem d_G_deliveriesOnTheirWay_38 : decode b_G_deliveriesOnTheirWay 38 = .ok (.iinc 4 1, 3) := by decide +kernel
theorem d_G_deliveriesOnTheirWay_41 : decode b_G_deliveriesOnTheirWay 41 = .ok (.goto (-28), 3) := by decide +kernel
theorem d_G_deliveriesOnTheirWay_44 : decode b_G_deliveriesOnTheirWay 44 = .ok (.iload_n 1, 1) := by decide +kernel
theorem d_G_deliveriesOnTheirWay_45 : decode b_G_deliveriesOnTheirWay 45 = .ok (.ireturn, 1) := by decide +kernel
theorem d_G_slipperyNow_0 : decode b_G_slipperyNow 0 = .ok (.iconst 0, 1) := by decide +kernel
theorem d_G_slipperyNow_1 : decode b_G_slipperyNow 1 = .ok (.istore_n 1, 1) := by decide +kernel
theorem d_G_slipperyNow_2 : decode b_G_slipperyNow 2 = .ok (.aload_n 0, 1) := by decide +kernel
theorem d_G_slipperyNow_3 : decode b_G_slipperyNow 3 = .ok (.getfield 11, 3) := by decide +kernel
theorem d_G_slipperyNow_6 : decode b_G_slipperyNow 6 = .ok (.astore_n 2, 1) := by decide +kernel
theorem d_G_slipperyNow_7 : decode b_G_slipperyNow 7 = .ok (.aload_n 2, 1) := by decide +kernel
theorem d_G_slipperyNow_8 : decode b_G_slipperyNow 8 = .ok (.arraylength, 1) := by decide +kernel
theorem d_G_slipperyNow_9 : decode b_G_slipperyNow 9 = .ok (.istore_n 3, 1) := by decide +kernel
theorem d_G_slipperyNow_10 : decode b_G_slipperyNow 10 = .ok (.iconst 0, 1) := by decide +kernel
theorem d_G_slipperyNow_11 : decode b_G_slipperyNow 11 = .ok (.istore 4, 2) := by decide +kernel
theorem d_G_slipperyNow_13 : decode b_G_slipperyNow 13 = .ok (.iload 4, 2) := by decide +kernel
theorem d_G_slipperyNow_15 : decode b_G_slipperyNow 15 = .ok (.iload_n 3, 1) := by decide +kernel
theorem d_G_slipperyNow_16 : decode b_G_slipperyNow 16 = .ok (.if_icmp .ge 40, 3) := by decide +kernel
theorem d_G_slipperyNow_19 : decode b_G_slipperyNow 19 = .ok (.aload_n 2, 1) := by decide +kernel
theorem d_G_slipperyNow_20 : decode b_G_slipperyNow 20 = .ok (.iload 4, 2) := by decide +kernel
theorem d_G_slipperyNow_22 : decode b_G_slipperyNow 22 = .ok (.aaload, 1) := by decide +kernel
theorem d_G_slipperyNow_23 : decode b_G_slipperyNow 23 = .ok (.astore 5, 2) := by decide +kernel
theorem d_G_slipperyNow_25 : decode b_G_slipperyNow 25 = .ok (.iload_n 1, 1) := by decide +kernel
theorem d_G_slipperyNow_26 : decode b_G_slipperyNow 26 = .ok (.aload 5, 2) := by decide +kernel
theorem d_G_slipperyNow_28 : decode b_G_slipperyNow 28 = .ok (.ifnull 19, 3) := by decide +kernel
theorem d_G_slipperyNow_31 : decode b_G_slipperyNow 31 = .ok (.aload 5, 2) := by decide +kernel
theorem d_G_slipperyNow_33 : decode b_G_slipperyNow 33 = .ok (.aload_n 0, 1) := by decide +kernel
theorem d_G_slipperyNow_34 : decode b_G_slipperyNow 34 = .ok (.getfield 127, 3) := by decide +kernel
theorem d_G_slipperyNow_37 : decode b_G_slipperyNow 37 = .ok (.invokevirtual 355, 3) := by decide +kernel
theorem d_G_slipperyNow_40 : decode b_G_slipperyNow 40 = .ok (.ifCond .eq 7, 3) := by decide +kernel
theorem d_G_slipperyNow_43 : decode b_G_slipperyNow 43 = .ok (.iconst 1, 1) := by decide +kernel
theorem d_G_slipperyNow_44 : decode b_G_slipperyNow 44 = .ok (.goto 4, 3) := by decide +kernel
theorem d_G_slipperyNow_47 : decode b_G_slipperyNow 47 = .ok (.iconst 0, 1) := by decide +kernel
theorem d_G_slipperyNow_48 : decode b_G_slipperyNow 48 = .ok (.iadd, 1) := by decide +kernel
theorem d_G_slipperyNow_49 : decode b_G_slipperyNow 49 = .ok (.istore_n 1, 1) := by decide +kernel
theorem d_G_slipperyNow_50 : decode b_G_slipperyNow 50 = .ok (.iinc 4 1, 3) := by decide +kernel
theorem d_G_slipperyNow_53 : decode b_G_slipperyNow 53 = .ok (.goto (-40), 3) := by decide +kernel
theorem d_G_slipperyNow_56 : decode b_G_slipperyNow 56 = .ok (.iload_n 1, 1) := by decide +kernel
theorem d_G_slipperyNow_57 : decode b_G_slipperyNow 57 = .ok (.ireturn, 1) := by decide +kernel
theorem d_G_shortestWay_0 : decode b_G_shortestWay 0 = .ok (.aload_n 0, 1) := by decide +kernel
theorem d_G_shortestWay_1 : decode b_G_shortestWay 1 = .ok (.getfield 47, 3) := by decide +kernel
theorem d_G_shortestWay_4 : decode b_G_shortestWay 4 = .ok (.ldc_w 278, 3) := by decide +kernel
theorem d_G_shortestWay_7 : decode b_G_shortestWay 7 = .ok (.invokestatic 394, 3) := by decide +kernel
theorem d_G_shortestWay_10 : decode b_G_shortestWay 10 = .ok (.aload_n 0, 1) := by decide +kernel
theorem d_G_shortestWay_11 : decode b_G_shortestWay 11 = .ok (.getfield 47, 3) := by decide +kernel
theorem d_G_shortestWay_14 : decode b_G_shortestWay 14 = .ok (.iload_n 1, 1) := by decide +kernel
theorem d_G_shortestWay_15 : decode b_G_shortestWay 15 = .ok (.iconst 0, 1) := by decide +kernel
theorem d_G_shortestWay_16 : decode b_G_shortestWay 16 = .ok (.invokestatic 400, 3) := by decide +kernel
theorem d_G_shortestWay_19 : decode b_G_shortestWay 19 = .ok (.iconst 1, 1) := by decide +kernel
theorem d_G_shortestWay_20 : decode b_G_shortestWay 20 = .ok (.istore_n 3, 1) := by decide +kernel
theorem d_G_shortestWay_21 : decode b_G_shortestWay 21 = .ok (.iload_n 3, 1) := by decide +kernel
theorem d_G_shortestWay_22 : decode b_G_shortestWay 22 = .ok (.bipush 7, 2) := by decide +kernel
theorem d_G_shortestWay_24 : decode b_G_shortestWay 24 = .ok (.if_icmp .ge 86, 3) := by decide +kernel
theorem d_G_shortestWay_27 : decode b_G_shortestWay 27 = .ok (.aload_n 0, 1) := by decide +kernel
theorem d_G_shortestWay_28 : decode b_G_shortestWay 28 = .ok (.getfield 11, 3) := by decide +kernel
theorem d_G_shortestWay_31 : decode b_G_shortestWay 31 = .ok (.astore 4, 2) := by decide +kernel
theorem d_G_shortestWay_33 : decode b_G_shortestWay 33 = .ok (.aload 4, 2) := by decide +kernel
theorem d_G_shortestWay_35 : decode b_G_shortestWay 35 = .ok (.arraylength, 1) := by decide +kernel
theorem d_G_shortestWay_36 : decode b_G_shortestWay 36 = .ok (.istore 5, 2) := by decide +kernel
theorem d_G_shortestWay_38 : decode b_G_shortestWay 38 = .ok (.iconst 0, 1) := by decide +kernel
theorem d_G_shortestWay_39 : decode b_G_shortestWay 39 = .ok (.istore 6, 2) := by decide +kernel
theorem d_G_shortestWay_41 : decode b_G_shortestWay 41 = .ok (.iload 6, 2) := by decide +kernel
theorem d_G_shortestWay_43 : decode b_G_shortestWay 43 = .ok (.iload 5, 2) := by decide +kernel
theorem d_G_shortestWay_45 : decode b_G_shortestWay 45 = .ok (.if_icmp .ge 59, 3) := by decide +kernel
theorem d_G_shortestWay_48 : decode b_G_shortestWay 48 = .ok (.aload 4, 2) := by decide +kernel
theorem d_G_shortestWay_50 : decode b_G_shortestWay 50 = .ok (.iload 6, 2) := by decide +kernel
theorem d_G_shortestWay_52 : decode b_G_shortestWay 52 = .ok (.aaload, 1) := by decide +kernel
theorem d_G_shortestWay_53 : decode b_G_shortestWay 53 = .ok (.astore 7, 2) := by decide +kernel
theorem d_G_shortestWay_55 : decode b_G_shortestWay 55 = .ok (.aload 7, 2) := by decide +kernel
theorem d_G_shortestWay_57 : decode b_G_shortestWay 57 = .ok (.ifnull 41, 3) := by decide +kernel
theorem d_G_shortestWay_60 : decode b_G_shortestWay 60 = .ok (.aload_n 0, 1) := by decide +kernel
theorem d_G_shortestWay_61 : decode b_G_shortestWay 61 = .ok (.aload 7, 2) := by decide +kernel
theorem d_G_shortestWay_63 : decode b_G_shortestWay 63 = .ok (.getfield 404, 3) := by decide +kernel
theorem d_G_shortestWay_66 : decode b_G_shortestWay 66 = .ok (.aload 7, 2) := by decide +kernel
theorem d_G_shortestWay_68 : decode b_G_shortestWay 68 = .ok (.getfield 407, 3) := by decide +kernel
theorem d_G_shortestWay_71 : decode b_G_shortestWay 71 = .ok (.aload 7, 2) := by decide +kernel
theorem d_G_shortestWay_73 : decode b_G_shortestWay 73 = .ok (.getfield 311, 3) := by decide +kernel
theorem d_G_shortestWay_76 : decode b_G_shortestWay 76 = .ok (.invokevirtual 410, 3) := by decide +kernel
theorem d_G_shortestWay_79 : decode b_G_shortestWay 79 = .ok (.aload_n 0, 1) := by decide +kernel
theorem d_G_shortestWay_80 : decode b_G_shortestWay 80 = .ok (.aload 7, 2) := by decide +kernel
theorem d_G_shortestWay_82 : decode b_G_shortestWay 82 = .ok (.getfield 407, 3) := by decide +kernel
theorem d_G_shortestWay_85 : decode b_G_shortestWay 85 = .ok (.aload 7, 2) := by decide +kernel
theorem d_G_shortestWay_87 : decode b_G_shortestWay 87 = .ok (.getfield 404, 3) := by decide +kernel
theorem d_G_shortestWay_90 : decode b_G_shortestWay 90 = .ok (.aload 7, 2) := by decide +kernel
theorem d_G_shortestWay_92 : decode b_G_shortestWay 92 = .ok (.getfield 311, 3) := by decide +kernel
theorem d_G_shortestWay_95 : decode b_G_shortestWay 95 = .ok (.invokevirtual 410, 3) := by decide +kernel
theorem d_G_shortestWay_98 : decode b_G_shortestWay 98 = .ok (.iinc 6 1, 3) := by decide +kernel
theorem d_G_shortestWay_101 : decode b_G_shortestWay 101 = .ok (.goto (-60), 3) := by decide +kernel
theorem d_G_shortestWay_104 : decode b_G_shortestWay 104 = .ok (.iinc 3 1, 3) := by decide +kernel
theorem d_G_shortestWay_107 : decode b_G_shortestWay 107 = .ok (.goto (-86), 3) := by decide +kernel
theorem d_G_shortestWay_110 : decode b_G_shortestWay 110 = .ok (.aload_n 0, 1) := by decide +kernel
theorem d_G_shortestWay_111 : decode b_G_shortestWay 111 = .ok (.getfield 47, 3) := by decide +kernel
theorem d_G_shortestWay_114 : decode b_G_shortestWay 114 = .ok (.iload_n 2, 1) := by decide +kernel
theorem d_G_shortestWay_115 : decode b_G_shortestWay 115 = .ok (.invokestatic 413, 3) := by decide +kernel
theorem d_G_shortestWay_118 : decode b_G_shortestWay 118 = .ok (.istore_n 3, 1) := by decide +kernel
theorem d_G_shortestWay_119 : decode b_G_shortestWay 119 = .ok (.iload_n 3, 1) := by decide +kernel
theorem d_G_shortestWay_120 : decode b_G_shortestWay 120 = .ok (.ldc_w 278, 3) := by decide +kernel
theorem d_G_shortestWay_123 : decode b_G_shortestWay 123 = .ok (.if_icmp .ne 7, 3) := by decide +kernel
theorem d_G_shortestWay_126 : decode b_G_shortestWay 126 = .ok (.iconst (-1), 1) := by decide +kernel
theorem d_G_shortestWay_127 : decode b_G_shortestWay 127 = .ok (.goto 4, 3) := by decide +kernel
theorem d_G_shortestWay_130 : decode b_G_shortestWay 130 = .ok (.iload_n 3, 1) := by decide +kernel
theorem d_G_shortestWay_131 : decode b_G_shortestWay 131 = .ok (.ireturn, 1) := by decide +kernel
theorem d_G_lowerWay_0 : decode b_G_lowerWay 0 = .ok (.aload_n 0, 1) := by decide +kernel
theorem d_G_lowerWay_1 : decode b_G_lowerWay 1 = .ok (.getfield 47, 3) := by decide +kernel
theorem d_G_lowerWay_4 : decode b_G_lowerWay 4 = .ok (.iload_n 1, 1) := by decide +kernel
theorem d_G_lowerWay_5 : decode b_G_lowerWay 5 = .ok (.invokestatic 413, 3) := by decide +kernel
theorem d_G_lowerWay_8 : decode b_G_lowerWay 8 = .ok (.istore 4, 2) := by decide +kernel
theorem d_G_lowerWay_10 : decode b_G_lowerWay 10 = .ok (.iload 4, 2) := by decide +kernel
theorem d_G_lowerWay_12 : decode b_G_lowerWay 12 = .ok (.ldc_w 278, 3) := by decide +kernel
theorem d_G_lowerWay_15 : decode b_G_lowerWay 15 = .ok (.if_icmp .eq 15, 3) := by decide +kernel
theorem d_G_lowerWay_18 : decode b_G_lowerWay 18 = .ok (.aload_n 0, 1) := by decide +kernel
theorem d_G_lowerWay_19 : decode b_G_lowerWay 19 = .ok (.getfield 47, 3) := by decide +kernel
theorem d_G_lowerWay_22 : decode b_G_lowerWay 22 = .ok (.iload_n 2, 1) := by decide +kernel
theorem d_G_lowerWay_23 : decode b_G_lowerWay 23 = .ok (.iload 4, 2) := by decide +kernel
theorem d_G_lowerWay_25 : decode b_G_lowerWay 25 = .ok (.iload_n 3, 1) := by decide +kernel
theorem d_G_lowerWay_26 : decode b_G_lowerWay 26 = .ok (.iadd, 1) := by decide +kernel
theorem d_G_lowerWay_27 : decode b_G_lowerWay 27 = .ok (.invokestatic 400, 3) := by decide +kernel
theorem d_G_lowerWay_30 : decode b_G_lowerWay 30 = .ok (.return_, 1) := by decide +kernel
theorem d_G_firstSlippery_0 : decode b_G_firstSlippery 0 = .ok (.aload_n 0, 1) := by decide +kernel
theorem d_G_firstSlippery_1 : decode b_G_firstSlippery 1 = .ok (.getfield 43, 3) := by decide +kernel
theorem d_G_firstSlippery_4 : decode b_G_firstSlippery 4 = .ok (.aload_n 1, 1) := by decide +kernel
theorem d_G_firstSlippery_5 : decode b_G_firstSlippery 5 = .ok (.getfield 245, 3) := by decide +kernel
theorem d_G_firstSlippery_8 : decode b_G_firstSlippery 8 = .ok (.invokevirtual 417, 3) := by decide +kernel
theorem d_G_firstSlippery_11 : decode b_G_firstSlippery 11 = .ok (.aload_n 0, 1) := by decide +kernel
theorem d_G_firstSlippery_12 : decode b_G_firstSlippery 12 = .ok (.getfield 43, 3) := by decide +kernel
theorem d_G_firstSlippery_15 : decode b_G_firstSlippery 15 = .ok (.dup, 1) := by decide +kernel
theorem d_G_firstSlippery_16 : decode b_G_firstSlippery 16 = .ok (.getfield 324, 3) := by decide +kernel
theorem d_G_firstSlippery_19 : decode b_G_firstSlippery 19 = .ok (.iload_n 2, 1) := by decide +kernel
theorem d_G_firstSlippery_20 : decode b_G_firstSlippery 20 = .ok (.iadd, 1) := by decide +kernel
theorem d_G_firstSlippery_21 : decode b_G_firstSlippery 21 = .ok (.putfield 324, 3) := by decide +kernel
theorem d_G_firstSlippery_24 : decode b_G_firstSlippery 24 = .ok (.iconst 1, 1) := by decide +kernel
theorem d_G_firstSlippery_25 : decode b_G_firstSlippery 25 = .ok (.istore 4, 2) := by decide +kernel
theorem d_G_firstSlippery_27 : decode b_G_firstSlippery 27 = .ok (.iload 4, 2) := by decide +kernel
theorem d_G_firstSlippery_29 : decode b_G_firstSlippery 29 = .ok (.iload_n 3, 1) := by decide +kernel
theorem d_G_firstSlippery_30 : decode b_G_firstSlippery 30 = .ok (.if_icmp .gt 34, 3) := by decide +kernel
theorem d_G_firstSlippery_33 : decode b_G_firstSlippery 33 = .ok (.aload_n 1, 1) := by decide +kernel
theorem d_G_firstSlippery_34 : decode b_G_firstSlippery 34 = .ok (.aload_n 0, 1) := by decide +kernel
theorem d_G_firstSlippery_35 : decode b_G_firstSlippery 35 = .ok (.getfield 43, 3) := by decide +kernel
theorem d_G_firstSlippery_38 : decode b_G_firstSlippery 38 = .ok (.aload_n 0, 1) := by decide +kernel
theorem d_G_firstSlippery_39 : decode b_G_firstSlippery 39 = .ok (.getfield 36, 3) := by decide +kernel
theorem d_G_firstSlippery_42 : decode b_G_firstSlippery 42 = .ok (.invokevirtual 279, 3) := by decide +kernel
theorem d_G_firstSlippery_45 : decode b_G_firstSlippery 45 = .ok (.aload_n 0, 1) := by decide +kernel
theorem d_G_firstSlippery_46 : decode b_G_firstSlippery 46 = .ok (.getfield 43, 3) := by decide +kernel
theorem d_G_firstSlippery_49 : decode b_G_firstSlippery 49 = .ok (.invokevirtual 421, 3) := by decide +kernel
theorem d_G_firstSlippery_52 : decode b_G_firstSlippery 52 = .ok (.ifCond .eq 6, 3) := by decide +kernel
theorem d_G_firstSlippery_55 : decode b_G_firstSlippery 55 = .ok (.iload 4, 2) := by decide +kernel
theorem d_G_firstSlippery_57 : decode b_G_firstSlippery 57 = .ok (.ireturn, 1) := by decide +kernel
theorem d_G_firstSlippery_58 : decode b_G_firstSlippery 58 = .ok (.iinc 4 1, 3) := by decide +kernel
theorem d_G_firstSlippery_61 : decode b_G_firstSlippery 61 = .ok (.goto (-34), 3) := by decide +kernel
theorem d_G_firstSlippery_64 : decode b_G_firstSlippery 64 = .ok (.iconst (-1), 1) := by decide +kernel
theorem d_G_firstSlippery_65 : decode b_G_firstSlippery 65 = .ok (.ireturn, 1) := by decide +kernel
theorem d_G_leastSalt_0 : decode b_G_leastSalt 0 = .ok (.iconst 0, 1) := by decide +kernel
theorem d_G_leastSalt_1 : decode b_G_leastSalt 1 = .ok (.istore_n 3, 1) := by decide +kernel
theorem d_G_leastSalt_2 : decode b_G_leastSalt 2 = .ok (.iload_n 3, 1) := by decide +kernel
theorem d_G_leastSalt_3 : decode b_G_leastSalt 3 = .ok (.bipush 60, 2) := by decide +kernel
theorem d_G_leastSalt_5 : decode b_G_leastSalt 5 = .ok (.if_icmp .gt 22, 3) := by decide +kernel
theorem d_G_leastSalt_8 : decode b_G_leastSalt 8 = .ok (.aload_n 0, 1) := by decide +kernel
theorem d_G_leastSalt_9 : decode b_G_leastSalt 9 = .ok (.aload_n 1, 1) := by decide +kernel
theorem d_G_leastSalt_10 : decode b_G_leastSalt 10 = .ok (.iload_n 3, 1) := by decide +kernel
theorem d_G_leastSalt_11 : decode b_G_leastSalt 11 = .ok (.iload_n 2, 1) := by decide +kernel
theorem d_G_leastSalt_12 : decode b_G_leastSalt 12 = .ok (.invokevirtual 253, 3) := by decide +kernel
theorem d_G_leastSalt_15 : decode b_G_leastSalt 15 = .ok (.iconst (-1), 1) := by decide +kernel
theorem d_G_leastSalt_16 : decode b_G_leastSalt 16 = .ok (.if_icmp .ne 5, 3) := by decide +kernel
theorem d_G_leastSalt_19 : decode b_G_leastSalt 19 = .ok (.iload_n 3, 1) := by decide +kernel
theorem d_G_leastSalt_20 : decode b_G_leastSalt 20 = .ok (.ireturn, 1) := by decide +kernel
theorem d_G_leastSalt_21 : decode b_G_leastSalt 21 = .ok (.iinc 3 1, 3) := by decide +kernel
theorem d_G_leastSalt_24 : decode b_G_leastSalt 24 = .ok (.goto (-22), 3) := by decide +kernel
theorem d_G_leastSalt_27 : decode b_G_leastSalt 27 = .ok (.iconst (-1), 1) := by decide +kernel
theorem d_G_leastSalt_28 : decode b_G_leastSalt 28 = .ok (.ireturn, 1) := by decide +kernel
theorem d_MLor_init_0 : decode b_MLor_init 0 = .ok (.aload_n 0, 1) := by decide +kernel
theorem d_MLor_init_1 : decode b_MLor_init 1 = .ok (.invokespecial 3, 3) := by decide +kernel
theorem d_MLor_init_4 : decode b_MLor_init 4 = .ok (.aload_n 0, 1) := by decide +kernel
theorem d_MLor_init_5 : decode b_MLor_init 5 = .ok (.iconst (-1), 1) := by decide +kernel
theorem d_MLor_init_6 : decode b_MLor_init 6 = .ok (.putfield 9, 3) := by decide +kernel
theorem d_MLor_init_9 : decode b_MLor_init 9 = .ok (.aload_n 0, 1) := by decide +kernel
theorem d_MLor_init_10 : decode b_MLor_init 10 = .ok (.iconst 2, 1) := by decide +kernel
theorem d_MLor_init_11 : decode b_MLor_init 11 = .ok (.putfield 15, 3) := by decide +kernel
theorem d_MLor_init_14 : decode b_MLor_init 14 = .ok (.aload_n 0, 1) := by decide +kernel
theorem d_MLor_init_15 : decode b_MLor_init 15 = .ok (.bipush 8, 2) := by decide +kernel
theorem d_MLor_init_17 : decode b_MLor_init 17 = .ok (.newarray .int, 2) := by decide +kernel
theorem d_MLor_init_19 : decode b_MLor_init 19 = .ok (.putfield 18, 3) := by decide +kernel
theorem d_MLor_init_22 : decode b_MLor_init 22 = .ok (.aload_n 0, 1) := by decide +kernel
theorem d_MLor_init_23 : decode b_MLor_init 23 = .ok (.iload_n 1, 1) := by decide +kernel
theorem d_MLor_init_24 : decode b_MLor_init 24 = .ok (.putfield 22, 3) := by decide +kernel
theorem d_MLor_init_27 : decode b_MLor_init 27 = .ok (.return_, 1) := by decide +kernel
theorem d_MLor_drop_0 : decode b_MLor_drop 0 = .ok (.aload_n 0, 1) := by decide +kernel
theorem d_MLor_drop_1 : decode b_MLor_drop 1 = .ok (.dup, 1) := by decide +kernel
theorem d_MLor_drop_2 : decode b_MLor_drop 2 = .ok (.getfield 26, 3) := by decide +kernel
theorem d_MLor_drop_5 : decode b_MLor_drop 5 = .ok (.iconst 1, 1) := by decide +kernel
theorem d_MLor_drop_6 : decode b_MLor_drop 6 = .ok (.isub, 1) := by decide +kernel
theorem d_MLor_drop_7 : decode b_MLor_drop 7 = .ok (.putfield 26, 3) := by decide +kernel
theorem d_MLor_drop_10 : decode b_MLor_drop 10 = .ok (.aload_n 0, 1) := by decide +kernel
theorem d_MLor_drop_11 : decode b_MLor_drop 11 = .ok (.getfield 18, 3) := by decide +kernel
theorem d_MLor_drop_14 : decode b_MLor_drop 14 = .ok (.iconst 1, 1) := by decide +kernel
theorem d_MLor_drop_15 : decode b_MLor_drop 15 = .ok (.aload_n 0, 1) := by decide +kernel
theorem d_MLor_drop_16 : decode b_MLor_drop 16 = .ok (.getfield 18, 3) := by decide +kernel
theorem d_MLor_drop_19 : decode b_MLor_drop 19 = .ok (.iconst 0, 1) := by decide +kernel
theorem d_MLor_drop_20 : decode b_MLor_drop 20 = .ok (.aload_n 0, 1) := by decide +kernel
theorem d_MLor_drop_21 : decode b_MLor_drop 21 = .ok (.getfield 26, 3) := by decide +kernel
theorem d_MLor_drop_24 : decode b_MLor_drop 24 = .ok (.invokestatic 29, 3) := by decide +kernel
theorem d_MLor_drop_27 : decode b_MLor_drop 27 = .ok (.return_, 1) := by decide +kernel
theorem d_MLor_of_0 : decode b_MLor_of 0 = .ok (.bipush 9, 2) := by decide +kernel
theorem d_MLor_of_2 : decode b_MLor_of 2 = .ok (.newarray .int, 2) := by decide +kernel
theorem d_MLor_of_4 : decode b_MLor_of 4 = .ok (.dup, 1) := by decide +kernel
theorem d_MLor_of_5 : decode b_MLor_of 5 = .ok (.iconst 0, 1) := by decide +kernel
theorem d_MLor_of_6 : decode b_MLor_of 6 = .ok (.aload_n 0, 1) := by decide +kernel
theorem d_MLor_of_7 : decode b_MLor_of 7 = .ok (.getfield 9, 3) := by decide +kernel
theorem d_MLor_of_10 : decode b_MLor_of 10 = .ok (.iconst (-1), 1) := by decide +kernel
theorem d_MLor_of_11 : decode b_MLor_of 11 = .ok (.if_icmp .ne 10, 3) := by decide +kernel
theorem d_MLor_of_14 : decode b_MLor_of 14 = .ok (.aload_n 0, 1) := by decide +kernel
theorem d_MLor_of_15 : decode b_MLor_of 15 = .ok (.getfield 35, 3) := by decide +kernel
theorem d_MLor_of_18 : decode b_MLor_of 18 = .ok (.goto 4, 3) := by decide +kernel
theorem d_MLor_of_21 : decode b_MLor_of 21 = .ok (.iconst (-1), 1) := by decide +kernel
theorem d_MLor_of_22 : decode b_MLor_of 22 = .ok (.iastore, 1) := by decide +kernel
theorem d_MLor_of_23 : decode b_MLor_of 23 = .ok (.dup, 1) := by decide +kernel
theorem d_MLor_of_24 : decode b_MLor_of 24 = .ok (.iconst 1, 1) := by decide +kernel
theorem d_MLor_of_25 : decode b_MLor_of 25 = .ok (.aload_n 0, 1) := by decide +kernel
theorem d_MLor_of_26 : decode b_MLor_of 26 = .ok (.getfield 9, 3) := by decide +kernel
theorem d_MLor_of_29 : decode b_MLor_of 29 = .ok (.iastore, 1) := by decide +kernel
theorem d_MLor_of_30 : decode b_MLor_of 30 = .ok (.dup, 1) := by decide +kernel
theorem d_MLor_of_31 : decode b_MLor_of 31 = .ok (.iconst 2, 1) := by decide +kernel
theorem d_MLor_of_32 : decode b_MLor_of 32 = .ok (.aload_n 0, 1) := by decide +kernel
theorem d_MLor_of_33 : decode b_MLor_of 33 = .ok (.getfield 38, 3) := by decide +kernel
theorem d_MLor_of_36 : decode b_MLor_of 36 = .ok (.iastore, 1) := by decide +kernel
theorem d_MLor_of_37 : decode b_MLor_of 37 = .ok (.dup, 1) := by decide +kernel
theorem d_MLor_of_38 : decode b_MLor_of 38 = .ok (.iconst 3, 1) := by decide +kernel
theorem d_MLor_of_39 : decode b_MLor_of 39 = .ok (.aload_n 0, 1) := by decide +kernel
theorem d_MLor_of_40 : decode b_MLor_of 40 = .ok (.getfield 41, 3) := by decide +kernel
theorem d_MLor_of_43 : decode b_MLor_of 43 = .ok (.iastore, 1) := by decide +kernel
theorem d_MLor_of_44 : decode b_MLor_of 44 = .ok (.dup, 1) := by decide +kernel
theorem d_MLor_of_45 : decode b_MLor_of 45 = .ok (.iconst 4, 1) := by decide +kernel
theorem d_MLor_of_46 : decode b_MLor_of 46 = .ok (.aload_n 0, 1) := by decide +kernel
theorem d_MLor_of_47 : decode b_MLor_of 47 = .ok (.getfield 15, 3) := by decide +kernel
theorem d_MLor_of_50 : decode b_MLor_of 50 = .ok (.iastore, 1) := by decide +kernel
theorem d_MLor_of_51 : decode b_MLor_of 51 = .ok (.dup, 1) := by decide +kernel
theorem d_MLor_of_52 : decode b_MLor_of 52 = .ok (.iconst 5, 1) := by decide +kernel
theorem d_MLor_of_53 : decode b_MLor_of 53 = .ok (.aload_n 0, 1) := by decide +kernel
theorem d_MLor_of_54 : decode b_MLor_of 54 = .ok (.getfield 22, 3) := by decide +kernel
theorem d_MLor_of_57 : decode b_MLor_of 57 = .ok (.ifCond .eq 7, 3) := by decide +kernel
theorem d_MLor_of_60 : decode b_MLor_of 60 = .ok (.iconst 1, 1) := by decide +kernel
theorem d_MLor_of_61 : decode b_MLor_of 61 = .ok (.goto 4, 3) := by decide +kernel
theorem d_MLor_of_64 : decode b_MLor_of 64 = .ok (.iconst 0, 1) := by decide +kernel
theorem d_MLor_of_65 : decode b_MLor_of 65 = .ok (.iastore, 1) := by decide +kernel
theorem d_MLor_of_66 : decode b_MLor_of 66 = .ok (.dup, 1) := by decide +kernel
theorem d_MLor_of_67 : decode b_MLor_of 67 = .ok (.bipush 6, 2) := by decide +kernel
theorem d_MLor_of_69 : decode b_MLor_of 69 = .ok (.aload_n 0, 1) := by decide +kernel
theorem d_MLor_of_70 : decode b_MLor_of 70 = .ok (.getfield 44, 3) := by decide +kernel
theorem d_MLor_of_73 : decode b_MLor_of 73 = .ok (.iastore, 1) := by decide +kernel
theorem d_MLor_of_74 : decode b_MLor_of 74 = .ok (.dup, 1) := by decide +kernel
theorem d_MLor_of_75 : decode b_MLor_of 75 = .ok (.bipush 7, 2) := by decide +kernel
theorem d_MLor_of_77 : decode b_MLor_of 77 = .ok (.aload_n 0, 1) := by decide +kernel
theorem d_MLor_of_78 : decode b_MLor_of 78 = .ok (.getfield 26, 3) := by decide +kernel
theorem d_MLor_of_81 : decode b_MLor_of 81 = .ok (.iastore, 1) := by decide +kernel
theorem d_MLor_of_82 : decode b_MLor_of 82 = .ok (.dup, 1) := by decide +kernel
theorem d_MLor_of_83 : decode b_MLor_of 83 = .ok (.bipush 8, 2) := by decide +kernel
theorem d_MLor_of_85 : decode b_MLor_of 85 = .ok (.aload_n 0, 1) := by decide +kernel
theorem d_MLor_of_86 : decode b_MLor_of 86 = .ok (.getfield 47, 3) := by decide +kernel
theorem d_MLor_of_89 : decode b_MLor_of 89 = .ok (.iastore, 1) := by decide +kernel
theorem d_MLor_of_90 : decode b_MLor_of 90 = .ok (.astore_n 2, 1) := by decide +kernel
theorem d_MLor_of_91 : decode b_MLor_of 91 = .ok (.aload_n 2, 1) := by decide +kernel
theorem d_MLor_of_92 : decode b_MLor_of 92 = .ok (.iload_n 1, 1) := by decide +kernel
theorem d_MLor_of_93 : decode b_MLor_of 93 = .ok (.iaload, 1) := by decide +kernel
theorem d_MLor_of_94 : decode b_MLor_of 94 = .ok (.ireturn, 1) := by decide +kernel
theorem d_MRoad_init_0 : decode b_MRoad_init 0 = .ok (.aload_n 0, 1) := by decide +kernel
theorem d_MRoad_init_1 : decode b_MRoad_init 1 = .ok (.invokespecial 3, 3) := by decide +kernel
theorem d_MRoad_init_4 : decode b_MRoad_init 4 = .ok (.aload_n 0, 1) := by decide +kernel
theorem d_MRoad_init_5 : decode b_MRoad_init 5 = .ok (.iconst 3, 1) := by decide +kernel
theorem d_MRoad_init_6 : decode b_MRoad_init 6 = .ok (.putfield 9, 3) := by decide +kernel
theorem d_MRoad_init_9 : decode b_MRoad_init 9 = .ok (.aload_n 0, 1) := by decide +kernel
theorem d_MRoad_init_10 : decode b_MRoad_init 10 = .ok (.iconst (-1), 1) := by decide +kernel
theorem d_MRoad_init_11 : decode b_MRoad_init 11 = .ok (.putfield 15, 3) := by decide +kernel
theorem d_MRoad_init_14 : decode b_MRoad_init 14 = .ok (.aload_n 0, 1) := by decide +kernel
theorem d_MRoad_init_15 : decode b_MRoad_init 15 = .ok (.sipush 200, 3) := by decide +kernel
theorem d_MRoad_init_18 : decode b_MRoad_init 18 = .ok (.newarray .boolean, 2) := by decide +kernel
theorem d_MRoad_init_20 : decode b_MRoad_init 20 = .ok (.putfield 18, 3) := by decide +kernel
theorem d_MRoad_init_23 : decode b_MRoad_init 23 = .ok (.aload_n 0, 1) := by decide +kernel
theorem d_MRoad_init_24 : decode b_MRoad_init 24 = .ok (.sipush 200, 3) := by decide +kernel
theorem d_MRoad_init_27 : decode b_MRoad_init 27 = .ok (.newarray .boolean, 2) := by decide +kernel
theorem d_MRoad_init_29 : decode b_MRoad_init 29 = .ok (.putfield 22, 3) := by decide +kernel
theorem d_MRoad_init_32 : decode b_MRoad_init 32 = .ok (.aload_n 0, 1) := by decide +kernel
theorem d_MRoad_init_33 : decode b_MRoad_init 33 = .ok (.iload_n 1, 1) := by decide +kernel
theorem d_MRoad_init_34 : decode b_MRoad_init 34 = .ok (.putfield 25, 3) := by decide +kernel
theorem d_MRoad_init_37 : decode b_MRoad_init 37 = .ok (.aload_n 0, 1) := by decide +kernel
theorem d_MRoad_init_38 : decode b_MRoad_init 38 = .ok (.iload_n 2, 1) := by decide +kernel
theorem d_MRoad_init_39 : decode b_MRoad_init 39 = .ok (.putfield 28, 3) := by decide +kernel
theorem d_MRoad_init_42 : decode b_MRoad_init 42 = .ok (.aload_n 0, 1) := by decide +kernel
theorem d_MRoad_init_43 : decode b_MRoad_init 43 = .ok (.iload_n 3, 1) := by decide +kernel
theorem d_MRoad_init_44 : decode b_MRoad_init 44 = .ok (.putfield 31, 3) := by decide +kernel
theorem d_MRoad_init_47 : decode b_MRoad_init 47 = .ok (.aload_n 0, 1) := by decide +kernel
theorem d_MRoad_init_48 : decode b_MRoad_init 48 = .ok (.iload 4, 2) := by decide +kernel
theorem d_MRoad_init_50 : decode b_MRoad_init 50 = .ok (.putfield 34, 3) := by decide +kernel
theorem d_MRoad_init_53 : decode b_MRoad_init 53 = .ok (.aload_n 0, 1) := by decide +kernel
theorem d_MRoad_init_54 : decode b_MRoad_init 54 = .ok (.iload 5, 2) := by decide +kernel
theorem d_MRoad_init_56 : decode b_MRoad_init 56 = .ok (.putfield 37, 3) := by decide +kernel
theorem d_MRoad_init_59 : decode b_MRoad_init 59 = .ok (.aload_n 0, 1) := by decide +kernel
theorem d_MRoad_init_60 : decode b_MRoad_init 60 = .ok (.iload 6, 2) := by decide +kernel
theorem d_MRoad_init_62 : decode b_MRoad_init 62 = .ok (.putfield 40, 3) := by decide +kernel
theorem d_MRoad_init_65 : decode b_MRoad_init 65 = .ok (.aload_n 0, 1) := by decide +kernel
theorem d_MRoad_init_66 : decode b_MRoad_init 66 = .ok (.iload 7, 2) := by decide +kernel
theorem d_MRoad_init_68 : decode b_MRoad_init 68 = .ok (.putfield 43, 3) := by decide +kernel
theorem d_MRoad_init_71 : decode b_MRoad_init 71 = .ok (.return_, 1) := by decide +kernel
theorem d_MRoad_copyTo_0 : decode b_MRoad_copyTo 0 = .ok (.aload_n 1, 1) := by decide +kernel
theorem d_MRoad_copyTo_1 : decode b_MRoad_copyTo 1 = .ok (.aload_n 0, 1) := by decide +kernel
theorem d_MRoad_copyTo_2 : decode b_MRoad_copyTo 2 = .ok (.getfield 9, 3) := by decide +kernel
theorem d_MRoad_copyTo_5 : decode b_MRoad_copyTo 5 = .ok (.putfield 9, 3) := by decide +kernel
theorem d_MRoad_copyTo_8 : decode b_MRoad_copyTo 8 = .ok (.aload_n 1, 1) := by decide +kernel
theorem d_MRoad_copyTo_9 : decode b_MRoad_copyTo 9 = .ok (.aload_n 0, 1) := by decide +kernel
theorem d_MRoad_copyTo_10 : decode b_MRoad_copyTo 10 = .ok (.getfield 47, 3) := by decide +kernel
theorem d_MRoad_copyTo_13 : decode b_MRoad_copyTo 13 = .ok (.putfield 47, 3) := by decide +kernel
theorem d_MRoad_copyTo_16 : decode b_MRoad_copyTo 16 = .ok (.aload_n 1, 1) := by decide +kernel
theorem d_MRoad_copyTo_17 : decode b_MRoad_copyTo 17 = .ok (.aload_n 0, 1) := by decide +kernel
theorem d_MRoad_copyTo_18 : decode b_MRoad_copyTo 18 = .ok (.getfield 50, 3) := by decide +kernel
theorem d_MRoad_copyTo_21 : decode b_MRoad_copyTo 21 = .ok (.putfield 50, 3) := by decide +kernel
theorem d_MRoad_copyTo_24 : decode b_MRoad_copyTo 24 = .ok (.aload_n 1, 1) := by decide +kernel
theorem d_MRoad_copyTo_25 : decode b_MRoad_copyTo 25 = .ok (.aload_n 0, 1) := by decide +kernel
theorem d_MRoad_copyTo_26 : decode b_MRoad_copyTo 26 = .ok (.getfield 53, 3) := by decide +kernel
theorem d_MRoad_copyTo_29 : decode b_MRoad_copyTo 29 = .ok (.putfield 53, 3) := by decide +kernel
theorem d_MRoad_copyTo_32 : decode b_MRoad_copyTo 32 = .ok (.aload_n 1, 1) := by decide +kernel
theorem d_MRoad_copyTo_33 : decode b_MRoad_copyTo 33 = .ok (.aload_n 0, 1) := by decide +kernel
theorem d_MRoad_copyTo_34 : decode b_MRoad_copyTo 34 = .ok (.getfield 56, 3) := by decide +kernel
theorem d_MRoad_copyTo_37 : decode b_MRoad_copyTo 37 = .ok (.putfield 56, 3) := by decide +kernel
theorem d_MRoad_copyTo_40 : decode b_MRoad_copyTo 40 = .ok (.return_, 1) := by decide +kernel
theorem d_MRoad_bare_0 : decode b_MRoad_bare 0 = .ok (.new 10, 3) := by decide +kernel
theorem d_MRoad_bare_3 : decode b_MRoad_bare 3 = .ok (.dup, 1) := by decide +kernel
theorem d_MRoad_bare_4 : decode b_MRoad_bare 4 = .ok (.aload_n 0, 1) := by decide +kernel
theorem d_MRoad_bare_5 : decode b_MRoad_bare 5 = .ok (.getfield 25, 3) := by decide +kernel
theorem d_MRoad_bare_8 : decode b_MRoad_bare 8 = .ok (.aload_n 0, 1) := by decide +kernel
theorem d_MRoad_bare_9 : decode b_MRoad_bare 9 = .ok (.getfield 28, 3) := by decide +kernel
theorem d_MRoad_bare_12 : decode b_MRoad_bare 12 = .ok (.aload_n 0, 1) := by decide +kernel
theorem d_MRoad_bare_13 : decode b_MRoad_bare 13 = .ok (.getfield 31, 3) := by decide +kernel
theorem d_MRoad_bare_16 : decode b_MRoad_bare 16 = .ok (.aload_n 0, 1) := by decide +kernel
theorem d_MRoad_bare_17 : decode b_MRoad_bare 17 = .ok (.getfield 34, 3) := by decide +kernel
theorem d_MRoad_bare_20 : decode b_MRoad_bare 20 = .ok (.aload_n 0, 1) := by decide +kernel
theorem d_MRoad_bare_21 : decode b_MRoad_bare 21 = .ok (.getfield 37, 3) := by decide +kernel
theorem d_MRoad_bare_24 : decode b_MRoad_bare 24 = .ok (.aload_n 0, 1) := by decide +kernel
theorem d_MRoad_bare_25 : decode b_MRoad_bare 25 = .ok (.getfield 40, 3) := by decide +kernel
theorem d_MRoad_bare_28 : decode b_MRoad_bare 28 = .ok (.aload_n 0, 1) := by decide +kernel
theorem d_MRoad_bare_29 : decode b_MRoad_bare 29 = .ok (.getfield 43, 3) := by decide +kernel
theorem d_MRoad_bare_32 : decode b_MRoad_bare 32 = .ok (.invokespecial 59, 3) := by decide +kernel
theorem d_MRoad_bare_35 : decode b_MRoad_bare 35 = .ok (.areturn, 1) := by decide +kernel
theorem d_MRoad_goal_0 : decode b_MRoad_goal 0 = .ok (.iload_n 1, 1) := by decide +kernel
theorem d_MRoad_goal_1 : decode b_MRoad_goal 1 = .ok (.aload_n 0, 1) := by decide +kernel
theorem d_MRoad_goal_2 : decode b_MRoad_goal 2 = .ok (.getfield 37, 3) := by decide +kernel
theorem d_MRoad_goal_5 : decode b_MRoad_goal 5 = .ok (.iconst 3, 1) := by decide +kernel
theorem d_MRoad_goal_6 : decode b_MRoad_goal 6 = .ok (.idiv, 1) := by decide +kernel
theorem d_MRoad_goal_7 : decode b_MRoad_goal 7 = .ok (.isub, 1) := by decide +kernel
theorem d_MRoad_goal_8 : decode b_MRoad_goal 8 = .ok (.aload_n 0, 1) := by decide +kernel
theorem d_MRoad_goal_9 : decode b_MRoad_goal 9 = .ok (.getfield 40, 3) := by decide +kernel
theorem d_MRoad_goal_12 : decode b_MRoad_goal 12 = .ok (.isub, 1) := by decide +kernel
theorem d_MRoad_goal_13 : decode b_MRoad_goal 13 = .ok (.iload_n 2, 1) := by decide +kernel
theorem d_MRoad_goal_14 : decode b_MRoad_goal 14 = .ok (.ifCond .eq 7, 3) := by decide +kernel
theorem d_MRoad_goal_17 : decode b_MRoad_goal 17 = .ok (.iconst 2, 1) := by decide +kernel
theorem d_MRoad_goal_18 : decode b_MRoad_goal 18 = .ok (.goto 4, 3) := by decide +kernel
theorem d_MRoad_goal_21 : decode b_MRoad_goal 21 = .ok (.iconst 0, 1) := by decide +kernel
theorem d_MRoad_goal_22 : decode b_MRoad_goal 22 = .ok (.isub, 1) := by decide +kernel
theorem d_MRoad_goal_23 : decode b_MRoad_goal 23 = .ok (.ireturn, 1) := by decide +kernel
theorem d_MRoad_point_0 : decode b_MRoad_point 0 = .ok (.aload_n 0, 1) := by decide +kernel
theorem d_MRoad_point_1 : decode b_MRoad_point 1 = .ok (.getfield 47, 3) := by decide +kernel
theorem d_MRoad_point_4 : decode b_MRoad_point 4 = .ok (.aload_n 0, 1) := by decide +kernel
theorem d_MRoad_point_5 : decode b_MRoad_point 5 = .ok (.getfield 50, 3) := by decide +kernel
theorem d_MRoad_point_8 : decode b_MRoad_point 8 = .ok (.iadd, 1) := by decide +kernel
theorem d_MRoad_point_9 : decode b_MRoad_point 9 = .ok (.aload_n 0, 1) := by decide +kernel
theorem d_MRoad_point_10 : decode b_MRoad_point 10 = .ok (.getfield 53, 3) := by decide +kernel
theorem d_MRoad_point_13 : decode b_MRoad_point 13 = .ok (.iadd, 1) := by decide +kernel
theorem d_MRoad_point_14 : decode b_MRoad_point 14 = .ok (.istore_n 1, 1) := by decide +kernel
theorem d_MRoad_point_15 : decode b_MRoad_point 15 = .ok (.iload_n 1, 1) := by decide +kernel
theorem d_MRoad_point_16 : decode b_MRoad_point 16 = .ok (.ifCond .ne 7, 3) := by decide +kernel
theorem d_MRoad_point_19 : decode b_MRoad_point 19 = .ok (.iconst 0, 1) := by decide +kernel
theorem d_MRoad_point_20 : decode b_MRoad_point 20 = .ok (.goto 18, 3) := by decide +kernel
theorem d_MRoad_point_23 : decode b_MRoad_point 23 = .ok (.bipush (-21), 2) := by decide +kernel
theorem d_MRoad_point_25 : decode b_MRoad_point 25 = .ok (.bipush 6, 2) := by decide +kernel
theorem d_MRoad_point_27 : decode b_MRoad_point 27 = .ok (.aload_n 0, 1) := by decide +kernel
theorem d_MRoad_point_28 : decode b_MRoad_point 28 = .ok (.getfield 56, 3) := by decide +kernel
theorem d_MRoad_point_31 : decode b_MRoad_point 31 = .ok (.imul, 1) := by decide +kernel
theorem d_MRoad_point_32 : decode b_MRoad_point 32 = .ok (.iload_n 1, 1) := by decide +kernel
theorem d_MRoad_point_33 : decode b_MRoad_point 33 = .ok (.idiv, 1) := by decide +kernel
theorem d_MRoad_point_34 : decode b_MRoad_point 34 = .ok (.ineg, 1) := by decide +kernel
theorem d_MRoad_point_35 : decode b_MRoad_point 35 = .ok (.invokestatic 62, 3) := by decide +kernel
theorem d_MRoad_point_38 : decode b_MRoad_point 38 = .ok (.ireturn, 1) := by decide +kernel
theorem d_MRoad_pass_0 : decode b_MRoad_pass 0 = .ok (.aload_n 0, 1) := by decide +kernel
theorem d_MRoad_pass_1 : decode b_MRoad_pass 1 = .ok (.aload_n 1, 1) := by decide +kernel
theorem d_MRoad_pass_2 : decode b_MRoad_pass 2 = .ok (.getfield 68, 3) := by decide +kernel
theorem d_MRoad_pass_5 : decode b_MRoad_pass 5 = .ok (.aload_n 1, 1) := by decide +kernel
theorem d_MRoad_pass_6 : decode b_MRoad_pass 6 = .ok (.getfield 73, 3) := by decide +kernel
theorem d_MRoad_pass_9 : decode b_MRoad_pass 9 = .ok (.invokevirtual 76, 3) := by decide +kernel
theorem d_MRoad_pass_12 : decode b_MRoad_pass 12 = .ok (.istore_n 2, 1) := by decide +kernel
theorem d_MRoad_pass_13 : decode b_MRoad_pass 13 = .ok (.aload_n 0, 1) := by decide +kernel
theorem d_MRoad_pass_14 : decode b_MRoad_pass 14 = .ok (.getfield 43, 3) := by decide +kernel
theorem d_MRoad_pass_17 : decode b_MRoad_pass 17 = .ok (.ifCond .eq 7, 3) := by decide +kernel
theorem d_MRoad_pass_20 : decode b_MRoad_pass 20 = .ok (.iconst 2, 1) := by decide +kernel
theorem d_MRoad_pass_21 : decode b_MRoad_pass 21 = .ok (.goto 4, 3) := by decide +kernel
theorem d_MRoad_pass_24 : decode b_MRoad_pass 24 = .ok (.iconst 1, 1) := by decide +kernel
theorem d_MRoad_pass_25 : decode b_MRoad_pass 25 = .ok (.istore_n 3, 1) := by decide +kernel
theorem d_MRoad_pass_26 : decode b_MRoad_pass 26 = .ok (.aload_n 0, 1) := by decide +kernel
theorem d_MRoad_pass_27 : decode b_MRoad_pass 27 = .ok (.aload_n 0, 1) := by decide +kernel
theorem d_MRoad_pass_28 : decode b_MRoad_pass 28 = .ok (.getfield 9, 3) := by decide +kernel
theorem d_MRoad_pass_31 : decode b_MRoad_pass 31 = .ok (.iload_n 2, 1) := by decide +kernel
theorem d_MRoad_pass_32 : decode b_MRoad_pass 32 = .ok (.if_icmp .ge 16, 3) := by decide +kernel
theorem d_MRoad_pass_35 : decode b_MRoad_pass 35 = .ok (.iload_n 2, 1) := by decide +kernel
theorem d_MRoad_pass_36 : decode b_MRoad_pass 36 = .ok (.aload_n 0, 1) := by decide +kernel
theorem d_MRoad_pass_37 : decode b_MRoad_pass 37 = .ok (.getfield 9, 3) := by decide +kernel
theorem d_MRoad_pass_40 : decode b_MRoad_pass 40 = .ok (.iload_n 3, 1) := by decide +kernel
theorem d_MRoad_pass_41 : decode b_MRoad_pass 41 = .ok (.iadd, 1) := by decide +kernel
theorem d_MRoad_pass_42 : decode b_MRoad_pass 42 = .ok (.invokestatic 80, 3) := by decide +kernel
theorem d_MRoad_pass_45 : decode b_MRoad_pass 45 = .ok (.goto 13, 3) := by decide +kernel
theorem d_MRoad_pass_48 : decode b_MRoad_pass 48 = .ok (.iload_n 2, 1) := by decide +kernel
theorem d_MRoad_pass_49 : decode b_MRoad_pass 49 = .ok (.aload_n 0, 1) := by decide +kernel
theorem d_MRoad_pass_50 : decode b_MRoad_pass 50 = .ok (.getfield 9, 3) := by decide +kernel
theorem d_MRoad_pass_53 : decode b_MRoad_pass 53 = .ok (.iload_n 3, 1) := by decide +kernel
theorem d_MRoad_pass_54 : decode b_MRoad_pass 54 = .ok (.isub, 1) := by decide +kernel
theorem d_MRoad_pass_55 : decode b_MRoad_pass 55 = .ok (.invokestatic 62, 3) := by decide +kernel
theorem d_MRoad_pass_58 : decode b_MRoad_pass 58 = .ok (.putfield 9, 3) := by decide +kernel
theorem d_MRoad_pass_61 : decode b_MRoad_pass 61 = .ok (.aload_n 0, 1) := by decide +kernel
theorem d_MRoad_pass_62 : decode b_MRoad_pass 62 = .ok (.dup, 1) := by decide +kernel
theorem d_MRoad_pass_63 : decode b_MRoad_pass 63 = .ok (.getfield 47, 3) := by decide +kernel
theorem d_MRoad_pass_66 : decode b_MRoad_pass 66 = .ok (.aload_n 1, 1) := by decide +kernel
theorem d_MRoad_pass_67 : decode b_MRoad_pass 67 = .ok (.getfield 83, 3) := by decide +kernel
theorem d_MRoad_pass_70 : decode b_MRoad_pass 70 = .ok (.iadd, 1) := by decide +kernel
theorem d_MRoad_pass_71 : decode b_MRoad_pass 71 = .ok (.putfield 47, 3) := by decide +kernel
theorem d_MRoad_pass_74 : decode b_MRoad_pass 74 = .ok (.aload_n 0, 1) := by decide +kernel
theorem d_MRoad_pass_75 : decode b_MRoad_pass 75 = .ok (.dup, 1) := by decide +kernel
theorem d_MRoad_pass_76 : decode b_MRoad_pass 76 = .ok (.getfield 53, 3) := by decide +kernel
theorem d_MRoad_pass_79 : decode b_MRoad_pass 79 = .ok (.aload_n 1, 1) := by decide +kernel
theorem d_MRoad_pass_80 : decode b_MRoad_pass 80 = .ok (.getfield 86, 3) := by decide +kernel
theorem d_MRoad_pass_83 : decode b_MRoad_pass 83 = .ok (.iadd, 1) := by decide +kernel
theorem d_MRoad_pass_84 : decode b_MRoad_pass 84 = .ok (.putfield 53, 3) := by decide +kernel
theorem d_MRoad_pass_87 : decode b_MRoad_pass 87 = .ok (.aload_n 0, 1) := by decide +kernel
theorem d_MRoad_pass_88 : decode b_MRoad_pass 88 = .ok (.getfield 9, 3) := by decide +kernel
theorem d_MRoad_pass_91 : decode b_MRoad_pass 91 = .ok (.aload_n 0, 1) := by decide +kernel
theorem d_MRoad_pass_92 : decode b_MRoad_pass 92 = .ok (.invokevirtual 89, 3) := by decide +kernel
theorem d_MRoad_pass_95 : decode b_MRoad_pass 95 = .ok (.if_icmp .ge 38, 3) := by decide +kernel
theorem d_MRoad_pass_98 : decode b_MRoad_pass 98 = .ok (.iconst 2, 1) := by decide +kernel
theorem d_MRoad_pass_99 : decode b_MRoad_pass 99 = .ok (.aload_n 0, 1) := by decide +kernel
theorem d_MRoad_pass_100 : decode b_MRoad_pass 100 = .ok (.getfield 47, 3) := by decide +kernel
theorem d_MRoad_pass_103 : decode b_MRoad_pass 103 = .ok (.invokestatic 80, 3) := by decide +kernel
theorem d_MRoad_pass_106 : decode b_MRoad_pass 106 = .ok (.istore 4, 2) := by decide +kernel
theorem d_MRoad_pass_108 : decode b_MRoad_pass 108 = .ok (.aload_n 0, 1) := by decide +kernel
theorem d_MRoad_pass_109 : decode b_MRoad_pass 109 = .ok (.dup, 1) := by decide +kernel
theorem d_MRoad_pass_110 : decode b_MRoad_pass 110 = .ok (.getfield 47, 3) := by decide +kernel
theorem d_MRoad_pass_113 : decode b_MRoad_pass 113 = .ok (.iload 4, 2) := by decide +kernel
theorem d_MRoad_pass_115 : decode b_MRoad_pass 115 = .ok (.isub, 1) := by decide +kernel
theorem d_MRoad_pass_116 : decode b_MRoad_pass 116 = .ok (.putfield 47, 3) := by decide +kernel
theorem d_MRoad_pass_119 : decode b_MRoad_pass 119 = .ok (.aload_n 0, 1) := by decide +kernel
theorem d_MRoad_pass_120 : decode b_MRoad_pass 120 = .ok (.dup, 1) := by decide +kernel
theorem d_MRoad_pass_121 : decode b_MRoad_pass 121 = .ok (.getfield 50, 3) := by decide +kernel
theorem d_MRoad_pass_124 : decode b_MRoad_pass 124 = .ok (.iload 4, 2) := by decide +kernel
theorem d_MRoad_pass_126 : decode b_MRoad_pass 126 = .ok (.iadd, 1) := by decide +kernel
theorem d_MRoad_pass_127 : decode b_MRoad_pass 127 = .ok (.putfield 50, 3) := by decide +kernel
theorem d_MRoad_pass_130 : decode b_MRoad_pass 130 = .ok (.goto 74, 3) := by decide +kernel
theorem d_MRoad_pass_133 : decode b_MRoad_pass 133 = .ok (.iconst 1, 1) := by decide +kernel
theorem d_MRoad_pass_134 : decode b_MRoad_pass 134 = .ok (.aload_n 0, 1) := by decide +kernel
theorem d_MRoad_pass_135 : decode b_MRoad_pass 135 = .ok (.getfield 56, 3) := by decide +kernel
theorem d_MRoad_pass_138 : decode b_MRoad_pass 138 = .ok (.iconst 4, 1) := by decide +kernel
theorem d_MRoad_pass_139 : decode b_MRoad_pass 139 = .ok (.idiv, 1) := by decide +kernel
theorem d_MRoad_pass_140 : decode b_MRoad_pass 140 = .ok (.iadd, 1) := by decide +kernel
theorem d_MRoad_pass_141 : decode b_MRoad_pass 141 = .ok (.istore 4, 2) := by decide +kernel
theorem d_MRoad_pass_143 : decode b_MRoad_pass 143 = .ok (.iload 4, 2) := by decide +kernel
theorem d_MRoad_pass_145 : decode b_MRoad_pass 145 = .ok (.aload_n 0, 1) := by decide +kernel
theorem d_MRoad_pass_146 : decode b_MRoad_pass 146 = .ok (.getfield 50, 3) := by decide +kernel
theorem d_MRoad_pass_149 : decode b_MRoad_pass 149 = .ok (.invokestatic 80, 3) := by decide +kernel
theorem d_MRoad_pass_152 : decode b_MRoad_pass 152 = .ok (.istore 5, 2) := by decide +kernel
theorem d_MRoad_pass_154 : decode b_MRoad_pass 154 = .ok (.iload 4, 2) := by decide +kernel
theorem d_MRoad_pass_156 : decode b_MRoad_pass 156 = .ok (.iload 5, 2) := by decide +kernel
theorem d_MRoad_pass_158 : decode b_MRoad_pass 158 = .ok (.isub, 1) := by decide +kernel
theorem d_MRoad_pass_159 : decode b_MRoad_pass 159 = .ok (.aload_n 0, 1) := by decide +kernel
theorem d_MRoad_pass_160 : decode b_MRoad_pass 160 = .ok (.getfield 53, 3) := by decide +kernel
theorem d_MRoad_pass_163 : decode b_MRoad_pass 163 = .ok (.invokestatic 80, 3) := by decide +kernel
theorem d_MRoad_pass_166 : decode b_MRoad_pass 166 = .ok (.istore 6, 2) := by decide +kernel
theorem d_MRoad_pass_168 : decode b_MRoad_pass 168 = .ok (.aload_n 0, 1) := by decide +kernel
theorem d_MRoad_pass_169 : decode b_MRoad_pass 169 = .ok (.dup, 1) := by decide +kernel
theorem d_MRoad_pass_170 : decode b_MRoad_pass 170 = .ok (.getfield 50, 3) := by decide +kernel
theorem d_MRoad_pass_173 : decode b_MRoad_pass 173 = .ok (.iload 5, 2) := by decide +kernel
theorem d_MRoad_pass_175 : decode b_MRoad_pass 175 = .ok (.isub, 1) := by decide +kernel
theorem d_MRoad_pass_176 : decode b_MRoad_pass 176 = .ok (.putfield 50, 3) := by decide +kernel
theorem d_MRoad_pass_179 : decode b_MRoad_pass 179 = .ok (.aload_n 0, 1) := by decide +kernel
theorem d_MRoad_pass_180 : decode b_MRoad_pass 180 = .ok (.dup, 1) := by decide +kernel
theorem d_MRoad_pass_181 : decode b_MRoad_pass 181 = .ok (.getfield 53, 3) := by decide +kernel
theorem d_MRoad_pass_184 : decode b_MRoad_pass 184 = .ok (.iload 6, 2) := by decide +kernel
theorem d_MRoad_pass_186 : decode b_MRoad_pass 186 = .ok (.isub, 1) := by decide +kernel
theorem d_MRoad_pass_187 : decode b_MRoad_pass 187 = .ok (.putfield 53, 3) := by decide +kernel
theorem d_MRoad_pass_190 : decode b_MRoad_pass 190 = .ok (.aload_n 0, 1) := by decide +kernel
theorem d_MRoad_pass_191 : decode b_MRoad_pass 191 = .ok (.dup, 1) := by decide +kernel
theorem d_MRoad_pass_192 : decode b_MRoad_pass 192 = .ok (.getfield 47, 3) := by decide +kernel
theorem d_MRoad_pass_195 : decode b_MRoad_pass 195 = .ok (.iload 5, 2) := by decide +kernel
theorem d_MRoad_pass_197 : decode b_MRoad_pass 197 = .ok (.iload 6, 2) := by decide +kernel
theorem d_MRoad_pass_199 : decode b_MRoad_pass 199 = .ok (.iadd, 1) := by decide +kernel
theorem d_MRoad_pass_200 : decode b_MRoad_pass 200 = .ok (.iadd, 1) := by decide +kernel
theorem d_MRoad_pass_201 : decode b_MRoad_pass 201 = .ok (.putfield 47, 3) := by decide +kernel
theorem d_MRoad_pass_204 : decode b_MRoad_pass 204 = .ok (.aload_n 0, 1) := by decide +kernel
theorem d_MRoad_pass_205 : decode b_MRoad_pass 205 = .ok (.iconst 0, 1) := by decide +kernel
theorem d_MRoad_pass_206 : decode b_MRoad_pass 206 = .ok (.aload_n 0, 1) := by decide +kernel
theorem d_MRoad_pass_207 : decode b_MRoad_pass 207 = .ok (.getfield 47, 3) := by decide +kernel
theorem d_MRoad_pass_210 : decode b_MRoad_pass 210 = .ok (.bipush 8, 2) := by decide +kernel
theorem d_MRoad_pass_212 : decode b_MRoad_pass 212 = .ok (.isub, 1) := by decide +kernel
theorem d_MRoad_pass_213 : decode b_MRoad_pass 213 = .ok (.invokestatic 62, 3) := by decide +kernel
theorem d_MRoad_pass_216 : decode b_MRoad_pass 216 = .ok (.putfield 93, 3) := by decide +kernel
theorem d_MRoad_pass_219 : decode b_MRoad_pass 219 = .ok (.aload_n 0, 1) := by decide +kernel
theorem d_MRoad_pass_220 : decode b_MRoad_pass 220 = .ok (.aload_n 0, 1) := by decide +kernel
theorem d_MRoad_pass_221 : decode b_MRoad_pass 221 = .ok (.getfield 93, 3) := by decide +kernel
theorem d_MRoad_pass_224 : decode b_MRoad_pass 224 = .ok (.ifCond .ne 7, 3) := by decide +kernel
theorem d_MRoad_pass_227 : decode b_MRoad_pass 227 = .ok (.iconst 0, 1) := by decide +kernel
theorem d_MRoad_pass_228 : decode b_MRoad_pass 228 = .ok (.goto 17, 3) := by decide +kernel
theorem d_MRoad_pass_231 : decode b_MRoad_pass 231 = .ok (.aload_n 0, 1) := by decide +kernel
theorem d_MRoad_pass_232 : decode b_MRoad_pass 232 = .ok (.getfield 93, 3) := by decide +kernel
theorem d_MRoad_pass_235 : decode b_MRoad_pass 235 = .ok (.aload_n 0, 1) := by decide +kernel
theorem d_MRoad_pass_236 : decode b_MRoad_pass 236 = .ok (.getfield 56, 3) := by decide +kernel
theorem d_MRoad_pass_239 : decode b_MRoad_pass 239 = .ok (.imul, 1) := by decide +kernel
theorem d_MRoad_pass_240 : decode b_MRoad_pass 240 = .ok (.aload_n 0, 1) := by decide +kernel
theorem d_MRoad_pass_241 : decode b_MRoad_pass 241 = .ok (.getfield 47, 3) := by decide +kernel
theorem d_MRoad_pass_244 : decode b_MRoad_pass 244 = .ok (.idiv, 1) := by decide +kernel
theorem d_MRoad_pass_245 : decode b_MRoad_pass 245 = .ok (.putfield 96, 3) := by decide +kernel
theorem d_MRoad_pass_248 : decode b_MRoad_pass 248 = .ok (.aload_n 0, 1) := by decide +kernel
theorem d_MRoad_pass_249 : decode b_MRoad_pass 249 = .ok (.dup, 1) := by decide +kernel
theorem d_MRoad_pass_250 : decode b_MRoad_pass 250 = .ok (.getfield 47, 3) := by decide +kernel
theorem d_MRoad_pass_253 : decode b_MRoad_pass 253 = .ok (.aload_n 0, 1) := by decide +kernel
theorem d_MRoad_pass_254 : decode b_MRoad_pass 254 = .ok (.getfield 93, 3) := by decide +kernel
theorem d_MRoad_pass_257 : decode b_MRoad_pass 257 = .ok (.isub, 1) := by decide +kernel
theorem d_MRoad_pass_258 : decode b_MRoad_pass 258 = .ok (.putfield 47, 3) := by decide +kernel
theorem d_MRoad_pass_261 : decode b_MRoad_pass 261 = .ok (.aload_n 0, 1) := by decide +kernel
theorem d_MRoad_pass_262 : decode b_MRoad_pass 262 = .ok (.dup, 1) := by decide +kernel
theorem d_MRoad_pass_263 : decode b_MRoad_pass 263 = .ok (.getfield 56, 3) := by decide +kernel
theorem d_MRoad_pass_266 : decode b_MRoad_pass 266 = .ok (.aload_n 0, 1) := by decide +kernel
theorem d_MRoad_pass_267 : decode b_MRoad_pass 267 = .ok (.getfield 96, 3) := by decide +kernel
theorem d_MRoad_pass_270 : decode b_MRoad_pass 270 = .ok (.isub, 1) := by decide +kernel
theorem d_MRoad_pass_271 : decode b_MRoad_pass 271 = .ok (.putfield 56, 3) := by decide +kernel
theorem d_MRoad_pass_274 : decode b_MRoad_pass 274 = .ok (.aload_n 0, 1) := by decide +kernel
theorem d_MRoad_pass_275 : decode b_MRoad_pass 275 = .ok (.aload_n 0, 1) := by decide +kernel
theorem d_MRoad_pass_276 : decode b_MRoad_pass 276 = .ok (.getfield 47, 3) := by decide +kernel
theorem d_MRoad_pass_279 : decode b_MRoad_pass 279 = .ok (.ifCond .le 25, 3) := by decide +kernel
theorem d_MRoad_pass_282 : decode b_MRoad_pass 282 = .ok (.aload_n 0, 1) := by decide +kernel
theorem d_MRoad_pass_283 : decode b_MRoad_pass 283 = .ok (.getfield 34, 3) := by decide +kernel
theorem d_MRoad_pass_286 : decode b_MRoad_pass 286 = .ok (.ifCond .ne 14, 3) := by decide +kernel
theorem d_MRoad_pass_289 : decode b_MRoad_pass 289 = .ok (.iconst 1, 1) := by decide +kernel
theorem d_MRoad_pass_290 : decode b_MRoad_pass 290 = .ok (.aload_n 0, 1) := by decide +kernel
theorem d_MRoad_pass_291 : decode b_MRoad_pass 291 = .ok (.getfield 56, 3) := by decide +kernel
theorem d_MRoad_pass_294 : decode b_MRoad_pass 294 = .ok (.invokestatic 80, 3) := by decide +kernel
theorem d_MRoad_pass_297 : decode b_MRoad_pass 297 = .ok (.goto 27, 3) := by decide +kernel
theorem d_MRoad_pass_300 : decode b_MRoad_pass 300 = .ok (.iconst 0, 1) := by decide +kernel
theorem d_MRoad_pass_301 : decode b_MRoad_pass 301 = .ok (.goto 23, 3) := by decide +kernel
theorem d_MRoad_pass_304 : decode b_MRoad_pass 304 = .ok (.aload_n 1, 1) := by decide +kernel
theorem d_MRoad_pass_305 : decode b_MRoad_pass 305 = .ok (.getfield 99, 3) := by decide +kernel
theorem d_MRoad_pass_308 : decode b_MRoad_pass 308 = .ok (.iconst 2, 1) := by decide +kernel
theorem d_MRoad_pass_309 : decode b_MRoad_pass 309 = .ok (.if_icmp .lt 14, 3) := by decide +kernel
theorem d_MRoad_pass_312 : decode b_MRoad_pass 312 = .ok (.iconst 2, 1) := by decide +kernel
theorem d_MRoad_pass_313 : decode b_MRoad_pass 313 = .ok (.aload_n 0, 1) := by decide +kernel
theorem d_MRoad_pass_314 : decode b_MRoad_pass 314 = .ok (.getfield 56, 3) := by decide +kernel
theorem d_MRoad_pass_317 : decode b_MRoad_pass 317 = .ok (.invokestatic 80, 3) := by decide +kernel
theorem d_MRoad_pass_320 : decode b_MRoad_pass 320 = .ok (.goto 4, 3) := by decide +kernel
theorem d_MRoad_pass_323 : decode b_MRoad_pass 323 = .ok (.iconst 0, 1) := by decide +kernel
theorem d_MRoad_pass_324 : decode b_MRoad_pass 324 = .ok (.putfield 102, 3) := by decide +kernel
theorem d_MRoad_pass_327 : decode b_MRoad_pass 327 = .ok (.aload_n 0, 1) := by decide +kernel
theorem d_MRoad_pass_328 : decode b_MRoad_pass 328 = .ok (.dup, 1) := by decide +kernel
theorem d_MRoad_pass_329 : decode b_MRoad_pass 329 = .ok (.getfield 56, 3) := by decide +kernel
theorem d_MRoad_pass_332 : decode b_MRoad_pass 332 = .ok (.aload_n 0, 1) := by decide +kernel
theorem d_MRoad_pass_333 : decode b_MRoad_pass 333 = .ok (.getfield 102, 3) := by decide +kernel
theorem d_MRoad_pass_336 : decode b_MRoad_pass 336 = .ok (.isub, 1) := by decide +kernel
theorem d_MRoad_pass_337 : decode b_MRoad_pass 337 = .ok (.putfield 56, 3) := by decide +kernel
theorem d_MRoad_pass_340 : decode b_MRoad_pass 340 = .ok (.aload_n 0, 1) := by decide +kernel
theorem d_MRoad_pass_341 : decode b_MRoad_pass 341 = .ok (.getfield 50, 3) := by decide +kernel
theorem d_MRoad_pass_344 : decode b_MRoad_pass 344 = .ok (.iconst 2, 1) := by decide +kernel
theorem d_MRoad_pass_345 : decode b_MRoad_pass 345 = .ok (.if_icmp .ge 11, 3) := by decide +kernel
theorem d_MRoad_pass_348 : decode b_MRoad_pass 348 = .ok (.aload_n 0, 1) := by decide +kernel
theorem d_MRoad_pass_349 : decode b_MRoad_pass 349 = .ok (.getfield 53, 3) := by decide +kernel
theorem d_MRoad_pass_352 : decode b_MRoad_pass 352 = .ok (.iconst 3, 1) := by decide +kernel
theorem d_MRoad_pass_353 : decode b_MRoad_pass 353 = .ok (.if_icmp .lt 7, 3) := by decide +kernel
theorem d_MRoad_pass_356 : decode b_MRoad_pass 356 = .ok (.iconst 1, 1) := by decide +kernel
theorem d_MRoad_pass_357 : decode b_MRoad_pass 357 = .ok (.goto 4, 3) := by decide +kernel
theorem d_MRoad_pass_360 : decode b_MRoad_pass 360 = .ok (.iconst 0, 1) := by decide +kernel
theorem d_MRoad_pass_361 : decode b_MRoad_pass 361 = .ok (.ireturn, 1) := by decide +kernel
theorem d_MRoad_has_0 : decode b_MRoad_has 0 = .ok (.aload_n 0, 1) := by decide +kernel
theorem d_MRoad_has_1 : decode b_MRoad_has 1 = .ok (.getfield 25, 3) := by decide +kernel
theorem d_MRoad_has_4 : decode b_MRoad_has 4 = .ok (.iload_n 1, 1) := by decide +kernel
theorem d_MRoad_has_5 : decode b_MRoad_has 5 = .ok (.if_icmp .eq 11, 3) := by decide +kernel
theorem d_MRoad_has_8 : decode b_MRoad_has 8 = .ok (.aload_n 0, 1) := by decide +kernel
theorem d_MRoad_has_9 : decode b_MRoad_has 9 = .ok (.getfield 28, 3) := by decide +kernel
theorem d_MRoad_has_12 : decode b_MRoad_has 12 = .ok (.iload_n 1, 1) := by decide +kernel
theorem d_MRoad_has_13 : decode b_MRoad_has 13 = .ok (.if_icmp .ne 7, 3) := by decide +kernel
theorem d_MRoad_has_16 : decode b_MRoad_has 16 = .ok (.iconst 1, 1) := by decide +kernel
theorem d_MRoad_has_17 : decode b_MRoad_has 17 = .ok (.goto 4, 3) := by decide +kernel
theorem d_MRoad_has_20 : decode b_MRoad_has 20 = .ok (.iconst 0, 1) := by decide +kernel
theorem d_MRoad_has_21 : decode b_MRoad_has 21 = .ok (.ireturn, 1) := by decide +kernel
theorem d_MRoad_of_0 : decode b_MRoad_of 0 = .ok (.bipush 15, 2) := by decide +kernel
theorem d_MRoad_of_2 : decode b_MRoad_of 2 = .ok (.newarray .int, 2) := by decide +kernel
theorem d_MRoad_of_4 : decode b_MRoad_of 4 = .ok (.dup, 1) := by decide +kernel
theorem d_MRoad_of_5 : decode b_MRoad_of 5 = .ok (.iconst 0, 1) := by decide +kernel
theorem d_MRoad_of_6 : decode b_MRoad_of 6 = .ok (.aload_n 0, 1) := by decide +kernel
theorem d_MRoad_of_7 : decode b_MRoad_of 7 = .ok (.getfield 25, 3) := by decide +kernel
theorem d_MRoad_of_10 : decode b_MRoad_of 10 = .ok (.iastore, 1) := by decide +kernel
theorem d_MRoad_of_11 : decode b_MRoad_of 11 = .ok (.dup, 1) := by decide +kernel
theorem d_MRoad_of_12 : decode b_MRoad_of 12 = .ok (.iconst 1, 1) := by decide +kernel
theorem d_MRoad_of_13 : decode b_MRoad_of 13 = .ok (.aload_n 0, 1) := by decide +kernel
theorem d_MRoad_of_14 : decode b_MRoad_of 14 = .ok (.getfield 28, 3) := by decide +kernel
theorem d_MRoad_of_17 : decode b_MRoad_of 17 = .ok (.iastore, 1) := by decide +kernel
theorem d_MRoad_of_18 : decode b_MRoad_of 18 = .ok (.dup, 1) := by decide +kernel
theorem d_MRoad_of_19 : decode b_MRoad_of 19 = .ok (.iconst 2, 1) := by decide +kernel
theorem d_MRoad_of_20 : decode b_MRoad_of 20 = .ok (.aload_n 0, 1) := by decide +kernel
theorem d_MRoad_of_21 : decode b_MRoad_of 21 = .ok (.getfield 31, 3) := by decide +kernel
theorem d_MRoad_of_24 : decode b_MRoad_of 24 = .ok (.iastore, 1) := by decide +kernel
theorem d_MRoad_of_25 : decode b_MRoad_of 25 = .ok (.dup, 1) := by decide +kernel
theorem d_MRoad_of_26 : decode b_MRoad_of 26 = .ok (.iconst 3, 1) := by decide +kernel
theorem d_MRoad_of_27 : decode b_MRoad_of 27 = .ok (.aload_n 0, 1) := by decide +kernel
theorem d_MRoad_of_28 : decode b_MRoad_of 28 = .ok (.getfield 34, 3) := by decide +kernel
theorem d_MRoad_of_31 : decode b_MRoad_of 31 = .ok (.iastore, 1) := by decide +kernel
theorem d_MRoad_of_32 : decode b_MRoad_of 32 = .ok (.dup, 1) := by decide +kernel
theorem d_MRoad_of_33 : decode b_MRoad_of 33 = .ok (.iconst 4, 1) := by decide +kernel
theorem d_MRoad_of_34 : decode b_MRoad_of 34 = .ok (.aload_n 0, 1) := by decide +kernel
theorem d_MRoad_of_35 : decode b_MRoad_of 35 = .ok (.getfield 37, 3) := by decide +kernel
theorem d_MRoad_of_38 : decode b_MRoad_of 38 = .ok (.iastore, 1) := by decide +kernel
theorem d_MRoad_of_39 : decode b_MRoad_of 39 = .ok (.dup, 1) := by decide +kernel
theorem d_MRoad_of_40 : decode b_MRoad_of 40 = .ok (.iconst 5, 1) := by decide +kernel
theorem d_MRoad_of_41 : decode b_MRoad_of 41 = .ok (.aload_n 0, 1) := by decide +kernel
theorem d_MRoad_of_42 : decode b_MRoad_of 42 = .ok (.getfield 40, 3) := by decide +kernel
theorem d_MRoad_of_45 : decode b_MRoad_of 45 = .ok (.iastore, 1) := by decide +kernel
theorem d_MRoad_of_46 : decode b_MRoad_of 46 = .ok (.dup, 1) := by decide +kernel
theorem d_MRoad_of_47 : decode b_MRoad_of 47 = .ok (.bipush 6, 2) := by decide +kernel
theorem d_MRoad_of_49 : decode b_MRoad_of 49 = .ok (.aload_n 0, 1) := by decide +kernel
theorem d_MRoad_of_50 : decode b_MRoad_of 50 = .ok (.getfield 43, 3) := by decide +kernel
theorem d_MRoad_of_53 : decode b_MRoad_of 53 = .ok (.ifCond .eq 7, 3) := by decide +kernel
theorem d_MRoad_of_56 : decode b_MRoad_of 56 = .ok (.iconst 1, 1) := by decide +kernel
theorem d_MRoad_of_57 : decode b_MRoad_of 57 = .ok (.goto 4, 3) := by decide +kernel
theorem d_MRoad_of_60 : decode b_MRoad_of 60 = .ok (.iconst 0, 1) := by decide +kernel
theorem d_MRoad_of_61 : decode b_MRoad_of 61 = .ok (.iastore, 1) := by decide +kernel
theorem d_MRoad_of_62 : decode b_MRoad_of 62 = .ok (.dup, 1) := by decide +kernel
theorem d_MRoad_of_63 : decode b_MRoad_of 63 = .ok (.bipush 7, 2) := by decide +kernel
theorem d_MRoad_of_65 : decode b_MRoad_of 65 = .ok (.aload_n 0, 1) := by decide +kernel
theorem d_MRoad_of_66 : decode b_MRoad_of 66 = .ok (.getfield 9, 3) := by decide +kernel
theorem d_MRoad_of_69 : decode b_MRoad_of 69 = .ok (.iastore, 1) := by decide +kernel
theorem d_MRoad_of_70 : decode b_MRoad_of 70 = .ok (.dup, 1) := by decide +kernel
theorem d_MRoad_of_71 : decode b_MRoad_of 71 = .ok (.bipush 8, 2) := by decide +kernel
theorem d_MRoad_of_73 : decode b_MRoad_of 73 = .ok (.aload_n 0, 1) := by decide +kernel
theorem d_MRoad_of_74 : decode b_MRoad_of 74 = .ok (.getfield 47, 3) := by decide +kernel
theorem d_MRoad_of_77 : decode b_MRoad_of 77 = .ok (.iastore, 1) := by decide +kernel
theorem d_MRoad_of_78 : decode b_MRoad_of 78 = .ok (.dup, 1) := by decide +kernel
theorem d_MRoad_of_79 : decode b_MRoad_of 79 = .ok (.bipush 9, 2) := by decide +kernel
theorem d_MRoad_of_81 : decode b_MRoad_of 81 = .ok (.aload_n 0, 1) := by decide +kernel
theorem d_MRoad_of_82 : decode b_MRoad_of 82 = .ok (.getfield 50, 3) := by decide +kernel
theorem d_MRoad_of_85 : decode b_MRoad_of 85 = .ok (.iastore, 1) := by decide +kernel
theorem d_MRoad_of_86 : decode b_MRoad_of 86 = .ok (.dup, 1) := by decide +kernel
theorem d_MRoad_of_87 : decode b_MRoad_of 87 = .ok (.bipush 10, 2) := by decide +kernel
theorem d_MRoad_of_89 : decode b_MRoad_of 89 = .ok (.aload_n 0, 1) := by decide +kernel
theorem d_MRoad_of_90 : decode b_MRoad_of 90 = .ok (.getfield 53, 3) := by decide +kernel
theorem d_MRoad_of_93 : decode b_MRoad_of 93 = .ok (.iastore, 1) := by decide +kernel
theorem d_MRoad_of_94 : decode b_MRoad_of 94 = .ok (.dup, 1) := by decide +kernel
theorem d_MRoad_of_95 : decode b_MRoad_of 95 = .ok (.bipush 11, 2) := by decide +kernel
theorem d_MRoad_of_97 : decode b_MRoad_of 97 = .ok (.aload_n 0, 1) := by decide +kernel
theorem d_MRoad_of_98 : decode b_MRoad_of 98 = .ok (.getfield 56, 3) := by decide +kernel
theorem d_MRoad_of_101 : decode b_MRoad_of 101 = .ok (.iastore, 1) := by decide +kernel
theorem d_MRoad_of_102 : decode b_MRoad_of 102 = .ok (.dup, 1) := by decide +kernel
theorem d_MRoad_of_103 : decode b_MRoad_of 103 = .ok (.bipush 12, 2) := by decide +kernel
theorem d_MRoad_of_105 : decode b_MRoad_of 105 = .ok (.aload_n 0, 1) := by decide +kernel
theorem d_MRoad_of_106 : decode b_MRoad_of 106 = .ok (.invokevirtual 89, 3) := by decide +kernel
theorem d_MRoad_of_109 : decode b_MRoad_of 109 = .ok (.iastore, 1) := by decide +kernel
theorem d_MRoad_of_110 : decode b_MRoad_of 110 = .ok (.dup, 1) := by decide +kernel
theorem d_MRoad_of_111 : decode b_MRoad_of 111 = .ok (.bipush 13, 2) := by decide +kernel
theorem d_MRoad_of_113 : decode b_MRoad_of 113 = .ok (.aload_n 0, 1) := by decide +kernel
theorem d_MRoad_of_114 : decode b_MRoad_of 114 = .ok (.getfield 105, 3) := by decide +kernel
theorem d_MRoad_of_117 : decode b_MRoad_of 117 = .ok (.iastore, 1) := by decide +kernel
theorem d_MRoad_of_118 : decode b_MRoad_of 118 = .ok (.dup, 1) := by decide +kernel
theorem d_MRoad_of_119 : decode b_MRoad_of 119 = .ok (.bipush 14, 2) := by decide +kernel
theorem d_MRoad_of_121 : decode b_MRoad_of 121 = .ok (.aload_n 0, 1) := by decide +kernel
theorem d_MRoad_of_122 : decode b_MRoad_of 122 = .ok (.getfield 15, 3) := by decide +kernel
theorem d_MRoad_of_125 : decode b_MRoad_of 125 = .ok (.iastore, 1) := by decide +kernel
theorem d_MRoad_of_126 : decode b_MRoad_of 126 = .ok (.astore_n 2, 1) := by decide +kernel
theorem d_MRoad_of_127 : decode b_MRoad_of 127 = .ok (.aload_n 2, 1) := by decide +kernel
theorem d_MRoad_of_128 : decode b_MRoad_of 128 = .ok (.iload_n 1, 1) := by decide +kernel
theorem d_MRoad_of_129 : decode b_MRoad_of 129 = .ok (.iaload, 1) := by decide +kernel
theorem d_MRoad_of_130 : decode b_MRoad_of 130 = .ok (.ireturn, 1) := by decide +kernel
theorem d_MWea_init_0 : decode b_MWea_init 0 = .ok (.aload_n 0, 1) := by decide +kernel
theorem d_MWea_init_1 : decode b_MWea_init 1 = .ok (.invokespecial 1, 3) := by decide +kernel
theorem d_MWea_init_4 : decode b_MWea_init 4 = .ok (.aload_n 0, 1) := by decide +kernel
theorem d_MWea_init_5 : decode b_MWea_init 5 = .ok (.iconst 5, 1) := by decide +kernel
theorem d_MWea_init_6 : decode b_MWea_init 6 = .ok (.putfield 7, 3) := by decide +kernel
theorem d_MWea_init_9 : decode b_MWea_init 9 = .ok (.return_, 1) := by decide +kernel
theorem d_M_init_0 : decode b_M_init 0 = .ok (.aload_n 0, 1) := by decide +kernel
theorem d_M_init_1 : decode b_M_init 1 = .ok (.invokespecial 1, 3) := by decide +kernel
theorem d_M_init_4 : decode b_M_init 4 = .ok (.aload_n 0, 1) := by decide +kernel
theorem d_M_init_5 : decode b_M_init 5 = .ok (.new 7, 3) := by decide +kernel
theorem d_M_init_8 : decode b_M_init 8 = .ok (.dup, 1) := by decide +kernel
theorem d_M_init_9 : decode b_M_init 9 = .ok (.invokespecial 9, 3) := by decide +kernel
theorem d_M_init_12 : decode b_M_init 12 = .ok (.putfield 10, 3) := by decide +kernel
theorem d_M_init_15 : decode b_M_init 15 = .ok (.aload_n 0, 1) := by decide +kernel
theorem d_M_init_16 : decode b_M_init 16 = .ok (.new 7, 3) := by decide +kernel
theorem d_M_init_19 : decode b_M_init 19 = .ok (.dup, 1) := by decide +kernel
theorem d_M_init_20 : decode b_M_init 20 = .ok (.invokespecial 9, 3) := by decide +kernel
theorem d_M_init_23 : decode b_M_init 23 = .ok (.putfield 16, 3) := by decide +kernel
theorem d_M_init_26 : decode b_M_init 26 = .ok (.aload_n 0, 1) := by decide +kernel
theorem d_M_init_27 : decode b_M_init 27 = .ok (.bipush 20, 2) := by decide +kernel
theorem d_M_init_29 : decode b_M_init 29 = .ok (.bipush 7, 2) := by decide +kernel
theorem d_M_init_31 : decode b_M_init 31 = .ok (.multianewarray 19 2, 4) := by decide +kernel
theorem d_M_init_35 : decode b_M_init 35 = .ok (.putfield 21, 3) := by decide +kernel
theorem d_M_init_38 : decode b_M_init 38 = .ok (.aload_n 0, 1) := by decide +kernel
theorem d_M_init_39 : decode b_M_init 39 = .ok (.iconst 5, 1) := by decide +kernel
theorem d_M_init_40 : decode b_M_init 40 = .ok (.iconst 2, 1) := by decide +kernel
theorem d_M_init_41 : decode b_M_init 41 = .ok (.multianewarray 19 2, 4) := by decide +kernel
theorem d_M_init_45 : decode b_M_init 45 = .ok (.putfield 24, 3) := by decide +kernel
theorem d_M_init_48 : decode b_M_init 48 = .ok (.aload_n 0, 1) := by decide +kernel
theorem d_M_init_49 : decode b_M_init 49 = .ok (.new 27, 3) := by decide +kernel
theorem d_M_init_52 : decode b_M_init 52 = .ok (.dup, 1) := by decide +kernel
theorem d_M_init_53 : decode b_M_init 53 = .ok (.invokespecial 29, 3) := by decide +kernel
theorem d_M_init_56 : decode b_M_init 56 = .ok (.putfield 30, 3) := by decide +kernel
theorem d_M_init_59 : decode b_M_init 59 = .ok (.aload_n 0, 1) := by decide +kernel
theorem d_M_init_60 : decode b_M_init 60 = .ok (.bipush 100, 2) := by decide +kernel
theorem d_M_init_62 : decode b_M_init 62 = .ok (.putfield 34, 3) := by decide +kernel
theorem d_M_init_65 : decode b_M_init 65 = .ok (.return_, 1) := by decide +kernel
theorem d_M_thrown_0 : decode b_M_thrown 0 = .ok (.aload_n 0, 1) := by decide +kernel
theorem d_M_thrown_1 : decode b_M_thrown 1 = .ok (.getfield 38, 3) := by decide +kernel
theorem d_M_thrown_4 : decode b_M_thrown 4 = .ok (.ireturn, 1) := by decide +kernel
theorem d_M_no_0 : decode b_M_no 0 = .ok (.aload_n 0, 1) := by decide +kernel
theorem d_M_no_1 : decode b_M_no 1 = .ok (.iload_n 1, 1) := by decide +kernel
theorem d_M_no_2 : decode b_M_no 2 = .ok (.putfield 38, 3) := by decide +kernel
theorem d_M_no_5 : decode b_M_no 5 = .ok (.iconst 0, 1) := by decide +kernel
theorem d_M_no_6 : decode b_M_no 6 = .ok (.ireturn, 1) := by decide +kernel
theorem d_M_in_0 : decode b_M_in 0 = .ok (.iload_n 0, 1) := by decide +kernel
theorem d_M_in_1 : decode b_M_in 1 = .ok (.iload_n 1, 1) := by decide +kernel
theorem d_M_in_2 : decode b_M_in 2 = .ok (.if_icmp .lt 12, 3) := by decide +kernel
theorem d_M_in_5 : decode b_M_in 5 = .ok (.iload_n 0, 1) := by decide +kernel
theorem d_M_in_6 : decode b_M_in 6 = .ok (.iload_n 2, 1) := by decide +kernel
theorem d_M_in_7 : decode b_M_in 7 = .ok (.if_icmp .gt 7, 3) := by decide +kernel
theorem d_M_in_10 : decode b_M_in 10 = .ok (.iconst 1, 1) := by decide +kernel
theorem d_M_in_11 : decode b_M_in 11 = .ok (.goto 4, 3) := by decide +kernel
theorem d_M_in_14 : decode b_M_in 14 = .ok (.iconst 0, 1) := by decide +kernel
theorem d_M_in_15 : decode b_M_in 15 = .ok (.ireturn, 1) := by decide +kernel
theorem d_M_work_0 : decode b_M_work 0 = .ok (.aload_n 1, 1) := by decide +kernel
theorem d_M_work_1 : decode b_M_work 1 = .ok (.getfield 41, 3) := by decide +kernel
theorem d_M_work_4 : decode b_M_work 4 = .ok (.ifCond .eq 12, 3) := by decide +kernel
theorem d_M_work_7 : decode b_M_work 7 = .ok (.aload_n 1, 1) := by decide +kernel
theorem d_M_work_8 : decode b_M_work 8 = .ok (.getfield 46, 3) := by decide +kernel
theorem d_M_work_11 : decode b_M_work 11 = .ok (.bipush 40, 2) := by decide +kernel
theorem d_M_work_13 : decode b_M_work 13 = .ok (.if_icmp .lt 4, 3) := by decide +kernel
theorem d_M_work_16 : decode b_M_work 16 = .ok (.return_, 1) := by decide +kernel
theorem d_M_work_17 : decode b_M_work 17 = .ok (.aload_n 1, 1) := by decide +kernel
theorem d_M_work_18 : decode b_M_work 18 = .ok (.dup, 1) := by decide +kernel
theorem d_M_work_19 : decode b_M_work 19 = .ok (.getfield 46, 3) := by decide +kernel
theorem d_M_work_22 : decode b_M_work 22 = .ok (.iconst 1, 1) := by decide +kernel
theorem d_M_work_23 : decode b_M_work 23 = .ok (.iadd, 1) := by decide +kernel
theorem d_M_work_24 : decode b_M_work 24 = .ok (.putfield 46, 3) := by decide +kernel
theorem d_M_work_27 : decode b_M_work 27 = .ok (.aload_n 0, 1) := by decide +kernel
theorem d_M_work_28 : decode b_M_work 28 = .ok (.getfield 10, 3) := by decide +kernel
theorem d_M_work_31 : decode b_M_work 31 = .ok (.aload_n 1, 1) := by decide +kernel
theorem d_M_work_32 : decode b_M_work 32 = .ok (.getfield 49, 3) := by decide +kernel
theorem d_M_work_35 : decode b_M_work 35 = .ok (.iconst 0, 1) := by decide +kernel
theorem d_M_work_36 : decode b_M_work 36 = .ok (.iaload, 1) := by decide +kernel
theorem d_M_work_37 : decode b_M_work 37 = .ok (.invokeinterface 53 2, 5) := by decide +kernel
theorem d_M_work_42 : decode b_M_work 42 = .ok (.checkcast 59, 3) := by decide +kernel
theorem d_M_work_45 : decode b_M_work 45 = .ok (.astore_n 2, 1) := by decide +kernel
theorem d_M_work_46 : decode b_M_work 46 = .ok (.aload_n 1, 1) := by decide +kernel
theorem d_M_work_47 : decode b_M_work 47 = .ok (.getfield 61, 3) := by decide +kernel
theorem d_M_work_50 : decode b_M_work 50 = .ok (.iconst (-1), 1) := by decide +kernel
theorem d_M_work_51 : decode b_M_work 51 = .ok (.if_icmp .ne 19, 3) := by decide +kernel
theorem d_M_work_54 : decode b_M_work 54 = .ok (.aload_n 2, 1) := by decide +kernel
theorem d_M_work_55 : decode b_M_work 55 = .ok (.aload_n 1, 1) := by decide +kernel
theorem d_M_work_56 : decode b_M_work 56 = .ok (.getfield 64, 3) := by decide +kernel
theorem d_M_work_59 : decode b_M_work 59 = .ok (.invokevirtual 67, 3) := by decide +kernel
theorem d_M_work_62 : decode b_M_work 62 = .ok (.ifCond .ne 8, 3) := by decide +kernel
theorem d_M_work_65 : decode b_M_work 65 = .ok (.aload_n 1, 1) := by decide +kernel
theorem d_M_work_66 : decode b_M_work 66 = .ok (.invokevirtual 71, 3) := by decide +kernel
theorem d_M_work_69 : decode b_M_work 69 = .ok (.return_, 1) := by decide +kernel
theorem d_M_work_70 : decode b_M_work 70 = .ok (.aload_n 1, 1) := by decide +kernel
theorem d_M_work_71 : decode b_M_work 71 = .ok (.aload_n 1, 1) := by decide +kernel
theorem d_M_work_72 : decode b_M_work 72 = .ok (.getfield 49, 3) := by decide +kernel
theorem d_M_work_75 : decode b_M_work 75 = .ok (.iconst 0, 1) := by decide +kernel
theorem d_M_work_76 : decode b_M_work 76 = .ok (.iaload, 1) := by decide +kernel
theorem d_M_work_77 : decode b_M_work 77 = .ok (.putfield 61, 3) := by decide +kernel
theorem d_M_work_80 : decode b_M_work 80 = .ok (.aload_n 1, 1) := by decide +kernel
theorem d_M_work_81 : decode b_M_work 81 = .ok (.dup, 1) := by decide +kernel
theorem d_M_work_82 : decode b_M_work 82 = .ok (.getfield 74, 3) := by decide +kernel
theorem d_M_work_85 : decode b_M_work 85 = .ok (.iconst 1, 1) := by decide +kernel
theorem d_M_work_86 : decode b_M_work 86 = .ok (.iadd, 1) := by decide +kernel
theorem d_M_work_87 : decode b_M_work 87 = .ok (.putfield 74, 3) := by decide +kernel
theorem d_M_work_90 : decode b_M_work 90 = .ok (.aload_n 1, 1) := by decide +kernel
theorem d_M_work_91 : decode b_M_work 91 = .ok (.getfield 74, 3) := by decide +kernel
theorem d_M_work_94 : decode b_M_work 94 = .ok (.aload_n 2, 1) := by decide +kernel
theorem d_M_work_95 : decode b_M_work 95 = .ok (.getfield 77, 3) := by decide +kernel
theorem d_M_work_98 : decode b_M_work 98 = .ok (.if_icmp .ge 4, 3) := by decide +kernel
theorem d_M_work_101 : decode b_M_work 101 = .ok (.return_, 1) := by decide +kernel
theorem d_M_work_102 : decode b_M_work 102 = .ok (.aload_n 1, 1) := by decide +kernel
theorem d_M_work_103 : decode b_M_work 103 = .ok (.aload_n 2, 1) := by decide +kernel
theorem d_M_work_104 : decode b_M_work 104 = .ok (.getfield 80, 3) := by decide +kernel
theorem d_M_work_107 : decode b_M_work 107 = .ok (.aload_n 2, 1) := by decide +kernel
theorem d_M_work_108 : decode b_M_work 108 = .ok (.getfield 83, 3) := by decide +kernel
theorem d_M_work_111 : decode b_M_work 111 = .ok (.iadd, 1) := by decide +kernel
theorem d_M_work_112 : decode b_M_work 112 = .ok (.aload_n 1, 1) := by decide +kernel
theorem d_M_work_113 : decode b_M_work 113 = .ok (.getfield 64, 3) := by decide +kernel
theorem d_M_work_116 : decode b_M_work 116 = .ok (.isub, 1) := by decide +kernel
theorem d_M_work_117 : decode b_M_work 117 = .ok (.putfield 64, 3) := by decide +kernel
theorem d_M_work_120 : decode b_M_work 120 = .ok (.aload_n 1, 1) := by decide +kernel
theorem d_M_work_121 : decode b_M_work 121 = .ok (.iconst (-1), 1) := by decide +kernel
theorem d_M_work_122 : decode b_M_work 122 = .ok (.putfield 61, 3) := by decide +kernel
theorem d_M_work_125 : decode b_M_work 125 = .ok (.aload_n 1, 1) := by decide +kernel
theorem d_M_work_126 : decode b_M_work 126 = .ok (.iconst 0, 1) := by decide +kernel
theorem d_M_work_127 : decode b_M_work 127 = .ok (.putfield 74, 3) := by decide +kernel
theorem d_M_work_130 : decode b_M_work 130 = .ok (.aload_n 1, 1) := by decide +kernel
theorem d_M_work_131 : decode b_M_work 131 = .ok (.invokevirtual 71, 3) := by decide +kernel
theorem d_M_work_134 : decode b_M_work 134 = .ok (.aload_n 1, 1) := by decide +kernel
theorem d_M_work_135 : decode b_M_work 135 = .ok (.getfield 86, 3) := by decide +kernel
theorem d_M_work_138 : decode b_M_work 138 = .ok (.aload_n 1, 1) := by decide +kernel
theorem d_M_work_139 : decode b_M_work 139 = .ok (.getfield 89, 3) := by decide +kernel
theorem d_M_work_142 : decode b_M_work 142 = .ok (.aload_n 2, 1) := by decide +kernel
theorem d_M_work_143 : decode b_M_work 143 = .ok (.getfield 77, 3) := by decide +kernel
theorem d_M_work_146 : decode b_M_work 146 = .ok (.imul, 1) := by decide +kernel
theorem d_M_work_147 : decode b_M_work 147 = .ok (.invokestatic 92, 3) := by decide +kernel
theorem d_M_work_150 : decode b_M_work 150 = .ok (.istore_n 3, 1) := by decide +kernel
theorem d_M_work_151 : decode b_M_work 151 = .ok (.aload_n 1, 1) := by decide +kernel
theorem d_M_work_152 : decode b_M_work 152 = .ok (.dup, 1) := by decide +kernel
theorem d_M_work_153 : decode b_M_work 153 = .ok (.getfield 86, 3) := by decide +kernel
theorem d_M_work_156 : decode b_M_work 156 = .ok (.iload_n 3, 1) := by decide +kernel
theorem d_M_work_157 : decode b_M_work 157 = .ok (.isub, 1) := by decide +kernel
theorem d_M_work_158 : decode b_M_work 158 = .ok (.putfield 86, 3) := by decide +kernel
theorem d_M_work_161 : decode b_M_work 161 = .ok (.aload_n 1, 1) := by decide +kernel
theorem d_M_work_162 : decode b_M_work 162 = .ok (.dup, 1) := by decide +kernel
theorem d_M_work_163 : decode b_M_work 163 = .ok (.getfield 98, 3) := by decide +kernel
theorem d_M_work_166 : decode b_M_work 166 = .ok (.iload_n 3, 1) := by decide +kernel
theorem d_M_work_167 : decode b_M_work 167 = .ok (.iadd, 1) := by decide +kernel
theorem d_M_work_168 : decode b_M_work 168 = .ok (.putfield 98, 3) := by decide +kernel
theorem d_M_work_171 : decode b_M_work 171 = .ok (.aload_n 2, 1) := by decide +kernel
theorem d_M_work_172 : decode b_M_work 172 = .ok (.dup, 1) := by decide +kernel
theorem d_M_work_173 : decode b_M_work 173 = .ok (.getfield 101, 3) := by decide +kernel
theorem d_M_work_176 : decode b_M_work 176 = .ok (.iload_n 3, 1) := by decide +kernel
theorem d_M_work_177 : decode b_M_work 177 = .ok (.iadd, 1) := by decide +kernel
theorem d_M_work_178 : decode b_M_work 178 = .ok (.putfield 101, 3) := by decide +kernel
theorem d_M_work_181 : decode b_M_work 181 = .ok (.aload_n 1, 1) := by decide +kernel
theorem d_M_work_182 : decode b_M_work 182 = .ok (.getfield 104, 3) := by decide +kernel
theorem d_M_work_185 : decode b_M_work 185 = .ok (.ifCond .eq 21, 3) := by decide +kernel
theorem d_M_work_188 : decode b_M_work 188 = .ok (.aload_n 0, 1) := by decide +kernel
theorem d_M_work_189 : decode b_M_work 189 = .ok (.dup, 1) := by decide +kernel
theorem d_M_work_190 : decode b_M_work 190 = .ok (.getfield 108, 3) := by decide +kernel
theorem d_M_work_193 : decode b_M_work 193 = .ok (.aload_n 2, 1) := by decide +kernel
theorem d_M_work_194 : decode b_M_work 194 = .ok (.getfield 111, 3) := by decide +kernel
theorem d_M_work_197 : decode b_M_work 197 = .ok (.iadd, 1) := by decide +kernel
theorem d_M_work_198 : decode b_M_work 198 = .ok (.putfield 108, 3) := by decide +kernel
theorem d_M_work_201 : decode b_M_work 201 = .ok (.aload_n 2, 1) := by decide +kernel
theorem d_M_work_202 : decode b_M_work 202 = .ok (.iconst 0, 1) := by decide +kernel
theorem d_M_work_203 : decode b_M_work 203 = .ok (.putfield 111, 3) := by decide +kernel
theorem d_M_work_206 : decode b_M_work 206 = .ok (.iload_n 3, 1) := by decide +kernel
theorem d_M_work_207 : decode b_M_work 207 = .ok (.ifCond .ne 11, 3) := by decide +kernel
theorem d_M_work_210 : decode b_M_work 210 = .ok (.aload_n 1, 1) := by decide +kernel
theorem d_M_work_211 : decode b_M_work 211 = .ok (.getfield 104, 3) := by decide +kernel
theorem d_M_work_214 : decode b_M_work 214 = .ok (.ifCond .ne 4, 3) := by decide +kernel
theorem d_M_work_217 : decode b_M_work 217 = .ok (.return_, 1) := by decide +kernel
theorem d_M_work_218 : decode b_M_work 218 = .ok (.aload_n 2, 1) := by decide +kernel
theorem d_M_work_219 : decode b_M_work 219 = .ok (.aload_n 0, 1) := by decide +kernel
theorem d_M_work_220 : decode b_M_work 220 = .ok (.getfield 114, 3) := by decide +kernel
theorem d_M_work_223 : decode b_M_work 223 = .ok (.putfield 117, 3) := by decide +kernel
theorem d_M_work_226 : decode b_M_work 226 = .ok (.aload_n 2, 1) := by decide +kernel
theorem d_M_work_227 : decode b_M_work 227 = .ok (.getfield 120, 3) := by decide +kernel
theorem d_M_work_230 : decode b_M_work 230 = .ok (.aload_n 0, 1) := by decide +kernel
theorem d_M_work_231 : decode b_M_work 231 = .ok (.getfield 114, 3) := by decide +kernel
theorem d_M_work_234 : decode b_M_work 234 = .ok (.iconst 1, 1) := by decide +kernel
theorem d_M_work_235 : decode b_M_work 235 = .ok (.bastore, 1) := by decide +kernel
theorem d_M_work_236 : decode b_M_work 236 = .ok (.return_, 1) := by decide +kernel
theorem d_M_quarter_0 : decode b_M_quarter 0 = .ok (.aload_n 0, 1) := by decide +kernel
theorem d_M_quarter_1 : decode b_M_quarter 1 = .ok (.dup, 1) := by decide +kernel
theorem d_M_quarter_2 : decode b_M_quarter 2 = .ok (.getfield 114, 3) := by decide +kernel
theorem d_M_quarter_5 : decode b_M_quarter 5 = .ok (.iconst 1, 1) := by decide +kernel
theorem d_M_quarter_6 : decode b_M_quarter 6 = .ok (.iadd, 1) := by decide +kernel
theorem d_M_quarter_7 : decode b_M_quarter 7 = .ok (.putfield 114, 3) := by decide +kernel
theorem d_M_quarter_10 : decode b_M_quarter 10 = .ok (.iconst 0, 1) := by decide +kernel
theorem d_M_quarter_11 : decode b_M_quarter 11 = .ok (.istore_n 1, 1) := by decide +kernel
theorem d_M_quarter_12 : decode b_M_quarter 12 = .ok (.iconst 0, 1) := by decide +kernel
theorem d_M_quarter_13 : decode b_M_quarter 13 = .ok (.istore_n 2, 1) := by decide +kernel
theorem d_M_quarter_14 : decode b_M_quarter 14 = .ok (.iload_n 2, 1) := by decide +kernel
theorem d_M_quarter_15 : decode b_M_quarter 15 = .ok (.aload_n 0, 1) := by decide +kernel
theorem d_M_quarter_16 : decode b_M_quarter 16 = .ok (.getfield 10, 3) := by decide +kernel
theorem d_M_quarter_19 : decode b_M_quarter 19 = .ok (.invokeinterface 124 1, 5) := by decide +kernel
theorem d_M_quarter_24 : decode b_M_quarter 24 = .ok (.if_icmp .ge 115, 3) := by decide +kernel
theorem d_M_quarter_27 : decode b_M_quarter 27 = .ok (.aload_n 0, 1) := by decide +kernel
theorem d_M_quarter_28 : decode b_M_quarter 28 = .ok (.getfield 10, 3) := by decide +kernel
theorem d_M_quarter_31 : decode b_M_quarter 31 = .ok (.iload_n 2, 1) := by decide +kernel
theorem d_M_quarter_32 : decode b_M_quarter 32 = .ok (.invokeinterface 53 2, 5) := by decide +kernel
theorem d_M_quarter_37 : decode b_M_quarter 37 = .ok (.checkcast 59, 3) := by decide +kernel
theorem d_M_quarter_40 : decode b_M_quarter 40 = .ok (.astore_n 3, 1) := by decide +kernel
theorem d_M_quarter_41 : decode b_M_quarter 41 = .ok (.aload_n 3, 1) := by decide +kernel
theorem d_M_quarter_42 : decode b_M_quarter 42 = .ok (.aload_n 0, 1) := by decide +kernel
theorem d_M_quarter_43 : decode b_M_quarter 43 = .ok (.getfield 30, 3) := by decide +kernel
theorem d_M_quarter_46 : decode b_M_quarter 46 = .ok (.invokevirtual 128, 3) := by decide +kernel
theorem d_M_quarter_49 : decode b_M_quarter 49 = .ok (.istore 4, 2) := by decide +kernel
theorem d_M_quarter_51 : decode b_M_quarter 51 = .ok (.aload_n 3, 1) := by decide +kernel
theorem d_M_quarter_52 : decode b_M_quarter 52 = .ok (.getfield 132, 3) := by decide +kernel
theorem d_M_quarter_55 : decode b_M_quarter 55 = .ok (.aload_n 0, 1) := by decide +kernel
theorem d_M_quarter_56 : decode b_M_quarter 56 = .ok (.getfield 114, 3) := by decide +kernel
theorem d_M_quarter_59 : decode b_M_quarter 59 = .ok (.iload 4, 2) := by decide +kernel
theorem d_M_quarter_61 : decode b_M_quarter 61 = .ok (.bastore, 1) := by decide +kernel
theorem d_M_quarter_62 : decode b_M_quarter 62 = .ok (.aload_n 3, 1) := by decide +kernel
theorem d_M_quarter_63 : decode b_M_quarter 63 = .ok (.dup, 1) := by decide +kernel
theorem d_M_quarter_64 : decode b_M_quarter 64 = .ok (.getfield 135, 3) := by decide +kernel
theorem d_M_quarter_67 : decode b_M_quarter 67 = .ok (.iload 4, 2) := by decide +kernel
theorem d_M_quarter_69 : decode b_M_quarter 69 = .ok (.ifCond .eq 7, 3) := by decide +kernel
theorem d_M_quarter_72 : decode b_M_quarter 72 = .ok (.iconst 1, 1) := by decide +kernel
theorem d_M_quarter_73 : decode b_M_quarter 73 = .ok (.goto 4, 3) := by decide +kernel
theorem d_M_quarter_76 : decode b_M_quarter 76 = .ok (.iconst 0, 1) := by decide +kernel
theorem d_M_quarter_77 : decode b_M_quarter 77 = .ok (.iadd, 1) := by decide +kernel
theorem d_M_quarter_78 : decode b_M_quarter 78 = .ok (.putfield 135, 3) := by decide +kernel
theorem d_M_quarter_81 : decode b_M_quarter 81 = .ok (.iload_n 1, 1) := by decide +kernel
theorem d_M_quarter_82 : decode b_M_quarter 82 = .ok (.iload 4, 2) := by decide +kernel
theorem d_M_quarter_84 : decode b_M_quarter 84 = .ok (.ifCond .eq 7, 3) := by decide +kernel
theorem d_M_quarter_87 : decode b_M_quarter 87 = .ok (.iconst 1, 1) := by decide +kernel
theorem d_M_quarter_88 : decode b_M_quarter 88 = .ok (.goto 4, 3) := by decide +kernel
theorem d_M_quarter_91 : decode b_M_quarter 91 = .ok (.iconst 0, 1) := by decide +kernel
theorem d_M_quarter_92 : decode b_M_quarter 92 = .ok (.iadd, 1) := by decide +kernel
theorem d_M_quarter_93 : decode b_M_quarter 93 = .ok (.istore_n 1, 1) := by decide +kernel
theorem d_M_quarter_94 : decode b_M_quarter 94 = .ok (.aload_n 0, 1) := by decide +kernel
theorem d_M_quarter_95 : decode b_M_quarter 95 = .ok (.dup, 1) := by decide +kernel
theorem d_M_quarter_96 : decode b_M_quarter 96 = .ok (.getfield 138, 3) := by decide +kernel
theorem d_M_quarter_99 : decode b_M_quarter 99 = .ok (.aload_n 3, 1) := by decide +kernel
theorem d_M_quarter_100 : decode b_M_quarter 100 = .ok (.getfield 141, 3) := by decide +kernel
theorem d_M_quarter_103 : decode b_M_quarter 103 = .ok (.iadd, 1) := by decide +kernel
theorem d_M_quarter_104 : decode b_M_quarter 104 = .ok (.putfield 138, 3) := by decide +kernel
theorem d_M_quarter_107 : decode b_M_quarter 107 = .ok (.aload_n 0, 1) := by decide +kernel
theorem d_M_quarter_108 : decode b_M_quarter 108 = .ok (.dup, 1) := by decide +kernel
theorem d_M_quarter_109 : decode b_M_quarter 109 = .ok (.getfield 144, 3) := by decide +kernel
theorem d_M_quarter_112 : decode b_M_quarter 112 = .ok (.aload_n 3, 1) := by decide +kernel
theorem d_M_quarter_113 : decode b_M_quarter 113 = .ok (.getfield 147, 3) := by decide +kernel
theorem d_M_quarter_116 : decode b_M_quarter 116 = .ok (.iadd, 1) := by decide +kernel
theorem d_M_quarter_117 : decode b_M_quarter 117 = .ok (.putfield 144, 3) := by decide +kernel
theorem d_M_quarter_120 : decode b_M_quarter 120 = .ok (.aload_n 0, 1) := by decide +kernel
theorem d_M_quarter_121 : decode b_M_quarter 121 = .ok (.dup, 1) := by decide +kernel
theorem d_M_quarter_122 : decode b_M_quarter 122 = .ok (.getfield 150, 3) := by decide +kernel
theorem d_M_quarter_125 : decode b_M_quarter 125 = .ok (.aload_n 3, 1) := by decide +kernel
theorem d_M_quarter_126 : decode b_M_quarter 126 = .ok (.getfield 153, 3) := by decide +kernel
theorem d_M_quarter_129 : decode b_M_quarter 129 = .ok (.iadd, 1) := by decide +kernel
theorem d_M_quarter_130 : decode b_M_quarter 130 = .ok (.putfield 150, 3) := by decide +kernel
theorem d_M_quarter_133 : decode b_M_quarter 133 = .ok (.iinc 2 1, 3) := by decide +kernel
theorem d_M_quarter_136 : decode b_M_quarter 136 = .ok (.goto (-122), 3) := by decide +kernel
theorem d_M_quarter_139 : decode b_M_quarter 139 = .ok (.iconst 0, 1) := by decide +kernel
theorem d_M_quarter_140 : decode b_M_quarter 140 = .ok (.istore_n 2, 1) := by decide +kernel
theorem d_M_quarter_141 : decode b_M_quarter 141 = .ok (.iload_n 2, 1) := by decide +kernel
theorem d_M_quarter_142 : decode b_M_quarter 142 = .ok (.aload_n 0, 1) := by decide +kernel
theorem d_M_quarter_143 : decode b_M_quarter 143 = .ok (.getfield 16, 3) := by decide +kernel
theorem d_M_quarter_146 : decode b_M_quarter 146 = .ok (.invokeinterface 124 1, 5) := by decide +kernel
theorem d_M_quarter_151 : decode b_M_quarter 151 = .ok (.if_icmp .ge 26, 3) := by decide +kernel
theorem d_M_quarter_154 : decode b_M_quarter 154 = .ok (.aload_n 0, 1) := by decide +kernel
theorem d_M_quarter_155 : decode b_M_quarter 155 = .ok (.aload_n 0, 1) := by decide +kernel
theorem d_M_quarter_156 : decode b_M_quarter 156 = .ok (.getfield 16, 3) := by decide +kernel
theorem d_M_quarter_159 : decode b_M_quarter 159 = .ok (.iload_n 2, 1) := by decide +kernel
theorem d_M_quarter_160 : decode b_M_quarter 160 = .ok (.invokeinterface 53 2, 5) := by decide +kernel
theorem d_M_quarter_165 : decode b_M_quarter 165 = .ok (.checkcast 42, 3) := by decide +kernel
theorem d_M_quarter_168 : decode b_M_quarter 168 = .ok (.invokevirtual 154, 3) := by decide +kernel
theorem d_M_quarter_171 : decode b_M_quarter 171 = .ok (.iinc 2 1, 3) := by decide +kernel
theorem d_M_quarter_174 : decode b_M_quarter 174 = .ok (.goto (-33), 3) := by decide +kernel
theorem d_M_quarter_177 : decode b_M_quarter 177 = .ok (.iconst 0, 1) := by decide +kernel
theorem d_M_quarter_178 : decode b_M_quarter 178 = .ok (.istore_n 2, 1) := by decide +kernel
theorem d_M_quarter_179 : decode b_M_quarter 179 = .ok (.iconst 0, 1) := by decide +kernel
theorem d_M_quarter_180 : decode b_M_quarter 180 = .ok (.istore_n 3, 1) := by decide +kernel
theorem d_M_quarter_181 : decode b_M_quarter 181 = .ok (.iload_n 3, 1) := by decide +kernel
theorem d_M_quarter_182 : decode b_M_quarter 182 = .ok (.aload_n 0, 1) := by decide +kernel
theorem d_M_quarter_183 : decode b_M_quarter 183 = .ok (.getfield 158, 3) := by decide +kernel
theorem d_M_quarter_186 : decode b_M_quarter 186 = .ok (.if_icmp .ge 113, 3) := by decide +kernel
theorem d_M_quarter_189 : decode b_M_quarter 189 = .ok (.aload_n 0, 1) := by decide +kernel
theorem d_M_quarter_190 : decode b_M_quarter 190 = .ok (.getfield 24, 3) := by decide +kernel
theorem d_M_quarter_193 : decode b_M_quarter 193 = .ok (.iload_n 3, 1) := by decide +kernel
theorem d_M_quarter_194 : decode b_M_quarter 194 = .ok (.aaload, 1) := by decide +kernel
theorem d_M_quarter_195 : decode b_M_quarter 195 = .ok (.astore 4, 2) := by decide +kernel
theorem d_M_quarter_197 : decode b_M_quarter 197 = .ok (.aload 4, 2) := by decide +kernel
theorem d_M_quarter_199 : decode b_M_quarter 199 = .ok (.iconst 0, 1) := by decide +kernel
theorem d_M_quarter_200 : decode b_M_quarter 200 = .ok (.iaload, 1) := by decide +kernel
theorem d_M_quarter_201 : decode b_M_quarter 201 = .ok (.aload_n 0, 1) := by decide +kernel
theorem d_M_quarter_202 : decode b_M_quarter 202 = .ok (.getfield 114, 3) := by decide +kernel
theorem d_M_quarter_205 : decode b_M_quarter 205 = .ok (.if_icmp .le 33, 3) := by decide +kernel
theorem d_M_quarter_208 : decode b_M_quarter 208 = .ok (.aload_n 0, 1) := by decide +kernel
theorem d_M_quarter_209 : decode b_M_quarter 209 = .ok (.getfield 24, 3) := by decide +kernel
theorem d_M_quarter_212 : decode b_M_quarter 212 = .ok (.iload_n 2, 1) := by decide +kernel
theorem d_M_quarter_213 : decode b_M_quarter 213 = .ok (.aaload, 1) := by decide +kernel
theorem d_M_quarter_214 : decode b_M_quarter 214 = .ok (.iconst 0, 1) := by decide +kernel
theorem d_M_quarter_215 : decode b_M_quarter 215 = .ok (.aload 4, 2) := by decide +kernel
theorem d_M_quarter_217 : decode b_M_quarter 217 = .ok (.iconst 0, 1) := by decide +kernel
theorem d_M_quarter_218 : decode b_M_quarter 218 = .ok (.iaload, 1) := by decide +kernel
theorem d_M_quarter_219 : decode b_M_quarter 219 = .ok (.iastore, 1) := by decide +kernel
theorem d_M_quarter_220 : decode b_M_quarter 220 = .ok (.aload_n 0, 1) := by decide +kernel
theorem d_M_quarter_221 : decode b_M_quarter 221 = .ok (.getfield 24, 3) := by decide +kernel
theorem d_M_quarter_224 : decode b_M_quarter 224 = .ok (.iload_n 2, 1) := by decide +kernel
theorem d_M_quarter_225 : decode b_M_quarter 225 = .ok (.iinc 2 1, 3) := by decide +kernel
theorem d_M_quarter_228 : decode b_M_quarter 228 = .ok (.aaload, 1) := by decide +kernel
theorem d_M_quarter_229 : decode b_M_quarter 229 = .ok (.iconst 1, 1) := by decide +kernel
theorem d_M_quarter_230 : decode b_M_quarter 230 = .ok (.aload 4, 2) := by decide +kernel
theorem d_M_quarter_232 : decode b_M_quarter 232 = .ok (.iconst 1, 1) := by decide +kernel
theorem d_M_quarter_233 : decode b_M_quarter 233 = .ok (.iaload, 1) := by decide +kernel
theorem d_M_quarter_234 : decode b_M_quarter 234 = .ok (.iastore, 1) := by decide +kernel
theorem d_M_quarter_235 : decode b_M_quarter 235 = .ok (.goto 58, 3) := by decide +kernel
theorem d_M_quarter_238 : decode b_M_quarter 238 = .ok (.aload 4, 2) := by decide +kernel
theorem d_M_quarter_240 : decode b_M_quarter 240 = .ok (.iconst 1, 1) := by decide +kernel
theorem d_M_quarter_241 : decode b_M_quarter 241 = .ok (.iaload, 1) := by decide +kernel
theorem d_M_quarter_242 : decode b_M_quarter 242 = .ok (.sipush 999, 3) := by decide +kernel
theorem d_M_quarter_245 : decode b_M_quarter 245 = .ok (.aload_n 0, 1) := by decide +kernel
theorem d_M_quarter_246 : decode b_M_quarter 246 = .ok (.getfield 34, 3) := by decide +kernel
theorem d_M_quarter_249 : decode b_M_quarter 249 = .ok (.isub, 1) := by decide +kernel
theorem d_M_quarter_250 : decode b_M_quarter 250 = .ok (.invokestatic 92, 3) := by decide +kernel
theorem d_M_quarter_253 : decode b_M_quarter 253 = .ok (.istore 5, 2) := by decide +kernel
theorem d_M_quarter_255 : decode b_M_quarter 255 = .ok (.aload_n 0, 1) := by decide +kernel
theorem d_M_quarter_256 : decode b_M_quarter 256 = .ok (.dup, 1) := by decide +kernel
theorem d_M_quarter_257 : decode b_M_quarter 257 = .ok (.getfield 34, 3) := by decide +kernel
theorem d_M_quarter_260 : decode b_M_quarter 260 = .ok (.iload 5, 2) := by decide +kernel
theorem d_M_quarter_262 : decode b_M_quarter 262 = .ok (.iadd, 1) := by decide +kernel
theorem d_M_quarter_263 : decode b_M_quarter 263 = .ok (.putfield 34, 3) := by decide +kernel
theorem d_M_quarter_266 : decode b_M_quarter 266 = .ok (.aload_n 0, 1) := by decide +kernel
theorem d_M_quarter_267 : decode b_M_quarter 267 = .ok (.dup, 1) := by decide +kernel
theorem d_M_quarter_268 : decode b_M_quarter 268 = .ok (.getfield 161, 3) := by decide +kernel
theorem d_M_quarter_271 : decode b_M_quarter 271 = .ok (.iload 5, 2) := by decide +kernel
theorem d_M_quarter_273 : decode b_M_quarter 273 = .ok (.iadd, 1) := by decide +kernel
theorem d_M_quarter_274 : decode b_M_quarter 274 = .ok (.putfield 161, 3) := by decide +kernel
theorem d_M_quarter_277 : decode b_M_quarter 277 = .ok (.aload_n 0, 1) := by decide +kernel
theorem d_M_quarter_278 : decode b_M_quarter 278 = .ok (.dup, 1) := by decide +kernel
theorem d_M_quarter_279 : decode b_M_quarter 279 = .ok (.getfield 164, 3) := by decide +kernel
theorem d_M_quarter_282 : decode b_M_quarter 282 = .ok (.aload 4, 2) := by decide +kernel
theorem d_M_quarter_284 : decode b_M_quarter 284 = .ok (.iconst 1, 1) := by decide +kernel
theorem d_M_quarter_285 : decode b_M_quarter 285 = .ok (.iaload, 1) := by decide +kernel
theorem d_M_quarter_286 : decode b_M_quarter 286 = .ok (.iload 5, 2) := by decide +kernel
theorem d_M_quarter_288 : decode b_M_quarter 288 = .ok (.isub, 1) := by decide +kernel
theorem d_M_quarter_289 : decode b_M_quarter 289 = .ok (.iadd, 1) := by decide +kernel
theorem d_M_quarter_290 : decode b_M_quarter 290 = .ok (.putfield 164, 3) := by decide +kernel
theorem d_M_quarter_293 : decode b_M_quarter 293 = .ok (.iinc 3 1, 3) := by decide +kernel
theorem d_M_quarter_296 : decode b_M_quarter 296 = .ok (.goto (-115), 3) := by decide +kernel
theorem d_M_quarter_299 : decode b_M_quarter 299 = .ok (.aload_n 0, 1) := by decide +kernel
theorem d_M_quarter_300 : decode b_M_quarter 300 = .ok (.iload_n 2, 1) := by decide +kernel
theorem d_M_quarter_301 : decode b_M_quarter 301 = .ok (.putfield 158, 3) := by decide +kernel
theorem d_M_quarter_304 : decode b_M_quarter 304 = .ok (.iload_n 1, 1) := by decide +kernel
theorem d_M_quarter_305 : decode b_M_quarter 305 = .ok (.ireturn, 1) := by decide +kernel
theorem d_M_isNode_0 : decode b_M_isNode 0 = .ok (.iload_n 0, 1) := by decide +kernel
theorem d_M_isNode_1 : decode b_M_isNode 1 = .ok (.iconst 0, 1) := by decide +kernel
theorem d_M_isNode_2 : decode b_M_isNode 2 = .ok (.bipush 6, 2) := by decide +kernel
theorem d_M_isNode_4 : decode b_M_isNode 4 = .ok (.invokestatic 167, 3) := by decide +kernel
theorem d_M_isNode_7 : decode b_M_isNode 7 = .ok (.ireturn, 1) := by decide +kernel
theorem d_M_isRoad_0 : decode b_M_isRoad 0 = .ok (.iload_n 1, 1) := by decide +kernel
theorem d_M_isRoad_1 : decode b_M_isRoad 1 = .ok (.iconst 0, 1) := by decide +kernel
theorem d_M_isRoad_2 : decode b_M_isRoad 2 = .ok (.aload_n 0, 1) := by decide +kernel
theorem d_M_isRoad_3 : decode b_M_isRoad 3 = .ok (.getfield 10, 3) := by decide +kernel
theorem d_M_isRoad_6 : decode b_M_isRoad 6 = .ok (.invokeinterface 124 1, 5) := by decide +kernel
theorem d_M_isRoad_11 : decode b_M_isRoad 11 = .ok (.iconst 1, 1) := by decide +kernel
theorem d_M_isRoad_12 : decode b_M_isRoad 12 = .ok (.isub, 1) := by decide +kernel
theorem d_M_isRoad_13 : decode b_M_isRoad 13 = .ok (.invokestatic 167, 3) := by decide +kernel
theorem d_M_isRoad_16 : decode b_M_isRoad 16 = .ok (.ireturn, 1) := by decide +kernel
theorem d_M_isLorry_0 : decode b_M_isLorry 0 = .ok (.iload_n 1, 1) := by decide +kernel
theorem d_M_isLorry_1 : decode b_M_isLorry 1 = .ok (.iconst 0, 1) := by decide +kernel
theorem d_M_isLorry_2 : decode b_M_isLorry 2 = .ok (.aload_n 0, 1) := by decide +kernel
theorem d_M_isLorry_3 : decode b_M_isLorry 3 = .ok (.getfield 16, 3) := by decide +kernel
theorem d_M_isLorry_6 : decode b_M_isLorry 6 = .ok (.invokeinterface 124 1, 5) := by decide +kernel
theorem d_M_isLorry_11 : decode b_M_isLorry 11 = .ok (.iconst 1, 1) := by decide +kernel
theorem d_M_isLorry_12 : decode b_M_isLorry 12 = .ok (.isub, 1) := by decide +kernel
theorem d_M_isLorry_13 : decode b_M_isLorry 13 = .ok (.invokestatic 167, 3) := by decide +kernel
theorem d_M_isLorry_16 : decode b_M_isLorry 16 = .ok (.ireturn, 1) := by decide +kernel
theorem d_M_road_0 : decode b_M_road 0 = .ok (.aload_n 0, 1) := by decide +kernel
theorem d_M_road_1 : decode b_M_road 1 = .ok (.iconst 0, 1) := by decide +kernel
theorem d_M_road_2 : decode b_M_road 2 = .ok (.putfield 38, 3) := by decide +kernel
theorem d_M_road_5 : decode b_M_road 5 = .ok (.iload_n 1, 1) := by decide +kernel
theorem d_M_road_6 : decode b_M_road 6 = .ok (.invokestatic 171, 3) := by decide +kernel
theorem d_M_road_9 : decode b_M_road 9 = .ok (.ifCond .eq 10, 3) := by decide +kernel
theorem d_M_road_12 : decode b_M_road 12 = .ok (.iload_n 2, 1) := by decide +kernel
theorem d_M_road_13 : decode b_M_road 13 = .ok (.invokestatic 171, 3) := by decide +kernel
theorem d_M_road_16 : decode b_M_road 16 = .ok (.ifCond .ne 9, 3) := by decide +kernel
theorem d_M_road_19 : decode b_M_road 19 = .ok (.aload_n 0, 1) := by decide +kernel
theorem d_M_road_20 : decode b_M_road 20 = .ok (.iconst 1, 1) := by decide +kernel
theorem d_M_road_21 : decode b_M_road 21 = .ok (.invokevirtual 174, 3) := by decide +kernel
theorem d_M_road_24 : decode b_M_road 24 = .ok (.ireturn, 1) := by decide +kernel
theorem d_M_road_25 : decode b_M_road 25 = .ok (.iload_n 1, 1) := by decide +kernel
theorem d_M_road_26 : decode b_M_road 26 = .ok (.iload_n 2, 1) := by decide +kernel
theorem d_M_road_27 : decode b_M_road 27 = .ok (.if_icmp .eq 44, 3) := by decide +kernel
theorem d_M_road_30 : decode b_M_road 30 = .ok (.iload_n 3, 1) := by decide +kernel
theorem d_M_road_31 : decode b_M_road 31 = .ok (.iconst 1, 1) := by decide +kernel
theorem d_M_road_32 : decode b_M_road 32 = .ok (.bipush 6, 2) := by decide +kernel
theorem d_M_road_34 : decode b_M_road 34 = .ok (.invokestatic 167, 3) := by decide +kernel
theorem d_M_road_37 : decode b_M_road 37 = .ok (.ifCond .eq 34, 3) := by decide +kernel
theorem d_M_road_40 : decode b_M_road 40 = .ok (.iload 4, 2) := by decide +kernel
theorem d_M_road_42 : decode b_M_road 42 = .ok (.iconst 0, 1) := by decide +kernel
theorem d_M_road_43 : decode b_M_road 43 = .ok (.iconst 2, 1) := by decide +kernel
theorem d_M_road_44 : decode b_M_road 44 = .ok (.invokestatic 167, 3) := by decide +kernel
theorem d_M_road_47 : decode b_M_road 47 = .ok (.ifCond .eq 24, 3) := by decide +kernel
theorem d_M_road_50 : decode b_M_road 50 = .ok (.iload 5, 2) := by decide +kernel
theorem d_M_road_52 : decode b_M_road 52 = .ok (.iconst 0, 1) := by decide +kernel
theorem d_M_road_53 : decode b_M_road 53 = .ok (.bipush 9, 2) := by decide +kernel
theorem d_M_road_55 : decode b_M_road 55 = .ok (.invokestatic 167, 3) := by decide +kernel
theorem d_M_road_58 : decode b_M_road 58 = .ok (.ifCond .eq 13, 3) := by decide +kernel
theorem d_M_road_61 : decode b_M_road 61 = .ok (.iload 6, 2) := by decide +kernel
theorem d_M_road_63 : decode b_M_road 63 = .ok (.iconst 0, 1) := by decide +kernel
theorem d_M_road_64 : decode b_M_road 64 = .ok (.iconst 2, 1) := by decide +kernel
theorem d_M_road_65 : decode b_M_road 65 = .ok (.invokestatic 167, 3) := by decide +kernel
theorem d_M_road_68 : decode b_M_road 68 = .ok (.ifCond .ne 9, 3) := by decide +kernel
theorem d_M_road_71 : decode b_M_road 71 = .ok (.aload_n 0, 1) := by decide +kernel
theorem d_M_road_72 : decode b_M_road 72 = .ok (.iconst 2, 1) := by decide +kernel
theorem d_M_road_73 : decode b_M_road 73 = .ok (.invokevirtual 174, 3) := by decide +kernel
theorem d_M_road_76 : decode b_M_road 76 = .ok (.ireturn, 1) := by decide +kernel
theorem d_M_road_77 : decode b_M_road 77 = .ok (.aload_n 0, 1) := by decide +kernel
theorem d_M_road_78 : decode b_M_road 78 = .ok (.getfield 10, 3) := by decide +kernel
theorem d_M_road_81 : decode b_M_road 81 = .ok (.invokeinterface 124 1, 5) := by decide +kernel
theorem d_M_road_86 : decode b_M_road 86 = .ok (.bipush 8, 2) := by decide +kernel
theorem d_M_road_88 : decode b_M_road 88 = .ok (.if_icmp .ne 9, 3) := by decide +kernel
theorem d_M_road_91 : decode b_M_road 91 = .ok (.aload_n 0, 1) := by decide +kernel
theorem d_M_road_92 : decode b_M_road 92 = .ok (.iconst 3, 1) := by decide +kernel
theorem d_M_road_93 : decode b_M_road 93 = .ok (.invokevirtual 174, 3) := by decide +kernel
theorem d_M_road_96 : decode b_M_road 96 = .ok (.ireturn, 1) := by decide +kernel
theorem d_M_road_97 : decode b_M_road 97 = .ok (.aload_n 0, 1) := by decide +kernel
theorem d_M_road_98 : decode b_M_road 98 = .ok (.getfield 10, 3) := by decide +kernel
theorem d_M_road_101 : decode b_M_road 101 = .ok (.new 59, 3) := by decide +kernel
theorem d_M_road_104 : decode b_M_road 104 = .ok (.dup, 1) := by decide +kernel
theorem d_M_road_105 : decode b_M_road 105 = .ok (.iload_n 1, 1) := by decide +kernel
theorem d_M_road_106 : decode b_M_road 106 = .ok (.iload_n 2, 1) := by decide +kernel
theorem d_M_road_107 : decode b_M_road 107 = .ok (.iload_n 3, 1) := by decide +kernel
theorem d_M_road_108 : decode b_M_road 108 = .ok (.iload 4, 2) := by decide +kernel
theorem d_M_road_110 : decode b_M_road 110 = .ok (.iload 5, 2) := by decide +kernel
theorem d_M_road_112 : decode b_M_road 112 = .ok (.iload 6, 2) := by decide +kernel
theorem d_M_road_114 : decode b_M_road 114 = .ok (.iload 7, 2) := by decide +kernel
theorem d_M_road_116 : decode b_M_road 116 = .ok (.invokespecial 178, 3) := by decide +kernel
theorem d_M_road_119 : decode b_M_road 119 = .ok (.invokeinterface 181 2, 5) := by decide +kernel
theorem d_M_road_124 : decode b_M_road 124 = .ok (.pop, 1) := by decide +kernel
theorem d_M_road_125 : decode b_M_road 125 = .ok (.aload_n 0, 1) := by decide +kernel
theorem d_M_road_126 : decode b_M_road 126 = .ok (.getfield 10, 3) := by decide +kernel
theorem d_M_road_129 : decode b_M_road 129 = .ok (.invokeinterface 124 1, 5) := by decide +kernel
theorem d_M_road_134 : decode b_M_road 134 = .ok (.iconst 1, 1) := by decide +kernel
theorem d_M_road_135 : decode b_M_road 135 = .ok (.isub, 1) := by decide +kernel
theorem d_M_road_136 : decode b_M_road 136 = .ok (.ireturn, 1) := by decide +kernel
theorem d_M_air_0 : decode b_M_air 0 = .ok (.aload_n 0, 1) := by decide +kernel
theorem d_M_air_1 : decode b_M_air 1 = .ok (.iconst 0, 1) := by decide +kernel
theorem d_M_air_2 : decode b_M_air 2 = .ok (.putfield 38, 3) := by decide +kernel
theorem d_M_air_5 : decode b_M_air 5 = .ok (.iload_n 1, 1) := by decide +kernel
theorem d_M_air_6 : decode b_M_air 6 = .ok (.bipush (-20), 2) := by decide +kernel
theorem d_M_air_8 : decode b_M_air 8 = .ok (.bipush 20, 2) := by decide +kernel
theorem d_M_air_10 : decode b_M_air 10 = .ok (.invokestatic 167, 3) := by decide +kernel
theorem d_M_air_13 : decode b_M_air 13 = .ok (.ifCond .ne 9, 3) := by decide +kernel
theorem d_M_air_16 : decode b_M_air 16 = .ok (.aload_n 0, 1) := by decide +kernel
theorem d_M_air_17 : decode b_M_air 17 = .ok (.iconst 1, 1) := by decide +kernel
theorem d_M_air_18 : decode b_M_air 18 = .ok (.invokevirtual 174, 3) := by decide +kernel
theorem d_M_air_21 : decode b_M_air 21 = .ok (.ireturn, 1) := by decide +kernel
theorem d_M_air_22 : decode b_M_air 22 = .ok (.aload_n 0, 1) := by decide +kernel
theorem d_M_air_23 : decode b_M_air 23 = .ok (.getfield 30, 3) := by decide +kernel
theorem d_M_air_26 : decode b_M_air 26 = .ok (.getfield 185, 3) := by decide +kernel
theorem d_M_air_29 : decode b_M_air 29 = .ok (.istore_n 3, 1) := by decide +kernel
theorem d_M_air_30 : decode b_M_air 30 = .ok (.aload_n 0, 1) := by decide +kernel
theorem d_M_air_31 : decode b_M_air 31 = .ok (.getfield 30, 3) := by decide +kernel
theorem d_M_air_34 : decode b_M_air 34 = .ok (.iload_n 1, 1) := by decide +kernel
theorem d_M_air_35 : decode b_M_air 35 = .ok (.putfield 185, 3) := by decide +kernel
theorem d_M_air_38 : decode b_M_air 38 = .ok (.aload_n 0, 1) := by decide +kernel
theorem d_M_air_39 : decode b_M_air 39 = .ok (.getfield 30, 3) := by decide +kernel
theorem d_M_air_42 : decode b_M_air 42 = .ok (.iload_n 2, 1) := by decide +kernel
theorem d_M_air_43 : decode b_M_air 43 = .ok (.putfield 188, 3) := by decide +kernel
theorem d_M_air_46 : decode b_M_air 46 = .ok (.iload_n 3, 1) := by decide +kernel
theorem d_M_air_47 : decode b_M_air 47 = .ok (.ireturn, 1) := by decide +kernel
theorem d_M_fall_0 : decode b_M_fall 0 = .ok (.aload_n 0, 1) := by decide +kernel
theorem d_M_fall_1 : decode b_M_fall 1 = .ok (.iconst 0, 1) := by decide +kernel
theorem d_M_fall_2 : decode b_M_fall 2 = .ok (.putfield 38, 3) := by decide +kernel
theorem d_M_fall_5 : decode b_M_fall 5 = .ok (.iload_n 1, 1) := by decide +kernel
theorem d_M_fall_6 : decode b_M_fall 6 = .ok (.iconst 0, 1) := by decide +kernel
theorem d_M_fall_7 : decode b_M_fall 7 = .ok (.iconst 3, 1) := by decide +kernel
theorem d_M_fall_8 : decode b_M_fall 8 = .ok (.invokestatic 167, 3) := by decide +kernel
theorem d_M_fall_11 : decode b_M_fall 11 = .ok (.ifCond .eq 21, 3) := by decide +kernel
theorem d_M_fall_14 : decode b_M_fall 14 = .ok (.iload_n 2, 1) := by decide +kernel
theorem d_M_fall_15 : decode b_M_fall 15 = .ok (.iconst 0, 1) := by decide +kernel
theorem d_M_fall_16 : decode b_M_fall 16 = .ok (.iconst 3, 1) := by decide +kernel
theorem d_M_fall_17 : decode b_M_fall 17 = .ok (.invokestatic 167, 3) := by decide +kernel
theorem d_M_fall_20 : decode b_M_fall 20 = .ok (.ifCond .eq 12, 3) := by decide +kernel
theorem d_M_fall_23 : decode b_M_fall 23 = .ok (.iload_n 3, 1) := by decide +kernel
theorem d_M_fall_24 : decode b_M_fall 24 = .ok (.iconst 0, 1) := by decide +kernel
theorem d_M_fall_25 : decode b_M_fall 25 = .ok (.iconst 3, 1) := by decide +kernel
theorem d_M_fall_26 : decode b_M_fall 26 = .ok (.invokestatic 167, 3) := by decide +kernel
theorem d_M_fall_29 : decode b_M_fall 29 = .ok (.ifCond .ne 9, 3) := by decide +kernel
theorem d_M_fall_32 : decode b_M_fall 32 = .ok (.aload_n 0, 1) := by decide +kernel
theorem d_M_fall_33 : decode b_M_fall 33 = .ok (.iconst 1, 1) := by decide +kernel
theorem d_M_fall_34 : decode b_M_fall 34 = .ok (.invokevirtual 174, 3) := by decide +kernel
theorem d_M_fall_37 : decode b_M_fall 37 = .ok (.ireturn, 1) := by decide +kernel
theorem d_M_fall_38 : decode b_M_fall 38 = .ok (.aload_n 0, 1) := by decide +kernel
theorem d_M_fall_39 : decode b_M_fall 39 = .ok (.getfield 30, 3) := by decide +kernel
theorem d_M_fall_42 : decode b_M_fall 42 = .ok (.getfield 191, 3) := by decide +kernel
theorem d_M_fall_45 : decode b_M_fall 45 = .ok (.istore 4, 2) := by decide +kernel
theorem d_M_fall_47 : decode b_M_fall 47 = .ok (.aload_n 0, 1) := by decide +kernel
theorem d_M_fall_48 : decode b_M_fall 48 = .ok (.getfield 30, 3) := by decide +kernel
theorem d_M_fall_51 : decode b_M_fall 51 = .ok (.iload_n 1, 1) := by decide +kernel
theorem d_M_fall_52 : decode b_M_fall 52 = .ok (.putfield 194, 3) := by decide +kernel
theorem d_M_fall_55 : decode b_M_fall 55 = .ok (.aload_n 0, 1) := by decide +kernel
theorem d_M_fall_56 : decode b_M_fall 56 = .ok (.getfield 30, 3) := by decide +kernel
theorem d_M_fall_59 : decode b_M_fall 59 = .ok (.iload_n 2, 1) := by decide +kernel
theorem d_M_fall_60 : decode b_M_fall 60 = .ok (.putfield 197, 3) := by decide +kernel
theorem d_M_fall_63 : decode b_M_fall 63 = .ok (.aload_n 0, 1) := by decide +kernel
theorem d_M_fall_64 : decode b_M_fall 64 = .ok (.getfield 30, 3) := by decide +kernel
theorem d_M_fall_67 : decode b_M_fall 67 = .ok (.iload_n 3, 1) := by decide +kernel
theorem d_M_fall_68 : decode b_M_fall 68 = .ok (.putfield 191, 3) := by decide +kernel
theorem d_M_fall_71 : decode b_M_fall 71 = .ok (.iload 4, 2) := by decide +kernel
theorem d_M_fall_73 : decode b_M_fall 73 = .ok (.ireturn, 1) := by decide +kernel
theorem d_M_inHoppers_0 : decode b_M_inHoppers 0 = .ok (.iconst 0, 1) := by decide +kernel
theorem d_M_inHoppers_1 : decode b_M_inHoppers 1 = .ok (.istore_n 1, 1) := by decide +kernel
theorem d_M_inHoppers_2 : decode b_M_inHoppers 2 = .ok (.iconst 0, 1) := by decide +kernel
theorem d_M_inHoppers_3 : decode b_M_inHoppers 3 = .ok (.istore_n 2, 1) := by decide +kernel
theorem d_M_inHoppers_4 : decode b_M_inHoppers 4 = .ok (.iload_n 2, 1) := by decide +kernel
theorem d_M_inHoppers_5 : decode b_M_inHoppers 5 = .ok (.aload_n 0, 1) := by decide +kernel
theorem d_M_inHoppers_6 : decode b_M_inHoppers 6 = .ok (.getfield 16, 3) := by decide +kernel
theorem d_M_inHoppers_9 : decode b_M_inHoppers 9 = .ok (.invokeinterface 124 1, 5) := by decide +kernel
theorem d_M_inHoppers_14 : decode b_M_inHoppers 14 = .ok (.if_icmp .ge 28, 3) := by decide +kernel
theorem d_M_inHoppers_17 : decode b_M_inHoppers 17 = .ok (.iload_n 1, 1) := by decide +kernel
theorem d_M_inHoppers_18 : decode b_M_inHoppers 18 = .ok (.aload_n 0, 1) := by decide +kernel
theorem d_M_inHoppers_19 : decode b_M_inHoppers 19 = .ok (.getfield 16, 3) := by decide +kernel
theorem d_M_inHoppers_22 : decode b_M_inHoppers 22 = .ok (.iload_n 2, 1) := by decide +kernel
theorem d_M_inHoppers_23 : decode b_M_inHoppers 23 = .ok (.invokeinterface 53 2, 5) := by decide +kernel
theorem d_M_inHoppers_28 : decode b_M_inHoppers 28 = .ok (.checkcast 42, 3) := by decide +kernel
theorem d_M_inHoppers_31 : decode b_M_inHoppers 31 = .ok (.getfield 86, 3) := by decide +kernel
theorem d_M_inHoppers_34 : decode b_M_inHoppers 34 = .ok (.iadd, 1) := by decide +kernel
theorem d_M_inHoppers_35 : decode b_M_inHoppers 35 = .ok (.istore_n 1, 1) := by decide +kernel
theorem d_M_inHoppers_36 : decode b_M_inHoppers 36 = .ok (.iinc 2 1, 3) := by decide +kernel
theorem d_M_inHoppers_39 : decode b_M_inHoppers 39 = .ok (.goto (-35), 3) := by decide +kernel
theorem d_M_inHoppers_42 : decode b_M_inHoppers 42 = .ok (.iload_n 1, 1) := by decide +kernel
theorem d_M_inHoppers_43 : decode b_M_inHoppers 43 = .ok (.ireturn, 1) := by decide +kernel
theorem d_M_isForetold_0 : decode b_M_isForetold 0 = .ok (.iconst 0, 1) := by decide +kernel
theorem d_M_isForetold_1 : decode b_M_isForetold 1 = .ok (.istore_n 2, 1) := by decide +kernel
theorem d_M_isForetold_2 : decode b_M_isForetold 2 = .ok (.iconst 2, 1) := by decide +kernel
theorem d_M_isForetold_3 : decode b_M_isForetold 3 = .ok (.istore_n 3, 1) := by decide +kernel
theorem d_M_isForetold_4 : decode b_M_isForetold 4 = .ok (.iload_n 3, 1) := by decide +kernel
theorem d_M_isForetold_5 : decode b_M_isForetold 5 = .ok (.iconst 5, 1) := by decide +kernel
theorem d_M_isForetold_6 : decode b_M_isForetold 6 = .ok (.if_icmp .ge 39, 3) := by decide +kernel
theorem d_M_isForetold_9 : decode b_M_isForetold 9 = .ok (.iload_n 2, 1) := by decide +kernel
theorem d_M_isForetold_10 : decode b_M_isForetold 10 = .ok (.aload_n 0, 1) := by decide +kernel
theorem d_M_isForetold_11 : decode b_M_isForetold 11 = .ok (.aload_n 1, 1) := by decide +kernel
theorem d_M_isForetold_12 : decode b_M_isForetold 12 = .ok (.iload_n 3, 1) := by decide +kernel
theorem d_M_isForetold_13 : decode b_M_isForetold 13 = .ok (.iaload, 1) := by decide +kernel
theorem d_M_isForetold_14 : decode b_M_isForetold 14 = .ok (.aload_n 1, 1) := by decide +kernel
theorem d_M_isForetold_15 : decode b_M_isForetold 15 = .ok (.iconst 5, 1) := by decide +kernel
theorem d_M_isForetold_16 : decode b_M_isForetold 16 = .ok (.iaload, 1) := by decide +kernel
theorem d_M_isForetold_17 : decode b_M_isForetold 17 = .ok (.iconst 1, 1) := by decide +kernel
theorem d_M_isForetold_18 : decode b_M_isForetold 18 = .ok (.if_icmp .ne 7, 3) := by decide +kernel
theorem d_M_isForetold_21 : decode b_M_isForetold 21 = .ok (.iconst 1, 1) := by decide +kernel
theorem d_M_isForetold_22 : decode b_M_isForetold 22 = .ok (.goto 4, 3) := by decide +kernel
theorem d_M_isForetold_25 : decode b_M_isForetold 25 = .ok (.iconst 0, 1) := by decide +kernel
theorem d_M_isForetold_26 : decode b_M_isForetold 26 = .ok (.invokevirtual 200, 3) := by decide +kernel
theorem d_M_isForetold_29 : decode b_M_isForetold 29 = .ok (.ifCond .ge 7, 3) := by decide +kernel
theorem d_M_isForetold_32 : decode b_M_isForetold 32 = .ok (.iconst 1, 1) := by decide +kernel
theorem d_M_isForetold_33 : decode b_M_isForetold 33 = .ok (.goto 4, 3) := by decide +kernel
theorem d_M_isForetold_36 : decode b_M_isForetold 36 = .ok (.iconst 0, 1) := by decide +kernel
theorem d_M_isForetold_37 : decode b_M_isForetold 37 = .ok (.iadd, 1) := by decide +kernel
theorem d_M_isForetold_38 : decode b_M_isForetold 38 = .ok (.istore_n 2, 1) := by decide +kernel
theorem d_M_isForetold_39 : decode b_M_isForetold 39 = .ok (.iinc 3 1, 3) := by decide +kernel
theorem d_M_isForetold_42 : decode b_M_isForetold 42 = .ok (.goto (-38), 3) := by decide +kernel
theorem d_M_isForetold_45 : decode b_M_isForetold 45 = .ok (.iload_n 2, 1) := by decide +kernel
theorem d_M_isForetold_46 : decode b_M_isForetold 46 = .ok (.iconst 1, 1) := by decide +kernel
theorem d_M_isForetold_47 : decode b_M_isForetold 47 = .ok (.if_icmp .le 7, 3) := by decide +kernel
theorem d_M_isForetold_50 : decode b_M_isForetold 50 = .ok (.iconst 1, 1) := by decide +kernel
theorem d_M_isForetold_51 : decode b_M_isForetold 51 = .ok (.goto 4, 3) := by decide +kernel
theorem d_M_isForetold_54 : decode b_M_isForetold 54 = .ok (.iconst 0, 1) := by decide +kernel
theorem d_M_isForetold_55 : decode b_M_isForetold 55 = .ok (.ireturn, 1) := by decide +kernel
theorem d_M_forecast_0 : decode b_M_forecast 0 = .ok (.aload_n 0, 1) := by decide +kernel
theorem d_M_forecast_1 : decode b_M_forecast 1 = .ok (.iconst 0, 1) := by decide +kernel
theorem d_M_forecast_2 : decode b_M_forecast 2 = .ok (.putfield 38, 3) := by decide +kernel
theorem d_M_forecast_5 : decode b_M_forecast 5 = .ok (.iload_n 1, 1) := by decide +kernel
theorem d_M_forecast_6 : decode b_M_forecast 6 = .ok (.iconst 1, 1) := by decide +kernel
theorem d_M_forecast_7 : decode b_M_forecast 7 = .ok (.bipush 48, 2) := by decide +kernel
theorem d_M_forecast_9 : decode b_M_forecast 9 = .ok (.invokestatic 167, 3) := by decide +kernel
theorem d_M_forecast_12 : decode b_M_forecast 12 = .ok (.ifCond .eq 37, 3) := by decide +kernel
theorem d_M_forecast_15 : decode b_M_forecast 15 = .ok (.iload_n 2, 1) := by decide +kernel
theorem d_M_forecast_16 : decode b_M_forecast 16 = .ok (.bipush (-20), 2) := by decide +kernel
theorem d_M_forecast_18 : decode b_M_forecast 18 = .ok (.bipush 20, 2) := by decide +kernel
theorem d_M_forecast_20 : decode b_M_forecast 20 = .ok (.invokestatic 167, 3) := by decide +kernel
theorem d_M_forecast_23 : decode b_M_forecast 23 = .ok (.ifCond .eq 26, 3) := by decide +kernel
theorem d_M_forecast_26 : decode b_M_forecast 26 = .ok (.iload_n 3, 1) := by decide +kernel
theorem d_M_forecast_27 : decode b_M_forecast 27 = .ok (.bipush (-20), 2) := by decide +kernel
theorem d_M_forecast_29 : decode b_M_forecast 29 = .ok (.bipush 20, 2) := by decide +kernel
theorem d_M_forecast_31 : decode b_M_forecast 31 = .ok (.invokestatic 167, 3) := by decide +kernel
theorem d_M_forecast_34 : decode b_M_forecast 34 = .ok (.ifCond .eq 15, 3) := by decide +kernel
theorem d_M_forecast_37 : decode b_M_forecast 37 = .ok (.iload 4, 2) := by decide +kernel
theorem d_M_forecast_39 : decode b_M_forecast 39 = .ok (.bipush (-20), 2) := by decide +kernel
theorem d_M_forecast_41 : decode b_M_forecast 41 = .ok (.bipush 20, 2) := by decide +kernel
theorem d_M_forecast_43 : decode b_M_forecast 43 = .ok (.invokestatic 167, 3) := by decide +kernel
theorem d_M_forecast_46 : decode b_M_forecast 46 = .ok (.ifCond .ne 9, 3) := by decide +kernel
theorem d_M_forecast_49 : decode b_M_forecast 49 = .ok (.aload_n 0, 1) := by decide +kernel
theorem d_M_forecast_50 : decode b_M_forecast 50 = .ok (.iconst 1, 1) := by decide +kernel
theorem d_M_forecast_51 : decode b_M_forecast 51 = .ok (.invokevirtual 174, 3) := by decide +kernel
theorem d_M_forecast_54 : decode b_M_forecast 54 = .ok (.ireturn, 1) := by decide +kernel
theorem d_M_forecast_55 : decode b_M_forecast 55 = .ok (.aload_n 0, 1) := by decide +kernel
theorem d_M_forecast_56 : decode b_M_forecast 56 = .ok (.getfield 204, 3) := by decide +kernel
theorem d_M_forecast_59 : decode b_M_forecast 59 = .ok (.bipush 20, 2) := by decide +kernel
theorem d_M_forecast_61 : decode b_M_forecast 61 = .ok (.if_icmp .ne 9, 3) := by decide +kernel
theorem d_M_forecast_64 : decode b_M_forecast 64 = .ok (.aload_n 0, 1) := by decide +kernel
theorem d_M_forecast_65 : decode b_M_forecast 65 = .ok (.iconst 2, 1) := by decide +kernel
theorem d_M_forecast_66 : decode b_M_forecast 66 = .ok (.invokevirtual 174, 3) := by decide +kernel
theorem d_M_forecast_69 : decode b_M_forecast 69 = .ok (.ireturn, 1) := by decide +kernel
theorem d_M_forecast_70 : decode b_M_forecast 70 = .ok (.bipush 7, 2) := by decide +kernel
theorem d_M_forecast_72 : decode b_M_forecast 72 = .ok (.newarray .int, 2) := by decide +kernel
theorem d_M_forecast_74 : decode b_M_forecast 74 = .ok (.dup, 1) := by decide +kernel
theorem d_M_forecast_75 : decode b_M_forecast 75 = .ok (.iconst 0, 1) := by decide +kernel
theorem d_M_forecast_76 : decode b_M_forecast 76 = .ok (.aload_n 0, 1) := by decide +kernel
theorem d_M_forecast_77 : decode b_M_forecast 77 = .ok (.getfield 114, 3) := by decide +kernel
theorem d_M_forecast_80 : decode b_M_forecast 80 = .ok (.iastore, 1) := by decide +kernel
theorem d_M_forecast_81 : decode b_M_forecast 81 = .ok (.dup, 1) := by decide +kernel
theorem d_M_forecast_82 : decode b_M_forecast 82 = .ok (.iconst 1, 1) := by decide +kernel
theorem d_M_forecast_83 : decode b_M_forecast 83 = .ok (.aload_n 0, 1) := by decide +kernel
theorem d_M_forecast_84 : decode b_M_forecast 84 = .ok (.getfield 114, 3) := by decide +kernel
theorem d_M_forecast_87 : decode b_M_forecast 87 = .ok (.iload_n 1, 1) := by decide +kernel
theorem d_M_forecast_88 : decode b_M_forecast 88 = .ok (.iadd, 1) := by decide +kernel
theorem d_M_forecast_89 : decode b_M_forecast 89 = .ok (.iastore, 1) := by decide +kernel
theorem d_M_forecast_90 : decode b_M_forecast 90 = .ok (.dup, 1) := by decide +kernel
theorem d_M_forecast_91 : decode b_M_forecast 91 = .ok (.iconst 2, 1) := by decide +kernel
theorem d_M_forecast_92 : decode b_M_forecast 92 = .ok (.iload_n 2, 1) := by decide +kernel
theorem d_M_forecast_93 : decode b_M_forecast 93 = .ok (.iastore, 1) := by decide +kernel
theorem d_M_forecast_94 : decode b_M_forecast 94 = .ok (.dup, 1) := by decide +kernel
theorem d_M_forecast_95 : decode b_M_forecast 95 = .ok (.iconst 3, 1) := by decide +kernel
theorem d_M_forecast_96 : decode b_M_forecast 96 = .ok (.iload_n 3, 1) := by decide +kernel
theorem d_M_forecast_97 : decode b_M_forecast 97 = .ok (.iastore, 1) := by decide +kernel
theorem d_M_forecast_98 : decode b_M_forecast 98 = .ok (.dup, 1) := by decide +kernel
theorem d_M_forecast_99 : decode b_M_forecast 99 = .ok (.iconst 4, 1) := by decide +kernel
theorem d_M_forecast_100 : decode b_M_forecast 100 = .ok (.iload 4, 2) := by decide +kernel
theorem d_M_forecast_102 : decode b_M_forecast 102 = .ok (.iastore, 1) := by decide +kernel
theorem d_M_forecast_103 : decode b_M_forecast 103 = .ok (.dup, 1) := by decide +kernel
theorem d_M_forecast_104 : decode b_M_forecast 104 = .ok (.iconst 5, 1) := by decide +kernel
theorem d_M_forecast_105 : decode b_M_forecast 105 = .ok (.iload 5, 2) := by decide +kernel
theorem d_M_forecast_107 : decode b_M_forecast 107 = .ok (.ifCond .eq 7, 3) := by decide +kernel
theorem d_M_forecast_110 : decode b_M_forecast 110 = .ok (.iconst 1, 1) := by decide +kernel
theorem d_M_forecast_111 : decode b_M_forecast 111 = .ok (.goto 4, 3) := by decide +kernel
theorem d_M_forecast_114 : decode b_M_forecast 114 = .ok (.iconst 0, 1) := by decide +kernel
theorem d_M_forecast_115 : decode b_M_forecast 115 = .ok (.iastore, 1) := by decide +kernel
theorem d_M_forecast_116 : decode b_M_forecast 116 = .ok (.dup, 1) := by decide +kernel
theorem d_M_forecast_117 : decode b_M_forecast 117 = .ok (.bipush 6, 2) := by decide +kernel
theorem d_M_forecast_119 : decode b_M_forecast 119 = .ok (.aload_n 0, 1) := by decide +kernel
theorem d_M_forecast_120 : decode b_M_forecast 120 = .ok (.getfield 34, 3) := by decide +kernel
theorem d_M_forecast_123 : decode b_M_forecast 123 = .ok (.aload_n 0, 1) := by decide +kernel
theorem d_M_forecast_124 : decode b_M_forecast 124 = .ok (.invokevirtual 207, 3) := by decide +kernel
theorem d_M_forecast_127 : decode b_M_forecast 127 = .ok (.iadd, 1) := by decide +kernel
theorem d_M_forecast_128 : decode b_M_forecast 128 = .ok (.iastore, 1) := by decide +kernel
theorem d_M_forecast_129 : decode b_M_forecast 129 = .ok (.astore 6, 2) := by decide +kernel
theorem d_M_forecast_131 : decode b_M_forecast 131 = .ok (.aload 6, 2) := by decide +kernel
theorem d_M_forecast_133 : decode b_M_forecast 133 = .ok (.iconst 0, 1) := by decide +kernel
theorem d_M_forecast_134 : decode b_M_forecast 134 = .ok (.aload_n 0, 1) := by decide +kernel
theorem d_M_forecast_135 : decode b_M_forecast 135 = .ok (.getfield 21, 3) := by decide +kernel
theorem d_M_forecast_138 : decode b_M_forecast 138 = .ok (.aload_n 0, 1) := by decide +kernel
theorem d_M_forecast_139 : decode b_M_forecast 139 = .ok (.dup, 1) := by decide +kernel
theorem d_M_forecast_140 : decode b_M_forecast 140 = .ok (.getfield 204, 3) := by decide +kernel
theorem d_M_forecast_143 : decode b_M_forecast 143 = .ok (.dup_x1, 1) := by decide +kernel
theorem d_M_forecast_144 : decode b_M_forecast 144 = .ok (.iconst 1, 1) := by decide +kernel
theorem d_M_forecast_145 : decode b_M_forecast 145 = .ok (.iadd, 1) := by decide +kernel
theorem d_M_forecast_146 : decode b_M_forecast 146 = .ok (.putfield 204, 3) := by decide +kernel
theorem d_M_forecast_149 : decode b_M_forecast 149 = .ok (.aaload, 1) := by decide +kernel
theorem d_M_forecast_150 : decode b_M_forecast 150 = .ok (.iconst 0, 1) := by decide +kernel
theorem d_M_forecast_151 : decode b_M_forecast 151 = .ok (.bipush 7, 2) := by decide +kernel
theorem d_M_forecast_153 : decode b_M_forecast 153 = .ok (.invokestatic 210, 3) := by decide +kernel
theorem d_M_forecast_156 : decode b_M_forecast 156 = .ok (.iconst 0, 1) := by decide +kernel
theorem d_M_forecast_157 : decode b_M_forecast 157 = .ok (.istore 7, 2) := by decide +kernel
theorem d_M_forecast_159 : decode b_M_forecast 159 = .ok (.iconst 0, 1) := by decide +kernel
theorem d_M_forecast_160 : decode b_M_forecast 160 = .ok (.istore 8, 2) := by decide +kernel
theorem d_M_forecast_162 : decode b_M_forecast 162 = .ok (.iload 8, 2) := by decide +kernel
theorem d_M_forecast_164 : decode b_M_forecast 164 = .ok (.aload_n 0, 1) := by decide +kernel
theorem d_M_forecast_165 : decode b_M_forecast 165 = .ok (.getfield 10, 3) := by decide +kernel
theorem d_M_forecast_168 : decode b_M_forecast 168 = .ok (.invokeinterface 124 1, 5) := by decide +kernel
theorem d_M_forecast_173 : decode b_M_forecast 173 = .ok (.if_icmp .ge 41, 3) := by decide +kernel
theorem d_M_forecast_176 : decode b_M_forecast 176 = .ok (.iload 7, 2) := by decide +kernel
theorem d_M_forecast_178 : decode b_M_forecast 178 = .ok (.aload_n 0, 1) := by decide +kernel
theorem d_M_forecast_179 : decode b_M_forecast 179 = .ok (.getfield 10, 3) := by decide +kernel
theorem d_M_forecast_182 : decode b_M_forecast 182 = .ok (.iload 8, 2) := by decide +kernel
theorem d_M_forecast_184 : decode b_M_forecast 184 = .ok (.invokeinterface 53 2, 5) := by decide +kernel
theorem d_M_forecast_189 : decode b_M_forecast 189 = .ok (.checkcast 59, 3) := by decide +kernel
theorem d_M_forecast_192 : decode b_M_forecast 192 = .ok (.aload 6, 2) := by decide +kernel
theorem d_M_forecast_194 : decode b_M_forecast 194 = .ok (.invokestatic 216, 3) := by decide +kernel
theorem d_M_forecast_197 : decode b_M_forecast 197 = .ok (.ifCond .eq 7, 3) := by decide +kernel
theorem d_M_forecast_200 : decode b_M_forecast 200 = .ok (.iconst 1, 1) := by decide +kernel
theorem d_M_forecast_201 : decode b_M_forecast 201 = .ok (.goto 4, 3) := by decide +kernel
theorem d_M_forecast_204 : decode b_M_forecast 204 = .ok (.iconst 0, 1) := by decide +kernel
theorem d_M_forecast_205 : decode b_M_forecast 205 = .ok (.iadd, 1) := by decide +kernel
theorem d_M_forecast_206 : decode b_M_forecast 206 = .ok (.istore 7, 2) := by decide +kernel
theorem d_M_forecast_208 : decode b_M_forecast 208 = .ok (.iinc 8 1, 3) := by decide +kernel
theorem d_M_forecast_211 : decode b_M_forecast 211 = .ok (.goto (-49), 3) := by decide +kernel
theorem d_M_forecast_214 : decode b_M_forecast 214 = .ok (.iload 7, 2) := by decide +kernel
theorem d_M_forecast_216 : decode b_M_forecast 216 = .ok (.ireturn, 1) := by decide +kernel
theorem d_M_pass_0 : decode b_M_pass 0 = .ok (.aload_n 0, 1) := by decide +kernel
theorem d_M_pass_1 : decode b_M_pass 1 = .ok (.iconst 0, 1) := by decide +kernel
theorem d_M_pass_2 : decode b_M_pass 2 = .ok (.putfield 38, 3) := by decide +kernel
theorem d_M_pass_5 : decode b_M_pass 5 = .ok (.iload_n 1, 1) := by decide +kernel
theorem d_M_pass_6 : decode b_M_pass 6 = .ok (.iconst 1, 1) := by decide +kernel
theorem d_M_pass_7 : decode b_M_pass 7 = .ok (.bipush 20, 2) := by decide +kernel
theorem d_M_pass_9 : decode b_M_pass 9 = .ok (.invokestatic 167, 3) := by decide +kernel
theorem d_M_pass_12 : decode b_M_pass 12 = .ok (.ifCond .ne 9, 3) := by decide +kernel
theorem d_M_pass_15 : decode b_M_pass 15 = .ok (.aload_n 0, 1) := by decide +kernel
theorem d_M_pass_16 : decode b_M_pass 16 = .ok (.iconst 1, 1) := by decide +kernel
theorem d_M_pass_17 : decode b_M_pass 17 = .ok (.invokevirtual 174, 3) := by decide +kernel
theorem d_M_pass_20 : decode b_M_pass 20 = .ok (.ireturn, 1) := by decide +kernel
theorem d_M_pass_21 : decode b_M_pass 21 = .ok (.aload_n 0, 1) := by decide +kernel
theorem d_M_pass_22 : decode b_M_pass 22 = .ok (.getfield 114, 3) := by decide +kernel
theorem d_M_pass_25 : decode b_M_pass 25 = .ok (.iload_n 1, 1) := by decide +kernel
theorem d_M_pass_26 : decode b_M_pass 26 = .ok (.iadd, 1) := by decide +kernel
theorem d_M_pass_27 : decode b_M_pass 27 = .ok (.sipush 199, 3) := by decide +kernel
theorem d_M_pass_30 : decode b_M_pass 30 = .ok (.if_icmp .le 9, 3) := by decide +kernel
theorem d_M_pass_33 : decode b_M_pass 33 = .ok (.aload_n 0, 1) := by decide +kernel
theorem d_M_pass_34 : decode b_M_pass 34 = .ok (.iconst 2, 1) := by decide +kernel
theorem d_M_pass_35 : decode b_M_pass 35 = .ok (.invokevirtual 174, 3) := by decide +kernel
theorem d_M_pass_38 : decode b_M_pass 38 = .ok (.ireturn, 1) := by decide +kernel
theorem d_M_pass_39 : decode b_M_pass 39 = .ok (.iconst 0, 1) := by decide +kernel
theorem d_M_pass_40 : decode b_M_pass 40 = .ok (.istore_n 2, 1) := by decide +kernel
theorem d_M_pass_41 : decode b_M_pass 41 = .ok (.iconst 0, 1) := by decide +kernel
theorem d_M_pass_42 : decode b_M_pass 42 = .ok (.istore_n 3, 1) := by decide +kernel
theorem d_M_pass_43 : decode b_M_pass 43 = .ok (.iload_n 3, 1) := by decide +kernel
theorem d_M_pass_44 : decode b_M_pass 44 = .ok (.iload_n 1, 1) := by decide +kernel
theorem d_M_pass_45 : decode b_M_pass 45 = .ok (.if_icmp .ge 16, 3) := by decide +kernel
theorem d_M_pass_48 : decode b_M_pass 48 = .ok (.iload_n 2, 1) := by decide +kernel
theorem d_M_pass_49 : decode b_M_pass 49 = .ok (.aload_n 0, 1) := by decide +kernel
theorem d_M_pass_50 : decode b_M_pass 50 = .ok (.invokevirtual 220, 3) := by decide +kernel
theorem d_M_pass_53 : decode b_M_pass 53 = .ok (.iadd, 1) := by decide +kernel
theorem d_M_pass_54 : decode b_M_pass 54 = .ok (.istore_n 2, 1) := by decide +kernel
theorem d_M_pass_55 : decode b_M_pass 55 = .ok (.iinc 3 1, 3) := by decide +kernel
theorem d_M_pass_58 : decode b_M_pass 58 = .ok (.goto (-15), 3) := by decide +kernel
theorem d_M_pass_61 : decode b_M_pass 61 = .ok (.iload_n 2, 1) := by decide +kernel
theorem d_M_pass_62 : decode b_M_pass 62 = .ok (.ireturn, 1) := by decide +kernel
theorem d_M_lorry_0 : decode b_M_lorry 0 = .ok (.aload_n 0, 1) := by decide +kernel
theorem d_M_lorry_1 : decode b_M_lorry 1 = .ok (.iconst 0, 1) := by decide +kernel
theorem d_M_lorry_2 : decode b_M_lorry 2 = .ok (.putfield 38, 3) := by decide +kernel
theorem d_M_lorry_5 : decode b_M_lorry 5 = .ok (.aload_n 0, 1) := by decide +kernel
theorem d_M_lorry_6 : decode b_M_lorry 6 = .ok (.getfield 16, 3) := by decide +kernel
theorem d_M_lorry_9 : decode b_M_lorry 9 = .ok (.invokeinterface 124 1, 5) := by decide +kernel
theorem d_M_lorry_14 : decode b_M_lorry 14 = .ok (.iconst 3, 1) := by decide +kernel
theorem d_M_lorry_15 : decode b_M_lorry 15 = .ok (.if_icmp .ne 9, 3) := by decide +kernel
theorem d_M_lorry_18 : decode b_M_lorry 18 = .ok (.aload_n 0, 1) := by decide +kernel
theorem d_M_lorry_19 : decode b_M_lorry 19 = .ok (.iconst 1, 1) := by decide +kernel
theorem d_M_lorry_20 : decode b_M_lorry 20 = .ok (.invokevirtual 174, 3) := by decide +kernel
theorem d_M_lorry_23 : decode b_M_lorry 23 = .ok (.ireturn, 1) := by decide +kernel
theorem d_M_lorry_24 : decode b_M_lorry 24 = .ok (.aload_n 0, 1) := by decide +kernel
theorem d_M_lorry_25 : decode b_M_lorry 25 = .ok (.getfield 16, 3) := by decide +kernel
theorem d_M_lorry_28 : decode b_M_lorry 28 = .ok (.new 42, 3) := by decide +kernel
theorem d_M_lorry_31 : decode b_M_lorry 31 = .ok (.dup, 1) := by decide +kernel
theorem d_M_lorry_32 : decode b_M_lorry 32 = .ok (.iload_n 1, 1) := by decide +kernel
theorem d_M_lorry_33 : decode b_M_lorry 33 = .ok (.invokespecial 223, 3) := by decide +kernel
theorem d_M_lorry_36 : decode b_M_lorry 36 = .ok (.invokeinterface 181 2, 5) := by decide +kernel
theorem d_M_lorry_41 : decode b_M_lorry 41 = .ok (.pop, 1) := by decide +kernel
theorem d_M_lorry_42 : decode b_M_lorry 42 = .ok (.aload_n 0, 1) := by decide +kernel
theorem d_M_lorry_43 : decode b_M_lorry 43 = .ok (.getfield 16, 3) := by decide +kernel
theorem d_M_lorry_46 : decode b_M_lorry 46 = .ok (.invokeinterface 124 1, 5) := by decide +kernel
theorem d_M_lorry_51 : decode b_M_lorry 51 = .ok (.iconst 1, 1) := by decide +kernel
theorem d_M_lorry_52 : decode b_M_lorry 52 = .ok (.isub, 1) := by decide +kernel
theorem d_M_lorry_53 : decode b_M_lorry 53 = .ok (.ireturn, 1) := by decide +kernel
theorem d_M_rate_0 : decode b_M_rate 0 = .ok (.aload_n 0, 1) := by decide +kernel
theorem d_M_rate_1 : decode b_M_rate 1 = .ok (.iconst 0, 1) := by decide +kernel
theorem d_M_rate_2 : decode b_M_rate 2 = .ok (.putfield 38, 3) := by decide +kernel
theorem d_M_rate_5 : decode b_M_rate 5 = .ok (.aload_n 0, 1) := by decide +kernel
theorem d_M_rate_6 : decode b_M_rate 6 = .ok (.iload_n 1, 1) := by decide +kernel
theorem d_M_rate_7 : decode b_M_rate 7 = .ok (.invokevirtual 226, 3) := by decide +kernel
theorem d_M_rate_10 : decode b_M_rate 10 = .ok (.ifCond .ne 9, 3) := by decide +kernel
theorem d_M_rate_13 : decode b_M_rate 13 = .ok (.aload_n 0, 1) := by decide +kernel
theorem d_M_rate_14 : decode b_M_rate 14 = .ok (.iconst 1, 1) := by decide +kernel
theorem d_M_rate_15 : decode b_M_rate 15 = .ok (.invokevirtual 174, 3) := by decide +kernel
theorem d_M_rate_18 : decode b_M_rate 18 = .ok (.ireturn, 1) := by decide +kernel
theorem d_M_rate_19 : decode b_M_rate 19 = .ok (.iload_n 2, 1) := by decide +kernel
theorem d_M_rate_20 : decode b_M_rate 20 = .ok (.iconst 0, 1) := by decide +kernel
theorem d_M_rate_21 : decode b_M_rate 21 = .ok (.bipush 9, 2) := by decide +kernel
theorem d_M_rate_23 : decode b_M_rate 23 = .ok (.invokestatic 167, 3) := by decide +kernel
theorem d_M_rate_26 : decode b_M_rate 26 = .ok (.ifCond .ne 9, 3) := by decide +kernel
theorem d_M_rate_29 : decode b_M_rate 29 = .ok (.aload_n 0, 1) := by decide +kernel
theorem d_M_rate_30 : decode b_M_rate 30 = .ok (.iconst 2, 1) := by decide +kernel
theorem d_M_rate_31 : decode b_M_rate 31 = .ok (.invokevirtual 174, 3) := by decide +kernel
theorem d_M_rate_34 : decode b_M_rate 34 = .ok (.ireturn, 1) := by decide +kernel
theorem d_M_rate_35 : decode b_M_rate 35 = .ok (.aload_n 0, 1) := by decide +kernel
theorem d_M_rate_36 : decode b_M_rate 36 = .ok (.getfield 16, 3) := by decide +kernel
theorem d_M_rate_39 : decode b_M_rate 39 = .ok (.iload_n 1, 1) := by decide +kernel
theorem d_M_rate_40 : decode b_M_rate 40 = .ok (.invokeinterface 53 2, 5) := by decide +kernel
theorem d_M_rate_45 : decode b_M_rate 45 = .ok (.checkcast 42, 3) := by decide +kernel
theorem d_M_rate_48 : decode b_M_rate 48 = .ok (.getfield 89, 3) := by decide +kernel
theorem d_M_rate_51 : decode b_M_rate 51 = .ok (.istore_n 3, 1) := by decide +kernel
theorem d_M_rate_52 : decode b_M_rate 52 = .ok (.aload_n 0, 1) := by decide +kernel
theorem d_M_rate_53 : decode b_M_rate 53 = .ok (.getfield 16, 3) := by decide +kernel
theorem d_M_rate_56 : decode b_M_rate 56 = .ok (.iload_n 1, 1) := by decide +kernel
theorem d_M_rate_57 : decode b_M_rate 57 = .ok (.invokeinterface 53 2, 5) := by decide +kernel
theorem d_M_rate_62 : decode b_M_rate 62 = .ok (.checkcast 42, 3) := by decide +kernel
theorem d_M_rate_65 : decode b_M_rate 65 = .ok (.iload_n 2, 1) := by decide +kernel
theorem d_M_rate_66 : decode b_M_rate 66 = .ok (.putfield 89, 3) := by decide +kernel
theorem d_M_rate_69 : decode b_M_rate 69 = .ok (.iload_n 3, 1) := by decide +kernel
theorem d_M_rate_70 : decode b_M_rate 70 = .ok (.ireturn, 1) := by decide +kernel
theorem d_M_order_0 : decode b_M_order 0 = .ok (.aload_n 0, 1) := by decide +kernel
theorem d_M_order_1 : decode b_M_order 1 = .ok (.iconst 0, 1) := by decide +kernel
theorem d_M_order_2 : decode b_M_order 2 = .ok (.putfield 38, 3) := by decide +kernel
theorem d_M_order_5 : decode b_M_order 5 = .ok (.aload_n 0, 1) := by decide +kernel
theorem d_M_order_6 : decode b_M_order 6 = .ok (.iload_n 1, 1) := by decide +kernel
theorem d_M_order_7 : decode b_M_order 7 = .ok (.invokevirtual 226, 3) := by decide +kernel
theorem d_M_order_10 : decode b_M_order 10 = .ok (.ifCond .eq 11, 3) := by decide +kernel
theorem d_M_order_13 : decode b_M_order 13 = .ok (.aload_n 0, 1) := by decide +kernel
theorem d_M_order_14 : decode b_M_order 14 = .ok (.iload_n 2, 1) := by decide +kernel
theorem d_M_order_15 : decode b_M_order 15 = .ok (.invokevirtual 229, 3) := by decide +kernel
theorem d_M_order_18 : decode b_M_order 18 = .ok (.ifCond .ne 9, 3) := by decide +kernel
theorem d_M_order_21 : decode b_M_order 21 = .ok (.aload_n 0, 1) := by decide +kernel
theorem d_M_order_22 : decode b_M_order 22 = .ok (.iconst 1, 1) := by decide +kernel
theorem d_M_order_23 : decode b_M_order 23 = .ok (.invokevirtual 174, 3) := by decide +kernel
theorem d_M_order_26 : decode b_M_order 26 = .ok (.ireturn, 1) := by decide +kernel
theorem d_M_order_27 : decode b_M_order 27 = .ok (.aload_n 0, 1) := by decide +kernel
theorem d_M_order_28 : decode b_M_order 28 = .ok (.getfield 16, 3) := by decide +kernel
theorem d_M_order_31 : decode b_M_order 31 = .ok (.iload_n 1, 1) := by decide +kernel
theorem d_M_order_32 : decode b_M_order 32 = .ok (.invokeinterface 53 2, 5) := by decide +kernel
theorem d_M_order_37 : decode b_M_order 37 = .ok (.checkcast 42, 3) := by decide +kernel
theorem d_M_order_40 : decode b_M_order 40 = .ok (.astore_n 3, 1) := by decide +kernel
theorem d_M_order_41 : decode b_M_order 41 = .ok (.aload_n 3, 1) := by decide +kernel
theorem d_M_order_42 : decode b_M_order 42 = .ok (.getfield 41, 3) := by decide +kernel
theorem d_M_order_45 : decode b_M_order 45 = .ok (.bipush 8, 2) := by decide +kernel
theorem d_M_order_47 : decode b_M_order 47 = .ok (.if_icmp .ne 9, 3) := by decide +kernel
theorem d_M_order_50 : decode b_M_order 50 = .ok (.aload_n 0, 1) := by decide +kernel
theorem d_M_order_51 : decode b_M_order 51 = .ok (.iconst 2, 1) := by decide +kernel
theorem d_M_order_52 : decode b_M_order 52 = .ok (.invokevirtual 174, 3) := by decide +kernel
theorem d_M_order_55 : decode b_M_order 55 = .ok (.ireturn, 1) := by decide +kernel
theorem d_M_order_56 : decode b_M_order 56 = .ok (.aload_n 3, 1) := by decide +kernel
theorem d_M_order_57 : decode b_M_order 57 = .ok (.getfield 49, 3) := by decide +kernel
theorem d_M_order_60 : decode b_M_order 60 = .ok (.aload_n 3, 1) := by decide +kernel
theorem d_M_order_61 : decode b_M_order 61 = .ok (.dup, 1) := by decide +kernel
theorem d_M_order_62 : decode b_M_order 62 = .ok (.getfield 41, 3) := by decide +kernel
theorem d_M_order_65 : decode b_M_order 65 = .ok (.dup_x1, 1) := by decide +kernel
theorem d_M_order_66 : decode b_M_order 66 = .ok (.iconst 1, 1) := by decide +kernel
theorem d_M_order_67 : decode b_M_order 67 = .ok (.iadd, 1) := by decide +kernel
theorem d_M_order_68 : decode b_M_order 68 = .ok (.putfield 41, 3) := by decide +kernel
theorem d_M_order_71 : decode b_M_order 71 = .ok (.iload_n 2, 1) := by decide +kernel
theorem d_M_order_72 : decode b_M_order 72 = .ok (.iastore, 1) := by decide +kernel
theorem d_M_order_73 : decode b_M_order 73 = .ok (.aload_n 3, 1) := by decide +kernel
theorem d_M_order_74 : decode b_M_order 74 = .ok (.getfield 41, 3) := by decide +kernel
theorem d_M_order_77 : decode b_M_order 77 = .ok (.ireturn, 1) := by decide +kernel
theorem d_M_load_0 : decode b_M_load 0 = .ok (.aload_n 0, 1) := by decide +kernel
theorem d_M_load_1 : decode b_M_load 1 = .ok (.iconst 0, 1) := by decide +kernel
theorem d_M_load_2 : decode b_M_load 2 = .ok (.putfield 38, 3) := by decide +kernel
theorem d_M_load_5 : decode b_M_load 5 = .ok (.aload_n 0, 1) := by decide +kernel
theorem d_M_load_6 : decode b_M_load 6 = .ok (.iload_n 1, 1) := by decide +kernel
theorem d_M_load_7 : decode b_M_load 7 = .ok (.invokevirtual 226, 3) := by decide +kernel
theorem d_M_load_10 : decode b_M_load 10 = .ok (.ifCond .ne 9, 3) := by decide +kernel
theorem d_M_load_13 : decode b_M_load 13 = .ok (.aload_n 0, 1) := by decide +kernel
theorem d_M_load_14 : decode b_M_load 14 = .ok (.iconst 1, 1) := by decide +kernel
theorem d_M_load_15 : decode b_M_load 15 = .ok (.invokevirtual 174, 3) := by decide +kernel
theorem d_M_load_18 : decode b_M_load 18 = .ok (.ireturn, 1) := by decide +kernel
theorem d_M_load_19 : decode b_M_load 19 = .ok (.aload_n 0, 1) := by decide +kernel
theorem d_M_load_20 : decode b_M_load 20 = .ok (.getfield 16, 3) := by decide +kernel
theorem d_M_load_23 : decode b_M_load 23 = .ok (.iload_n 1, 1) := by decide +kernel
theorem d_M_load_24 : decode b_M_load 24 = .ok (.invokeinterface 53 2, 5) := by decide +kernel
theorem d_M_load_29 : decode b_M_load 29 = .ok (.checkcast 42, 3) := by decide +kernel
theorem d_M_load_32 : decode b_M_load 32 = .ok (.astore_n 2, 1) := by decide +kernel
theorem d_M_load_33 : decode b_M_load 33 = .ok (.aload_n 2, 1) := by decide +kernel
theorem d_M_load_34 : decode b_M_load 34 = .ok (.getfield 61, 3) := by decide +kernel
theorem d_M_load_37 : decode b_M_load 37 = .ok (.iconst (-1), 1) := by decide +kernel
theorem d_M_load_38 : decode b_M_load 38 = .ok (.if_icmp .ne 10, 3) := by decide +kernel
theorem d_M_load_41 : decode b_M_load 41 = .ok (.aload_n 2, 1) := by decide +kernel
theorem d_M_load_42 : decode b_M_load 42 = .ok (.getfield 64, 3) := by decide +kernel
theorem d_M_load_45 : decode b_M_load 45 = .ok (.ifCond .eq 9, 3) := by decide +kernel
theorem d_M_load_48 : decode b_M_load 48 = .ok (.aload_n 0, 1) := by decide +kernel
theorem d_M_load_49 : decode b_M_load 49 = .ok (.iconst 2, 1) := by decide +kernel
theorem d_M_load_50 : decode b_M_load 50 = .ok (.invokevirtual 174, 3) := by decide +kernel
theorem d_M_load_53 : decode b_M_load 53 = .ok (.ireturn, 1) := by decide +kernel
theorem d_M_load_54 : decode b_M_load 54 = .ok (.aload_n 0, 1) := by decide +kernel
theorem d_M_load_55 : decode b_M_load 55 = .ok (.getfield 34, 3) := by decide +kernel
theorem d_M_load_58 : decode b_M_load 58 = .ok (.bipush 90, 2) := by decide +kernel
theorem d_M_load_60 : decode b_M_load 60 = .ok (.aload_n 2, 1) := by decide +kernel
theorem d_M_load_61 : decode b_M_load 61 = .ok (.getfield 86, 3) := by decide +kernel
theorem d_M_load_64 : decode b_M_load 64 = .ok (.isub, 1) := by decide +kernel
theorem d_M_load_65 : decode b_M_load 65 = .ok (.invokestatic 92, 3) := by decide +kernel
theorem d_M_load_68 : decode b_M_load 68 = .ok (.istore_n 3, 1) := by decide +kernel
theorem d_M_load_69 : decode b_M_load 69 = .ok (.aload_n 2, 1) := by decide +kernel
theorem d_M_load_70 : decode b_M_load 70 = .ok (.dup, 1) := by decide +kernel
theorem d_M_load_71 : decode b_M_load 71 = .ok (.getfield 86, 3) := by decide +kernel
theorem d_M_load_74 : decode b_M_load 74 = .ok (.iload_n 3, 1) := by decide +kernel
theorem d_M_load_75 : decode b_M_load 75 = .ok (.iadd, 1) := by decide +kernel
theorem d_M_load_76 : decode b_M_load 76 = .ok (.putfield 86, 3) := by decide +kernel
theorem d_M_load_79 : decode b_M_load 79 = .ok (.aload_n 0, 1) := by decide +kernel
theorem d_M_load_80 : decode b_M_load 80 = .ok (.dup, 1) := by decide +kernel
theorem d_M_load_81 : decode b_M_load 81 = .ok (.getfield 34, 3) := by decide +kernel
theorem d_M_load_84 : decode b_M_load 84 = .ok (.iload_n 3, 1) := by decide +kernel
theorem d_M_load_85 : decode b_M_load 85 = .ok (.isub, 1) := by decide +kernel
theorem d_M_load_86 : decode b_M_load 86 = .ok (.putfield 34, 3) := by decide +kernel
theorem d_M_load_89 : decode b_M_load 89 = .ok (.iload_n 3, 1) := by decide +kernel
theorem d_M_load_90 : decode b_M_load 90 = .ok (.ireturn, 1) := by decide +kernel
theorem d_M_rest_0 : decode b_M_rest 0 = .ok (.aload_n 0, 1) := by decide +kernel
theorem d_M_rest_1 : decode b_M_rest 1 = .ok (.iconst 0, 1) := by decide +kernel
theorem d_M_rest_2 : decode b_M_rest 2 = .ok (.putfield 38, 3) := by decide +kernel
theorem d_M_rest_5 : decode b_M_rest 5 = .ok (.aload_n 0, 1) := by decide +kernel
theorem d_M_rest_6 : decode b_M_rest 6 = .ok (.iload_n 1, 1) := by decide +kernel
theorem d_M_rest_7 : decode b_M_rest 7 = .ok (.invokevirtual 226, 3) := by decide +kernel
theorem d_M_rest_10 : decode b_M_rest 10 = .ok (.ifCond .ne 9, 3) := by decide +kernel
theorem d_M_rest_13 : decode b_M_rest 13 = .ok (.aload_n 0, 1) := by decide +kernel
theorem d_M_rest_14 : decode b_M_rest 14 = .ok (.iconst 1, 1) := by decide +kernel
theorem d_M_rest_15 : decode b_M_rest 15 = .ok (.invokevirtual 174, 3) := by decide +kernel
theorem d_M_rest_18 : decode b_M_rest 18 = .ok (.ireturn, 1) := by decide +kernel
theorem d_M_rest_19 : decode b_M_rest 19 = .ok (.aload_n 0, 1) := by decide +kernel
theorem d_M_rest_20 : decode b_M_rest 20 = .ok (.getfield 16, 3) := by decide +kernel
theorem d_M_rest_23 : decode b_M_rest 23 = .ok (.iload_n 1, 1) := by decide +kernel
theorem d_M_rest_24 : decode b_M_rest 24 = .ok (.invokeinterface 53 2, 5) := by decide +kernel
theorem d_M_rest_29 : decode b_M_rest 29 = .ok (.checkcast 42, 3) := by decide +kernel
theorem d_M_rest_32 : decode b_M_rest 32 = .ok (.astore_n 2, 1) := by decide +kernel
theorem d_M_rest_33 : decode b_M_rest 33 = .ok (.aload_n 2, 1) := by decide +kernel
theorem d_M_rest_34 : decode b_M_rest 34 = .ok (.getfield 61, 3) := by decide +kernel
theorem d_M_rest_37 : decode b_M_rest 37 = .ok (.iconst (-1), 1) := by decide +kernel
theorem d_M_rest_38 : decode b_M_rest 38 = .ok (.if_icmp .eq 9, 3) := by decide +kernel
theorem d_M_rest_41 : decode b_M_rest 41 = .ok (.aload_n 0, 1) := by decide +kernel
theorem d_M_rest_42 : decode b_M_rest 42 = .ok (.iconst 2, 1) := by decide +kernel
theorem d_M_rest_43 : decode b_M_rest 43 = .ok (.invokevirtual 174, 3) := by decide +kernel
theorem d_M_rest_46 : decode b_M_rest 46 = .ok (.ireturn, 1) := by decide +kernel
theorem d_M_rest_47 : decode b_M_rest 47 = .ok (.aload_n 2, 1) := by decide +kernel
theorem d_M_rest_48 : decode b_M_rest 48 = .ok (.getfield 46, 3) := by decide +kernel
theorem d_M_rest_51 : decode b_M_rest 51 = .ok (.istore_n 3, 1) := by decide +kernel
theorem d_M_rest_52 : decode b_M_rest 52 = .ok (.aload_n 2, 1) := by decide +kernel
theorem d_M_rest_53 : decode b_M_rest 53 = .ok (.iconst 0, 1) := by decide +kernel
theorem d_M_rest_54 : decode b_M_rest 54 = .ok (.putfield 46, 3) := by decide +kernel
theorem d_M_rest_57 : decode b_M_rest 57 = .ok (.aload_n 2, 1) := by decide +kernel
theorem d_M_rest_58 : decode b_M_rest 58 = .ok (.iconst 0, 1) := by decide +kernel
theorem d_M_rest_59 : decode b_M_rest 59 = .ok (.putfield 41, 3) := by decide +kernel
theorem d_M_rest_62 : decode b_M_rest 62 = .ok (.iload_n 3, 1) := by decide +kernel
theorem d_M_rest_63 : decode b_M_rest 63 = .ok (.ireturn, 1) := by decide +kernel
theorem d_M_deliver_0 : decode b_M_deliver 0 = .ok (.aload_n 0, 1) := by decide +kernel
theorem d_M_deliver_1 : decode b_M_deliver 1 = .ok (.iconst 0, 1) := by decide +kernel
theorem d_M_deliver_2 : decode b_M_deliver 2 = .ok (.putfield 38, 3) := by decide +kernel
theorem d_M_deliver_5 : decode b_M_deliver 5 = .ok (.iload_n 1, 1) := by decide +kernel
theorem d_M_deliver_6 : decode b_M_deliver 6 = .ok (.iconst 1, 1) := by decide +kernel
theorem d_M_deliver_7 : decode b_M_deliver 7 = .ok (.sipush 500, 3) := by decide +kernel
theorem d_M_deliver_10 : decode b_M_deliver 10 = .ok (.invokestatic 167, 3) := by decide +kernel
theorem d_M_deliver_13 : decode b_M_deliver 13 = .ok (.ifCond .eq 13, 3) := by decide +kernel
theorem d_M_deliver_16 : decode b_M_deliver 16 = .ok (.iload_n 2, 1) := by decide +kernel
theorem d_M_deliver_17 : decode b_M_deliver 17 = .ok (.iconst 1, 1) := by decide +kernel
theorem d_M_deliver_18 : decode b_M_deliver 18 = .ok (.bipush 96, 2) := by decide +kernel
theorem d_M_deliver_20 : decode b_M_deliver 20 = .ok (.invokestatic 167, 3) := by decide +kernel
theorem d_M_deliver_23 : decode b_M_deliver 23 = .ok (.ifCond .ne 9, 3) := by decide +kernel
theorem d_M_deliver_26 : decode b_M_deliver 26 = .ok (.aload_n 0, 1) := by decide +kernel
theorem d_M_deliver_27 : decode b_M_deliver 27 = .ok (.iconst 1, 1) := by decide +kernel
theorem d_M_deliver_28 : decode b_M_deliver 28 = .ok (.invokevirtual 174, 3) := by decide +kernel
theorem d_M_deliver_31 : decode b_M_deliver 31 = .ok (.ireturn, 1) := by decide +kernel
theorem d_M_deliver_32 : decode b_M_deliver 32 = .ok (.aload_n 0, 1) := by decide +kernel
theorem d_M_deliver_33 : decode b_M_deliver 33 = .ok (.getfield 158, 3) := by decide +kernel
theorem d_M_deliver_36 : decode b_M_deliver 36 = .ok (.iconst 5, 1) := by decide +kernel
theorem d_M_deliver_37 : decode b_M_deliver 37 = .ok (.if_icmp .ne 9, 3) := by decide +kernel
theorem d_M_deliver_40 : decode b_M_deliver 40 = .ok (.aload_n 0, 1) := by decide +kernel
theorem d_M_deliver_41 : decode b_M_deliver 41 = .ok (.iconst 2, 1) := by decide +kernel
theorem d_M_deliver_42 : decode b_M_deliver 42 = .ok (.invokevirtual 174, 3) := by decide +kernel
theorem d_M_deliver_45 : decode b_M_deliver 45 = .ok (.ireturn, 1) := by decide +kernel
theorem d_M_deliver_46 : decode b_M_deliver 46 = .ok (.aload_n 0, 1) := by decide +kernel
theorem d_M_deliver_47 : decode b_M_deliver 47 = .ok (.getfield 24, 3) := by decide +kernel
theorem d_M_deliver_50 : decode b_M_deliver 50 = .ok (.aload_n 0, 1) := by decide +kernel
theorem d_M_deliver_51 : decode b_M_deliver 51 = .ok (.getfield 158, 3) := by decide +kernel
theorem d_M_deliver_54 : decode b_M_deliver 54 = .ok (.aaload, 1) := by decide +kernel
theorem d_M_deliver_55 : decode b_M_deliver 55 = .ok (.iconst 0, 1) := by decide +kernel
theorem d_M_deliver_56 : decode b_M_deliver 56 = .ok (.aload_n 0, 1) := by decide +kernel
theorem d_M_deliver_57 : decode b_M_deliver 57 = .ok (.getfield 114, 3) := by decide +kernel
theorem d_M_deliver_60 : decode b_M_deliver 60 = .ok (.iload_n 2, 1) := by decide +kernel
theorem d_M_deliver_61 : decode b_M_deliver 61 = .ok (.iadd, 1) := by decide +kernel
theorem d_M_deliver_62 : decode b_M_deliver 62 = .ok (.iastore, 1) := by decide +kernel
theorem d_M_deliver_63 : decode b_M_deliver 63 = .ok (.aload_n 0, 1) := by decide +kernel
theorem d_M_deliver_64 : decode b_M_deliver 64 = .ok (.getfield 24, 3) := by decide +kernel
theorem d_M_deliver_67 : decode b_M_deliver 67 = .ok (.aload_n 0, 1) := by decide +kernel
theorem d_M_deliver_68 : decode b_M_deliver 68 = .ok (.dup, 1) := by decide +kernel
theorem d_M_deliver_69 : decode b_M_deliver 69 = .ok (.getfield 158, 3) := by decide +kernel
theorem d_M_deliver_72 : decode b_M_deliver 72 = .ok (.dup_x1, 1) := by decide +kernel
theorem d_M_deliver_73 : decode b_M_deliver 73 = .ok (.iconst 1, 1) := by decide +kernel
theorem d_M_deliver_74 : decode b_M_deliver 74 = .ok (.iadd, 1) := by decide +kernel
theorem d_M_deliver_75 : decode b_M_deliver 75 = .ok (.putfield 158, 3) := by decide +kernel
theorem d_M_deliver_78 : decode b_M_deliver 78 = .ok (.aaload, 1) := by decide +kernel
theorem d_M_deliver_79 : decode b_M_deliver 79 = .ok (.iconst 1, 1) := by decide +kernel
theorem d_M_deliver_80 : decode b_M_deliver 80 = .ok (.iload_n 1, 1) := by decide +kernel
theorem d_M_deliver_81 : decode b_M_deliver 81 = .ok (.iastore, 1) := by decide +kernel
theorem d_M_deliver_82 : decode b_M_deliver 82 = .ok (.aload_n 0, 1) := by decide +kernel
theorem d_M_deliver_83 : decode b_M_deliver 83 = .ok (.getfield 158, 3) := by decide +kernel
theorem d_M_deliver_86 : decode b_M_deliver 86 = .ok (.ireturn, 1) := by decide +kernel
theorem d_M_claimNow_0 : decode b_M_claimNow 0 = .ok (.aload_n 1, 1) := by decide +kernel
theorem d_M_claimNow_1 : decode b_M_claimNow 1 = .ok (.getfield 132, 3) := by decide +kernel
theorem d_M_claimNow_4 : decode b_M_claimNow 4 = .ok (.iload_n 2, 1) := by decide +kernel
theorem d_M_claimNow_5 : decode b_M_claimNow 5 = .ok (.baload, 1) := by decide +kernel
theorem d_M_claimNow_6 : decode b_M_claimNow 6 = .ok (.ifCond .ne 5, 3) := by decide +kernel
theorem d_M_claimNow_9 : decode b_M_claimNow 9 = .ok (.iconst 0, 1) := by decide +kernel
theorem d_M_claimNow_10 : decode b_M_claimNow 10 = .ok (.ireturn, 1) := by decide +kernel
theorem d_M_claimNow_11 : decode b_M_claimNow 11 = .ok (.iconst 0, 1) := by decide +kernel
theorem d_M_claimNow_12 : decode b_M_claimNow 12 = .ok (.iload_n 2, 1) := by decide +kernel
theorem d_M_claimNow_13 : decode b_M_claimNow 13 = .ok (.bipush 12, 2) := by decide +kernel
theorem d_M_claimNow_15 : decode b_M_claimNow 15 = .ok (.isub, 1) := by decide +kernel
theorem d_M_claimNow_16 : decode b_M_claimNow 16 = .ok (.invokestatic 232, 3) := by decide +kernel
theorem d_M_claimNow_19 : decode b_M_claimNow 19 = .ok (.istore_n 3, 1) := by decide +kernel
theorem d_M_claimNow_20 : decode b_M_claimNow 20 = .ok (.iload_n 3, 1) := by decide +kernel
theorem d_M_claimNow_21 : decode b_M_claimNow 21 = .ok (.iload_n 2, 1) := by decide +kernel
theorem d_M_claimNow_22 : decode b_M_claimNow 22 = .ok (.if_icmp .gt 20, 3) := by decide +kernel
theorem d_M_claimNow_25 : decode b_M_claimNow 25 = .ok (.aload_n 1, 1) := by decide +kernel
theorem d_M_claimNow_26 : decode b_M_claimNow 26 = .ok (.getfield 120, 3) := by decide +kernel
theorem d_M_claimNow_29 : decode b_M_claimNow 29 = .ok (.iload_n 3, 1) := by decide +kernel
theorem d_M_claimNow_30 : decode b_M_claimNow 30 = .ok (.baload, 1) := by decide +kernel
theorem d_M_claimNow_31 : decode b_M_claimNow 31 = .ok (.ifCond .eq 5, 3) := by decide +kernel
theorem d_M_claimNow_34 : decode b_M_claimNow 34 = .ok (.iconst 1, 1) := by decide +kernel
theorem d_M_claimNow_35 : decode b_M_claimNow 35 = .ok (.ireturn, 1) := by decide +kernel
theorem d_M_claimNow_36 : decode b_M_claimNow 36 = .ok (.iinc 3 1, 3) := by decide +kernel
theorem d_M_claimNow_39 : decode b_M_claimNow 39 = .ok (.goto (-19), 3) := by decide +kernel
theorem d_M_claimNow_42 : decode b_M_claimNow 42 = .ok (.aload_n 1, 1) := by decide +kernel
theorem d_M_claimNow_43 : decode b_M_claimNow 43 = .ok (.getfield 235, 3) := by decide +kernel
theorem d_M_claimNow_46 : decode b_M_claimNow 46 = .ok (.ifCond .ne 7, 3) := by decide +kernel
theorem d_M_claimNow_49 : decode b_M_claimNow 49 = .ok (.iconst 4, 1) := by decide +kernel
theorem d_M_claimNow_50 : decode b_M_claimNow 50 = .ok (.goto 18, 3) := by decide +kernel
theorem d_M_claimNow_53 : decode b_M_claimNow 53 = .ok (.aload_n 1, 1) := by decide +kernel
theorem d_M_claimNow_54 : decode b_M_claimNow 54 = .ok (.getfield 235, 3) := by decide +kernel
theorem d_M_claimNow_57 : decode b_M_claimNow 57 = .ok (.iconst 1, 1) := by decide +kernel
theorem d_M_claimNow_58 : decode b_M_claimNow 58 = .ok (.if_icmp .ne 8, 3) := by decide +kernel
theorem d_M_claimNow_61 : decode b_M_claimNow 61 = .ok (.bipush 8, 2) := by decide +kernel
theorem d_M_claimNow_63 : decode b_M_claimNow 63 = .ok (.goto 5, 3) := by decide +kernel
theorem d_M_claimNow_66 : decode b_M_claimNow 66 = .ok (.bipush 16, 2) := by decide +kernel
theorem d_M_claimNow_68 : decode b_M_claimNow 68 = .ok (.istore_n 3, 1) := by decide +kernel
theorem d_M_claimNow_69 : decode b_M_claimNow 69 = .ok (.iconst (-1), 1) := by decide +kernel
theorem d_M_claimNow_70 : decode b_M_claimNow 70 = .ok (.istore 4, 2) := by decide +kernel
theorem d_M_claimNow_72 : decode b_M_claimNow 72 = .ok (.iconst 0, 1) := by decide +kernel
theorem d_M_claimNow_73 : decode b_M_claimNow 73 = .ok (.istore 5, 2) := by decide +kernel
theorem d_M_claimNow_75 : decode b_M_claimNow 75 = .ok (.iload 5, 2) := by decide +kernel
theorem d_M_claimNow_77 : decode b_M_claimNow 77 = .ok (.aload_n 0, 1) := by decide +kernel
theorem d_M_claimNow_78 : decode b_M_claimNow 78 = .ok (.getfield 204, 3) := by decide +kernel
theorem d_M_claimNow_81 : decode b_M_claimNow 81 = .ok (.if_icmp .ge 55, 3) := by decide +kernel
theorem d_M_claimNow_84 : decode b_M_claimNow 84 = .ok (.aload_n 0, 1) := by decide +kernel
theorem d_M_claimNow_85 : decode b_M_claimNow 85 = .ok (.getfield 21, 3) := by decide +kernel
theorem d_M_claimNow_88 : decode b_M_claimNow 88 = .ok (.iload 5, 2) := by decide +kernel
theorem d_M_claimNow_90 : decode b_M_claimNow 90 = .ok (.aaload, 1) := by decide +kernel
theorem d_M_claimNow_91 : decode b_M_claimNow 91 = .ok (.astore 6, 2) := by decide +kernel
theorem d_M_claimNow_93 : decode b_M_claimNow 93 = .ok (.aload 6, 2) := by decide +kernel
theorem d_M_claimNow_95 : decode b_M_claimNow 95 = .ok (.iconst 1, 1) := by decide +kernel
theorem d_M_claimNow_96 : decode b_M_claimNow 96 = .ok (.iaload, 1) := by decide +kernel
theorem d_M_claimNow_97 : decode b_M_claimNow 97 = .ok (.iload_n 2, 1) := by decide +kernel
theorem d_M_claimNow_98 : decode b_M_claimNow 98 = .ok (.iconst 4, 1) := by decide +kernel
theorem d_M_claimNow_99 : decode b_M_claimNow 99 = .ok (.isub, 1) := by decide +kernel
theorem d_M_claimNow_100 : decode b_M_claimNow 100 = .ok (.iload_n 2, 1) := by decide +kernel
theorem d_M_claimNow_101 : decode b_M_claimNow 101 = .ok (.invokestatic 167, 3) := by decide +kernel
theorem d_M_claimNow_104 : decode b_M_claimNow 104 = .ok (.ifCond .eq 26, 3) := by decide +kernel
theorem d_M_claimNow_107 : decode b_M_claimNow 107 = .ok (.aload 6, 2) := by decide +kernel
theorem d_M_claimNow_109 : decode b_M_claimNow 109 = .ok (.iconst 0, 1) := by decide +kernel
theorem d_M_claimNow_110 : decode b_M_claimNow 110 = .ok (.iaload, 1) := by decide +kernel
theorem d_M_claimNow_111 : decode b_M_claimNow 111 = .ok (.iload_n 2, 1) := by decide +kernel
theorem d_M_claimNow_112 : decode b_M_claimNow 112 = .ok (.iload_n 3, 1) := by decide +kernel
theorem d_M_claimNow_113 : decode b_M_claimNow 113 = .ok (.isub, 1) := by decide +kernel
theorem d_M_claimNow_114 : decode b_M_claimNow 114 = .ok (.if_icmp .gt 16, 3) := by decide +kernel
theorem d_M_claimNow_117 : decode b_M_claimNow 117 = .ok (.aload_n 1, 1) := by decide +kernel
theorem d_M_claimNow_118 : decode b_M_claimNow 118 = .ok (.aload 6, 2) := by decide +kernel
theorem d_M_claimNow_120 : decode b_M_claimNow 120 = .ok (.invokestatic 216, 3) := by decide +kernel
theorem d_M_claimNow_123 : decode b_M_claimNow 123 = .ok (.ifCond .eq 7, 3) := by decide +kernel
theorem d_M_claimNow_126 : decode b_M_claimNow 126 = .ok (.iload 5, 2) := by decide +kernel
theorem d_M_claimNow_128 : decode b_M_claimNow 128 = .ok (.istore 4, 2) := by decide +kernel
theorem d_M_claimNow_130 : decode b_M_claimNow 130 = .ok (.iinc 5 1, 3) := by decide +kernel
theorem d_M_claimNow_133 : decode b_M_claimNow 133 = .ok (.goto (-58), 3) := by decide +kernel
theorem d_M_claimNow_136 : decode b_M_claimNow 136 = .ok (.iload 4, 2) := by decide +kernel
theorem d_M_claimNow_138 : decode b_M_claimNow 138 = .ok (.iconst (-1), 1) := by decide +kernel
theorem d_M_claimNow_139 : decode b_M_claimNow 139 = .ok (.if_icmp .ne 7, 3) := by decide +kernel
theorem d_M_claimNow_142 : decode b_M_claimNow 142 = .ok (.iconst 2, 1) := by decide +kernel
theorem d_M_claimNow_143 : decode b_M_claimNow 143 = .ok (.goto 21, 3) := by decide +kernel
theorem d_M_claimNow_146 : decode b_M_claimNow 146 = .ok (.aload_n 0, 1) := by decide +kernel
theorem d_M_claimNow_147 : decode b_M_claimNow 147 = .ok (.getfield 21, 3) := by decide +kernel
theorem d_M_claimNow_150 : decode b_M_claimNow 150 = .ok (.iload 4, 2) := by decide +kernel
theorem d_M_claimNow_152 : decode b_M_claimNow 152 = .ok (.aaload, 1) := by decide +kernel
theorem d_M_claimNow_153 : decode b_M_claimNow 153 = .ok (.bipush 6, 2) := by decide +kernel
theorem d_M_claimNow_155 : decode b_M_claimNow 155 = .ok (.iaload, 1) := by decide +kernel
theorem d_M_claimNow_156 : decode b_M_claimNow 156 = .ok (.ifCond .ne 7, 3) := by decide +kernel
theorem d_M_claimNow_159 : decode b_M_claimNow 159 = .ok (.iconst 3, 1) := by decide +kernel
theorem d_M_claimNow_160 : decode b_M_claimNow 160 = .ok (.goto 4, 3) := by decide +kernel
theorem d_M_claimNow_163 : decode b_M_claimNow 163 = .ok (.iconst 4, 1) := by decide +kernel
theorem d_M_claimNow_164 : decode b_M_claimNow 164 = .ok (.ireturn, 1) := by decide +kernel
theorem d_M_claim_0 : decode b_M_claim 0 = .ok (.aload_n 0, 1) := by decide +kernel
theorem d_M_claim_1 : decode b_M_claim 1 = .ok (.iconst 0, 1) := by decide +kernel
theorem d_M_claim_2 : decode b_M_claim 2 = .ok (.putfield 38, 3) := by decide +kernel
theorem d_M_claim_5 : decode b_M_claim 5 = .ok (.aload_n 0, 1) := by decide +kernel
theorem d_M_claim_6 : decode b_M_claim 6 = .ok (.iload_n 1, 1) := by decide +kernel
theorem d_M_claim_7 : decode b_M_claim 7 = .ok (.invokevirtual 229, 3) := by decide +kernel
theorem d_M_claim_10 : decode b_M_claim 10 = .ok (.ifCond .ne 9, 3) := by decide +kernel
theorem d_M_claim_13 : decode b_M_claim 13 = .ok (.aload_n 0, 1) := by decide +kernel
theorem d_M_claim_14 : decode b_M_claim 14 = .ok (.iconst 1, 1) := by decide +kernel
theorem d_M_claim_15 : decode b_M_claim 15 = .ok (.invokevirtual 174, 3) := by decide +kernel
theorem d_M_claim_18 : decode b_M_claim 18 = .ok (.ireturn, 1) := by decide +kernel
theorem d_M_claim_19 : decode b_M_claim 19 = .ok (.iload_n 2, 1) := by decide +kernel
theorem d_M_claim_20 : decode b_M_claim 20 = .ok (.iconst 1, 1) := by decide +kernel
theorem d_M_claim_21 : decode b_M_claim 21 = .ok (.aload_n 0, 1) := by decide +kernel
theorem d_M_claim_22 : decode b_M_claim 22 = .ok (.getfield 114, 3) := by decide +kernel
theorem d_M_claim_25 : decode b_M_claim 25 = .ok (.invokestatic 167, 3) := by decide +kernel
theorem d_M_claim_28 : decode b_M_claim 28 = .ok (.ifCond .ne 9, 3) := by decide +kernel
theorem d_M_claim_31 : decode b_M_claim 31 = .ok (.aload_n 0, 1) := by decide +kernel
theorem d_M_claim_32 : decode b_M_claim 32 = .ok (.iconst 2, 1) := by decide +kernel
theorem d_M_claim_33 : decode b_M_claim 33 = .ok (.invokevirtual 174, 3) := by decide +kernel
theorem d_M_claim_36 : decode b_M_claim 36 = .ok (.ireturn, 1) := by decide +kernel
theorem d_M_claim_37 : decode b_M_claim 37 = .ok (.aload_n 0, 1) := by decide +kernel
theorem d_M_claim_38 : decode b_M_claim 38 = .ok (.aload_n 0, 1) := by decide +kernel
theorem d_M_claim_39 : decode b_M_claim 39 = .ok (.getfield 10, 3) := by decide +kernel
theorem d_M_claim_42 : decode b_M_claim 42 = .ok (.iload_n 1, 1) := by decide +kernel
theorem d_M_claim_43 : decode b_M_claim 43 = .ok (.invokeinterface 53 2, 5) := by decide +kernel
theorem d_M_claim_48 : decode b_M_claim 48 = .ok (.checkcast 59, 3) := by decide +kernel
theorem d_M_claim_51 : decode b_M_claim 51 = .ok (.iload_n 2, 1) := by decide +kernel
theorem d_M_claim_52 : decode b_M_claim 52 = .ok (.invokevirtual 238, 3) := by decide +kernel
theorem d_M_claim_55 : decode b_M_claim 55 = .ok (.ireturn, 1) := by decide +kernel
theorem d_M_ofRoad_0 : decode b_M_ofRoad 0 = .ok (.aload_n 0, 1) := by decide +kernel
theorem d_M_ofRoad_1 : decode b_M_ofRoad 1 = .ok (.iconst 0, 1) := by decide +kernel
theorem d_M_ofRoad_2 : decode b_M_ofRoad 2 = .ok (.putfield 38, 3) := by decide +kernel
theorem d_M_ofRoad_5 : decode b_M_ofRoad 5 = .ok (.aload_n 0, 1) := by decide +kernel
theorem d_M_ofRoad_6 : decode b_M_ofRoad 6 = .ok (.iload_n 1, 1) := by decide +kernel
theorem d_M_ofRoad_7 : decode b_M_ofRoad 7 = .ok (.invokevirtual 229, 3) := by decide +kernel
theorem d_M_ofRoad_10 : decode b_M_ofRoad 10 = .ok (.ifCond .ne 9, 3) := by decide +kernel
theorem d_M_ofRoad_13 : decode b_M_ofRoad 13 = .ok (.aload_n 0, 1) := by decide +kernel
theorem d_M_ofRoad_14 : decode b_M_ofRoad 14 = .ok (.iconst 1, 1) := by decide +kernel
theorem d_M_ofRoad_15 : decode b_M_ofRoad 15 = .ok (.invokevirtual 174, 3) := by decide +kernel
theorem d_M_ofRoad_18 : decode b_M_ofRoad 18 = .ok (.ireturn, 1) := by decide +kernel
theorem d_M_ofRoad_19 : decode b_M_ofRoad 19 = .ok (.iload_n 2, 1) := by decide +kernel
theorem d_M_ofRoad_20 : decode b_M_ofRoad 20 = .ok (.iconst 0, 1) := by decide +kernel
theorem d_M_ofRoad_21 : decode b_M_ofRoad 21 = .ok (.bipush 14, 2) := by decide +kernel
theorem d_M_ofRoad_23 : decode b_M_ofRoad 23 = .ok (.invokestatic 167, 3) := by decide +kernel
theorem d_M_ofRoad_26 : decode b_M_ofRoad 26 = .ok (.ifCond .ne 9, 3) := by decide +kernel
theorem d_M_ofRoad_29 : decode b_M_ofRoad 29 = .ok (.aload_n 0, 1) := by decide +kernel
theorem d_M_ofRoad_30 : decode b_M_ofRoad 30 = .ok (.iconst 2, 1) := by decide +kernel
theorem d_M_ofRoad_31 : decode b_M_ofRoad 31 = .ok (.invokevirtual 174, 3) := by decide +kernel
theorem d_M_ofRoad_34 : decode b_M_ofRoad 34 = .ok (.ireturn, 1) := by decide +kernel
theorem d_M_ofRoad_35 : decode b_M_ofRoad 35 = .ok (.aload_n 0, 1) := by decide +kernel
theorem d_M_ofRoad_36 : decode b_M_ofRoad 36 = .ok (.getfield 10, 3) := by decide +kernel
theorem d_M_ofRoad_39 : decode b_M_ofRoad 39 = .ok (.iload_n 1, 1) := by decide +kernel
theorem d_M_ofRoad_40 : decode b_M_ofRoad 40 = .ok (.invokeinterface 53 2, 5) := by decide +kernel
theorem d_M_ofRoad_45 : decode b_M_ofRoad 45 = .ok (.checkcast 59, 3) := by decide +kernel
theorem d_M_ofRoad_48 : decode b_M_ofRoad 48 = .ok (.iload_n 2, 1) := by decide +kernel
theorem d_M_ofRoad_49 : decode b_M_ofRoad 49 = .ok (.invokevirtual 242, 3) := by decide +kernel
theorem d_M_ofRoad_52 : decode b_M_ofRoad 52 = .ok (.ireturn, 1) := by decide +kernel
theorem d_M_ofLorry_0 : decode b_M_ofLorry 0 = .ok (.aload_n 0, 1) := by decide +kernel
theorem d_M_ofLorry_1 : decode b_M_ofLorry 1 = .ok (.iconst 0, 1) := by decide +kernel
theorem d_M_ofLorry_2 : decode b_M_ofLorry 2 = .ok (.putfield 38, 3) := by decide +kernel
theorem d_M_ofLorry_5 : decode b_M_ofLorry 5 = .ok (.aload_n 0, 1) := by decide +kernel
theorem d_M_ofLorry_6 : decode b_M_ofLorry 6 = .ok (.iload_n 1, 1) := by decide +kernel
theorem d_M_ofLorry_7 : decode b_M_ofLorry 7 = .ok (.invokevirtual 226, 3) := by decide +kernel
theorem d_M_ofLorry_10 : decode b_M_ofLorry 10 = .ok (.ifCond .ne 9, 3) := by decide +kernel
theorem d_M_ofLorry_13 : decode b_M_ofLorry 13 = .ok (.aload_n 0, 1) := by decide +kernel
theorem d_M_ofLorry_14 : decode b_M_ofLorry 14 = .ok (.iconst 1, 1) := by decide +kernel
theorem d_M_ofLorry_15 : decode b_M_ofLorry 15 = .ok (.invokevirtual 174, 3) := by decide +kernel
theorem d_M_ofLorry_18 : decode b_M_ofLorry 18 = .ok (.ireturn, 1) := by decide +kernel
theorem d_M_ofLorry_19 : decode b_M_ofLorry 19 = .ok (.iload_n 2, 1) := by decide +kernel
theorem d_M_ofLorry_20 : decode b_M_ofLorry 20 = .ok (.iconst 0, 1) := by decide +kernel
theorem d_M_ofLorry_21 : decode b_M_ofLorry 21 = .ok (.bipush 8, 2) := by decide +kernel
theorem d_M_ofLorry_23 : decode b_M_ofLorry 23 = .ok (.invokestatic 167, 3) := by decide +kernel
theorem d_M_ofLorry_26 : decode b_M_ofLorry 26 = .ok (.ifCond .ne 9, 3) := by decide +kernel
theorem d_M_ofLorry_29 : decode b_M_ofLorry 29 = .ok (.aload_n 0, 1) := by decide +kernel
theorem d_M_ofLorry_30 : decode b_M_ofLorry 30 = .ok (.iconst 2, 1) := by decide +kernel
theorem d_M_ofLorry_31 : decode b_M_ofLorry 31 = .ok (.invokevirtual 174, 3) := by decide +kernel
theorem d_M_ofLorry_34 : decode b_M_ofLorry 34 = .ok (.ireturn, 1) := by decide +kernel
theorem d_M_ofLorry_35 : decode b_M_ofLorry 35 = .ok (.aload_n 0, 1) := by decide +kernel
theorem d_M_ofLorry_36 : decode b_M_ofLorry 36 = .ok (.getfield 16, 3) := by decide +kernel
theorem d_M_ofLorry_39 : decode b_M_ofLorry 39 = .ok (.iload_n 1, 1) := by decide +kernel
theorem d_M_ofLorry_40 : decode b_M_ofLorry 40 = .ok (.invokeinterface 53 2, 5) := by decide +kernel
theorem d_M_ofLorry_45 : decode b_M_ofLorry 45 = .ok (.checkcast 42, 3) := by decide +kernel
theorem d_M_ofLorry_48 : decode b_M_ofLorry 48 = .ok (.iload_n 2, 1) := by decide +kernel
theorem d_M_ofLorry_49 : decode b_M_ofLorry 49 = .ok (.invokevirtual 245, 3) := by decide +kernel
theorem d_M_ofLorry_52 : decode b_M_ofLorry 52 = .ok (.ireturn, 1) := by decide +kernel
theorem d_M_manyNow_0 : decode b_M_manyNow 0 = .ok (.iconst 0, 1) := by decide +kernel
theorem d_M_manyNow_1 : decode b_M_manyNow 1 = .ok (.istore_n 2, 1) := by decide +kernel
theorem d_M_manyNow_2 : decode b_M_manyNow 2 = .ok (.iconst 0, 1) := by decide +kernel
theorem d_M_manyNow_3 : decode b_M_manyNow 3 = .ok (.istore_n 3, 1) := by decide +kernel
theorem d_M_manyNow_4 : decode b_M_manyNow 4 = .ok (.iconst 0, 1) := by decide +kernel
theorem d_M_manyNow_5 : decode b_M_manyNow 5 = .ok (.istore 4, 2) := by decide +kernel
theorem d_M_manyNow_7 : decode b_M_manyNow 7 = .ok (.iload 4, 2) := by decide +kernel
theorem d_M_manyNow_9 : decode b_M_manyNow 9 = .ok (.aload_n 0, 1) := by decide +kernel
theorem d_M_manyNow_10 : decode b_M_manyNow 10 = .ok (.getfield 10, 3) := by decide +kernel
theorem d_M_manyNow_13 : decode b_M_manyNow 13 = .ok (.invokeinterface 124 1, 5) := by decide +kernel
theorem d_M_manyNow_18 : decode b_M_manyNow 18 = .ok (.if_icmp .ge 62, 3) := by decide +kernel
theorem d_M_manyNow_21 : decode b_M_manyNow 21 = .ok (.iload_n 2, 1) := by decide +kernel
theorem d_M_manyNow_22 : decode b_M_manyNow 22 = .ok (.aload_n 0, 1) := by decide +kernel
theorem d_M_manyNow_23 : decode b_M_manyNow 23 = .ok (.getfield 10, 3) := by decide +kernel
theorem d_M_manyNow_26 : decode b_M_manyNow 26 = .ok (.iload 4, 2) := by decide +kernel
theorem d_M_manyNow_28 : decode b_M_manyNow 28 = .ok (.invokeinterface 53 2, 5) := by decide +kernel
theorem d_M_manyNow_33 : decode b_M_manyNow 33 = .ok (.checkcast 59, 3) := by decide +kernel
theorem d_M_manyNow_36 : decode b_M_manyNow 36 = .ok (.getfield 101, 3) := by decide +kernel
theorem d_M_manyNow_39 : decode b_M_manyNow 39 = .ok (.iadd, 1) := by decide +kernel
theorem d_M_manyNow_40 : decode b_M_manyNow 40 = .ok (.istore_n 2, 1) := by decide +kernel
theorem d_M_manyNow_41 : decode b_M_manyNow 41 = .ok (.iload_n 3, 1) := by decide +kernel
theorem d_M_manyNow_42 : decode b_M_manyNow 42 = .ok (.aload_n 0, 1) := by decide +kernel
theorem d_M_manyNow_43 : decode b_M_manyNow 43 = .ok (.getfield 10, 3) := by decide +kernel
theorem d_M_manyNow_46 : decode b_M_manyNow 46 = .ok (.iload 4, 2) := by decide +kernel
theorem d_M_manyNow_48 : decode b_M_manyNow 48 = .ok (.invokeinterface 53 2, 5) := by decide +kernel
theorem d_M_manyNow_53 : decode b_M_manyNow 53 = .ok (.checkcast 59, 3) := by decide +kernel
theorem d_M_manyNow_56 : decode b_M_manyNow 56 = .ok (.getfield 132, 3) := by decide +kernel
theorem d_M_manyNow_59 : decode b_M_manyNow 59 = .ok (.aload_n 0, 1) := by decide +kernel
theorem d_M_manyNow_60 : decode b_M_manyNow 60 = .ok (.getfield 114, 3) := by decide +kernel
theorem d_M_manyNow_63 : decode b_M_manyNow 63 = .ok (.baload, 1) := by decide +kernel
theorem d_M_manyNow_64 : decode b_M_manyNow 64 = .ok (.ifCond .eq 7, 3) := by decide +kernel
theorem d_M_manyNow_67 : decode b_M_manyNow 67 = .ok (.iconst 1, 1) := by decide +kernel
theorem d_M_manyNow_68 : decode b_M_manyNow 68 = .ok (.goto 4, 3) := by decide +kernel
theorem d_M_manyNow_71 : decode b_M_manyNow 71 = .ok (.iconst 0, 1) := by decide +kernel
theorem d_M_manyNow_72 : decode b_M_manyNow 72 = .ok (.iadd, 1) := by decide +kernel
theorem d_M_manyNow_73 : decode b_M_manyNow 73 = .ok (.istore_n 3, 1) := by decide +kernel
theorem d_M_manyNow_74 : decode b_M_manyNow 74 = .ok (.iinc 4 1, 3) := by decide +kernel
theorem d_M_manyNow_77 : decode b_M_manyNow 77 = .ok (.goto (-70), 3) := by decide +kernel
theorem d_M_manyNow_80 : decode b_M_manyNow 80 = .ok (.bipush 15, 2) := by decide +kernel
theorem d_M_manyNow_82 : decode b_M_manyNow 82 = .ok (.newarray .int, 2) := by decide +kernel
theorem d_M_manyNow_84 : decode b_M_manyNow 84 = .ok (.dup, 1) := by decide +kernel
theorem d_M_manyNow_85 : decode b_M_manyNow 85 = .ok (.iconst 0, 1) := by decide +kernel
theorem d_M_manyNow_86 : decode b_M_manyNow 86 = .ok (.aload_n 0, 1) := by decide +kernel
theorem d_M_manyNow_87 : decode b_M_manyNow 87 = .ok (.getfield 10, 3) := by decide +kernel
theorem d_M_manyNow_90 : decode b_M_manyNow 90 = .ok (.invokeinterface 124 1, 5) := by decide +kernel
theorem d_M_manyNow_95 : decode b_M_manyNow 95 = .ok (.iastore, 1) := by decide +kernel
theorem d_M_manyNow_96 : decode b_M_manyNow 96 = .ok (.dup, 1) := by decide +kernel
theorem d_M_manyNow_97 : decode b_M_manyNow 97 = .ok (.iconst 1, 1) := by decide +kernel
theorem d_M_manyNow_98 : decode b_M_manyNow 98 = .ok (.aload_n 0, 1) := by decide +kernel
theorem d_M_manyNow_99 : decode b_M_manyNow 99 = .ok (.getfield 114, 3) := by decide +kernel
theorem d_M_manyNow_102 : decode b_M_manyNow 102 = .ok (.iastore, 1) := by decide +kernel
theorem d_M_manyNow_103 : decode b_M_manyNow 103 = .ok (.dup, 1) := by decide +kernel
theorem d_M_manyNow_104 : decode b_M_manyNow 104 = .ok (.iconst 2, 1) := by decide +kernel
theorem d_M_manyNow_105 : decode b_M_manyNow 105 = .ok (.aload_n 0, 1) := by decide +kernel
theorem d_M_manyNow_106 : decode b_M_manyNow 106 = .ok (.getfield 16, 3) := by decide +kernel
theorem d_M_manyNow_109 : decode b_M_manyNow 109 = .ok (.invokeinterface 124 1, 5) := by decide +kernel
theorem d_M_manyNow_114 : decode b_M_manyNow 114 = .ok (.iastore, 1) := by decide +kernel
theorem d_M_manyNow_115 : decode b_M_manyNow 115 = .ok (.dup, 1) := by decide +kernel
theorem d_M_manyNow_116 : decode b_M_manyNow 116 = .ok (.iconst 3, 1) := by decide +kernel
theorem d_M_manyNow_117 : decode b_M_manyNow 117 = .ok (.aload_n 0, 1) := by decide +kernel
theorem d_M_manyNow_118 : decode b_M_manyNow 118 = .ok (.getfield 34, 3) := by decide +kernel
theorem d_M_manyNow_121 : decode b_M_manyNow 121 = .ok (.iastore, 1) := by decide +kernel
theorem d_M_manyNow_122 : decode b_M_manyNow 122 = .ok (.dup, 1) := by decide +kernel
theorem d_M_manyNow_123 : decode b_M_manyNow 123 = .ok (.iconst 4, 1) := by decide +kernel
theorem d_M_manyNow_124 : decode b_M_manyNow 124 = .ok (.aload_n 0, 1) := by decide +kernel
theorem d_M_manyNow_125 : decode b_M_manyNow 125 = .ok (.invokevirtual 207, 3) := by decide +kernel
theorem d_M_manyNow_128 : decode b_M_manyNow 128 = .ok (.iastore, 1) := by decide +kernel
theorem d_M_manyNow_129 : decode b_M_manyNow 129 = .ok (.dup, 1) := by decide +kernel
theorem d_M_manyNow_130 : decode b_M_manyNow 130 = .ok (.iconst 5, 1) := by decide +kernel
theorem d_M_manyNow_131 : decode b_M_manyNow 131 = .ok (.iload_n 2, 1) := by decide +kernel
theorem d_M_manyNow_132 : decode b_M_manyNow 132 = .ok (.iastore, 1) := by decide +kernel
theorem d_M_manyNow_133 : decode b_M_manyNow 133 = .ok (.dup, 1) := by decide +kernel
theorem d_M_manyNow_134 : decode b_M_manyNow 134 = .ok (.bipush 6, 2) := by decide +kernel
theorem d_M_manyNow_136 : decode b_M_manyNow 136 = .ok (.aload_n 0, 1) := by decide +kernel
theorem d_M_manyNow_137 : decode b_M_manyNow 137 = .ok (.getfield 138, 3) := by decide +kernel
theorem d_M_manyNow_140 : decode b_M_manyNow 140 = .ok (.iastore, 1) := by decide +kernel
theorem d_M_manyNow_141 : decode b_M_manyNow 141 = .ok (.dup, 1) := by decide +kernel
theorem d_M_manyNow_142 : decode b_M_manyNow 142 = .ok (.bipush 7, 2) := by decide +kernel
theorem d_M_manyNow_144 : decode b_M_manyNow 144 = .ok (.aload_n 0, 1) := by decide +kernel
theorem d_M_manyNow_145 : decode b_M_manyNow 145 = .ok (.getfield 144, 3) := by decide +kernel
theorem d_M_manyNow_148 : decode b_M_manyNow 148 = .ok (.iastore, 1) := by decide +kernel
theorem d_M_manyNow_149 : decode b_M_manyNow 149 = .ok (.dup, 1) := by decide +kernel
theorem d_M_manyNow_150 : decode b_M_manyNow 150 = .ok (.bipush 8, 2) := by decide +kernel
theorem d_M_manyNow_152 : decode b_M_manyNow 152 = .ok (.aload_n 0, 1) := by decide +kernel
theorem d_M_manyNow_153 : decode b_M_manyNow 153 = .ok (.getfield 164, 3) := by decide +kernel
theorem d_M_manyNow_156 : decode b_M_manyNow 156 = .ok (.iastore, 1) := by decide +kernel
theorem d_M_manyNow_157 : decode b_M_manyNow 157 = .ok (.dup, 1) := by decide +kernel
theorem d_M_manyNow_158 : decode b_M_manyNow 158 = .ok (.bipush 9, 2) := by decide +kernel
theorem d_M_manyNow_160 : decode b_M_manyNow 160 = .ok (.aload_n 0, 1) := by decide +kernel
theorem d_M_manyNow_161 : decode b_M_manyNow 161 = .ok (.getfield 150, 3) := by decide +kernel
theorem d_M_manyNow_164 : decode b_M_manyNow 164 = .ok (.iastore, 1) := by decide +kernel
theorem d_M_manyNow_165 : decode b_M_manyNow 165 = .ok (.dup, 1) := by decide +kernel
theorem d_M_manyNow_166 : decode b_M_manyNow 166 = .ok (.bipush 10, 2) := by decide +kernel
theorem d_M_manyNow_168 : decode b_M_manyNow 168 = .ok (.aload_n 0, 1) := by decide +kernel
theorem d_M_manyNow_169 : decode b_M_manyNow 169 = .ok (.getfield 108, 3) := by decide +kernel
theorem d_M_manyNow_172 : decode b_M_manyNow 172 = .ok (.iastore, 1) := by decide +kernel
theorem d_M_manyNow_173 : decode b_M_manyNow 173 = .ok (.dup, 1) := by decide +kernel
theorem d_M_manyNow_174 : decode b_M_manyNow 174 = .ok (.bipush 11, 2) := by decide +kernel
theorem d_M_manyNow_176 : decode b_M_manyNow 176 = .ok (.aload_n 0, 1) := by decide +kernel
theorem d_M_manyNow_177 : decode b_M_manyNow 177 = .ok (.getfield 204, 3) := by decide +kernel
theorem d_M_manyNow_180 : decode b_M_manyNow 180 = .ok (.iastore, 1) := by decide +kernel
theorem d_M_manyNow_181 : decode b_M_manyNow 181 = .ok (.dup, 1) := by decide +kernel
theorem d_M_manyNow_182 : decode b_M_manyNow 182 = .ok (.bipush 12, 2) := by decide +kernel
theorem d_M_manyNow_184 : decode b_M_manyNow 184 = .ok (.aload_n 0, 1) := by decide +kernel
theorem d_M_manyNow_185 : decode b_M_manyNow 185 = .ok (.getfield 158, 3) := by decide +kernel
theorem d_M_manyNow_188 : decode b_M_manyNow 188 = .ok (.iastore, 1) := by decide +kernel
theorem d_M_manyNow_189 : decode b_M_manyNow 189 = .ok (.dup, 1) := by decide +kernel
theorem d_M_manyNow_190 : decode b_M_manyNow 190 = .ok (.bipush 13, 2) := by decide +kernel
theorem d_M_manyNow_192 : decode b_M_manyNow 192 = .ok (.aload_n 0, 1) := by decide +kernel
theorem d_M_manyNow_193 : decode b_M_manyNow 193 = .ok (.getfield 161, 3) := by decide +kernel
theorem d_M_manyNow_196 : decode b_M_manyNow 196 = .ok (.iastore, 1) := by decide +kernel
theorem d_M_manyNow_197 : decode b_M_manyNow 197 = .ok (.dup, 1) := by decide +kernel
theorem d_M_manyNow_198 : decode b_M_manyNow 198 = .ok (.bipush 14, 2) := by decide +kernel
theorem d_M_manyNow_200 : decode b_M_manyNow 200 = .ok (.iload_n 3, 1) := by decide +kernel
theorem d_M_manyNow_201 : decode b_M_manyNow 201 = .ok (.iastore, 1) := by decide +kernel
theorem d_M_manyNow_202 : decode b_M_manyNow 202 = .ok (.astore 4, 2) := by decide +kernel
theorem d_M_manyNow_204 : decode b_M_manyNow 204 = .ok (.aload 4, 2) := by decide +kernel
theorem d_M_manyNow_206 : decode b_M_manyNow 206 = .ok (.iload_n 1, 1) := by decide +kernel
theorem d_M_manyNow_207 : decode b_M_manyNow 207 = .ok (.iaload, 1) := by decide +kernel
theorem d_M_manyNow_208 : decode b_M_manyNow 208 = .ok (.ireturn, 1) := by decide +kernel
theorem d_M_many_0 : decode b_M_many 0 = .ok (.aload_n 0, 1) := by decide +kernel
theorem d_M_many_1 : decode b_M_many 1 = .ok (.iconst 0, 1) := by decide +kernel
theorem d_M_many_2 : decode b_M_many 2 = .ok (.putfield 38, 3) := by decide +kernel
theorem d_M_many_5 : decode b_M_many 5 = .ok (.iload_n 1, 1) := by decide +kernel
theorem d_M_many_6 : decode b_M_many 6 = .ok (.iconst 0, 1) := by decide +kernel
theorem d_M_many_7 : decode b_M_many 7 = .ok (.bipush 14, 2) := by decide +kernel
theorem d_M_many_9 : decode b_M_many 9 = .ok (.invokestatic 167, 3) := by decide +kernel
theorem d_M_many_12 : decode b_M_many 12 = .ok (.ifCond .ne 9, 3) := by decide +kernel
theorem d_M_many_15 : decode b_M_many 15 = .ok (.aload_n 0, 1) := by decide +kernel
theorem d_M_many_16 : decode b_M_many 16 = .ok (.iconst 1, 1) := by decide +kernel
theorem d_M_many_17 : decode b_M_many 17 = .ok (.invokevirtual 174, 3) := by decide +kernel
theorem d_M_many_20 : decode b_M_many 20 = .ok (.ireturn, 1) := by decide +kernel
theorem d_M_many_21 : decode b_M_many 21 = .ok (.aload_n 0, 1) := by decide +kernel
theorem d_M_many_22 : decode b_M_many 22 = .ok (.iload_n 1, 1) := by decide +kernel
theorem d_M_many_23 : decode b_M_many 23 = .ok (.invokevirtual 246, 3) := by decide +kernel
theorem d_M_many_26 : decode b_M_many 26 = .ok (.ireturn, 1) := by decide +kernel
theorem d_M_wayNow_0 : decode b_M_wayNow 0 = .ok (.bipush 7, 2) := by decide +kernel
theorem d_M_wayNow_2 : decode b_M_wayNow 2 = .ok (.newarray .int, 2) := by decide +kernel
theorem d_M_wayNow_4 : decode b_M_wayNow 4 = .ok (.astore_n 3, 1) := by decide +kernel
theorem d_M_wayNow_5 : decode b_M_wayNow 5 = .ok (.iconst 0, 1) := by decide +kernel
theorem d_M_wayNow_6 : decode b_M_wayNow 6 = .ok (.istore 4, 2) := by decide +kernel
theorem d_M_wayNow_8 : decode b_M_wayNow 8 = .ok (.iload 4, 2) := by decide +kernel
theorem d_M_wayNow_10 : decode b_M_wayNow 10 = .ok (.bipush 7, 2) := by decide +kernel
theorem d_M_wayNow_12 : decode b_M_wayNow 12 = .ok (.if_icmp .ge 26, 3) := by decide +kernel
theorem d_M_wayNow_15 : decode b_M_wayNow 15 = .ok (.aload_n 3, 1) := by decide +kernel
theorem d_M_wayNow_16 : decode b_M_wayNow 16 = .ok (.iload 4, 2) := by decide +kernel
theorem d_M_wayNow_18 : decode b_M_wayNow 18 = .ok (.iload 4, 2) := by decide +kernel
theorem d_M_wayNow_20 : decode b_M_wayNow 20 = .ok (.iload_n 1, 1) := by decide +kernel
theorem d_M_wayNow_21 : decode b_M_wayNow 21 = .ok (.if_icmp .ne 7, 3) := by decide +kernel
theorem d_M_wayNow_24 : decode b_M_wayNow 24 = .ok (.iconst 0, 1) := by decide +kernel
theorem d_M_wayNow_25 : decode b_M_wayNow 25 = .ok (.goto 6, 3) := by decide +kernel
theorem d_M_wayNow_28 : decode b_M_wayNow 28 = .ok (.sipush 999, 3) := by decide +kernel
theorem d_M_wayNow_31 : decode b_M_wayNow 31 = .ok (.iastore, 1) := by decide +kernel
theorem d_M_wayNow_32 : decode b_M_wayNow 32 = .ok (.iinc 4 1, 3) := by decide +kernel
theorem d_M_wayNow_35 : decode b_M_wayNow 35 = .ok (.goto (-27), 3) := by decide +kernel
theorem d_M_wayNow_38 : decode b_M_wayNow 38 = .ok (.iconst 0, 1) := by decide +kernel
theorem d_M_wayNow_39 : decode b_M_wayNow 39 = .ok (.istore 4, 2) := by decide +kernel
theorem d_M_wayNow_41 : decode b_M_wayNow 41 = .ok (.iload 4, 2) := by decide +kernel
theorem d_M_wayNow_43 : decode b_M_wayNow 43 = .ok (.bipush 7, 2) := by decide +kernel
theorem d_M_wayNow_45 : decode b_M_wayNow 45 = .ok (.if_icmp .ge 108, 3) := by decide +kernel
theorem d_M_wayNow_48 : decode b_M_wayNow 48 = .ok (.iconst 0, 1) := by decide +kernel
theorem d_M_wayNow_49 : decode b_M_wayNow 49 = .ok (.istore 5, 2) := by decide +kernel
theorem d_M_wayNow_51 : decode b_M_wayNow 51 = .ok (.iload 5, 2) := by decide +kernel
theorem d_M_wayNow_53 : decode b_M_wayNow 53 = .ok (.aload_n 0, 1) := by decide +kernel
theorem d_M_wayNow_54 : decode b_M_wayNow 54 = .ok (.getfield 10, 3) := by decide +kernel
theorem d_M_wayNow_57 : decode b_M_wayNow 57 = .ok (.invokeinterface 124 1, 5) := by decide +kernel
theorem d_M_wayNow_62 : decode b_M_wayNow 62 = .ok (.if_icmp .ge 85, 3) := by decide +kernel
theorem d_M_wayNow_65 : decode b_M_wayNow 65 = .ok (.aload_n 0, 1) := by decide +kernel
theorem d_M_wayNow_66 : decode b_M_wayNow 66 = .ok (.getfield 10, 3) := by decide +kernel
theorem d_M_wayNow_69 : decode b_M_wayNow 69 = .ok (.iload 5, 2) := by decide +kernel
theorem d_M_wayNow_71 : decode b_M_wayNow 71 = .ok (.invokeinterface 53 2, 5) := by decide +kernel
theorem d_M_wayNow_76 : decode b_M_wayNow 76 = .ok (.checkcast 59, 3) := by decide +kernel
theorem d_M_wayNow_79 : decode b_M_wayNow 79 = .ok (.astore 6, 2) := by decide +kernel
theorem d_M_wayNow_81 : decode b_M_wayNow 81 = .ok (.aload_n 3, 1) := by decide +kernel
theorem d_M_wayNow_82 : decode b_M_wayNow 82 = .ok (.aload 6, 2) := by decide +kernel
theorem d_M_wayNow_84 : decode b_M_wayNow 84 = .ok (.getfield 80, 3) := by decide +kernel
theorem d_M_wayNow_87 : decode b_M_wayNow 87 = .ok (.aload_n 3, 1) := by decide +kernel
theorem d_M_wayNow_88 : decode b_M_wayNow 88 = .ok (.aload 6, 2) := by decide +kernel
theorem d_M_wayNow_90 : decode b_M_wayNow 90 = .ok (.getfield 80, 3) := by decide +kernel
theorem d_M_wayNow_93 : decode b_M_wayNow 93 = .ok (.iaload, 1) := by decide +kernel
theorem d_M_wayNow_94 : decode b_M_wayNow 94 = .ok (.aload_n 3, 1) := by decide +kernel
theorem d_M_wayNow_95 : decode b_M_wayNow 95 = .ok (.aload 6, 2) := by decide +kernel
theorem d_M_wayNow_97 : decode b_M_wayNow 97 = .ok (.getfield 83, 3) := by decide +kernel
theorem d_M_wayNow_100 : decode b_M_wayNow 100 = .ok (.iaload, 1) := by decide +kernel
theorem d_M_wayNow_101 : decode b_M_wayNow 101 = .ok (.aload 6, 2) := by decide +kernel
theorem d_M_wayNow_103 : decode b_M_wayNow 103 = .ok (.getfield 77, 3) := by decide +kernel
theorem d_M_wayNow_106 : decode b_M_wayNow 106 = .ok (.iadd, 1) := by decide +kernel
theorem d_M_wayNow_107 : decode b_M_wayNow 107 = .ok (.invokestatic 92, 3) := by decide +kernel
theorem d_M_wayNow_110 : decode b_M_wayNow 110 = .ok (.iastore, 1) := by decide +kernel
theorem d_M_wayNow_111 : decode b_M_wayNow 111 = .ok (.aload_n 3, 1) := by decide +kernel
theorem d_M_wayNow_112 : decode b_M_wayNow 112 = .ok (.aload 6, 2) := by decide +kernel
theorem d_M_wayNow_114 : decode b_M_wayNow 114 = .ok (.getfield 83, 3) := by decide +kernel
theorem d_M_wayNow_117 : decode b_M_wayNow 117 = .ok (.aload_n 3, 1) := by decide +kernel
theorem d_M_wayNow_118 : decode b_M_wayNow 118 = .ok (.aload 6, 2) := by decide +kernel
theorem d_M_wayNow_120 : decode b_M_wayNow 120 = .ok (.getfield 83, 3) := by decide +kernel
theorem d_M_wayNow_123 : decode b_M_wayNow 123 = .ok (.iaload, 1) := by decide +kernel
theorem d_M_wayNow_124 : decode b_M_wayNow 124 = .ok (.aload_n 3, 1) := by decide +kernel
theorem d_M_wayNow_125 : decode b_M_wayNow 125 = .ok (.aload 6, 2) := by decide +kernel
theorem d_M_wayNow_127 : decode b_M_wayNow 127 = .ok (.getfield 80, 3) := by decide +kernel
theorem d_M_wayNow_130 : decode b_M_wayNow 130 = .ok (.iaload, 1) := by decide +kernel
theorem d_M_wayNow_131 : decode b_M_wayNow 131 = .ok (.aload 6, 2) := by decide +kernel
theorem d_M_wayNow_133 : decode b_M_wayNow 133 = .ok (.getfield 77, 3) := by decide +kernel
theorem d_M_wayNow_136 : decode b_M_wayNow 136 = .ok (.iadd, 1) := by decide +kernel
theorem d_M_wayNow_137 : decode b_M_wayNow 137 = .ok (.invokestatic 92, 3) := by decide +kernel
theorem d_M_wayNow_140 : decode b_M_wayNow 140 = .ok (.iastore, 1) := by decide +kernel
theorem d_M_wayNow_141 : decode b_M_wayNow 141 = .ok (.iinc 5 1, 3) := by decide +kernel
theorem d_M_wayNow_144 : decode b_M_wayNow 144 = .ok (.goto (-93), 3) := by decide +kernel
theorem d_M_wayNow_147 : decode b_M_wayNow 147 = .ok (.iinc 4 1, 3) := by decide +kernel
theorem d_M_wayNow_150 : decode b_M_wayNow 150 = .ok (.goto (-109), 3) := by decide +kernel
theorem d_M_wayNow_153 : decode b_M_wayNow 153 = .ok (.aload_n 3, 1) := by decide +kernel
theorem d_M_wayNow_154 : decode b_M_wayNow 154 = .ok (.iload_n 2, 1) := by decide +kernel
theorem d_M_wayNow_155 : decode b_M_wayNow 155 = .ok (.iaload, 1) := by decide +kernel
theorem d_M_wayNow_156 : decode b_M_wayNow 156 = .ok (.sipush 999, 3) := by decide +kernel
theorem d_M_wayNow_159 : decode b_M_wayNow 159 = .ok (.if_icmp .ge 9, 3) := by decide +kernel
theorem d_M_wayNow_162 : decode b_M_wayNow 162 = .ok (.aload_n 3, 1) := by decide +kernel
theorem d_M_wayNow_163 : decode b_M_wayNow 163 = .ok (.iload_n 2, 1) := by decide +kernel
theorem d_M_wayNow_164 : decode b_M_wayNow 164 = .ok (.iaload, 1) := by decide +kernel
theorem d_M_wayNow_165 : decode b_M_wayNow 165 = .ok (.goto 4, 3) := by decide +kernel
theorem d_M_wayNow_168 : decode b_M_wayNow 168 = .ok (.iconst (-1), 1) := by decide +kernel
theorem d_M_wayNow_169 : decode b_M_wayNow 169 = .ok (.ireturn, 1) := by decide +kernel
theorem d_M_way_0 : decode b_M_way 0 = .ok (.aload_n 0, 1) := by decide +kernel
theorem d_M_way_1 : decode b_M_way 1 = .ok (.iconst 0, 1) := by decide +kernel
theorem d_M_way_2 : decode b_M_way 2 = .ok (.putfield 38, 3) := by decide +kernel
theorem d_M_way_5 : decode b_M_way 5 = .ok (.iload_n 1, 1) := by decide +kernel
theorem d_M_way_6 : decode b_M_way 6 = .ok (.invokestatic 171, 3) := by decide +kernel
theorem d_M_way_9 : decode b_M_way 9 = .ok (.ifCond .eq 10, 3) := by decide +kernel
theorem d_M_way_12 : decode b_M_way 12 = .ok (.iload_n 2, 1) := by decide +kernel
theorem d_M_way_13 : decode b_M_way 13 = .ok (.invokestatic 171, 3) := by decide +kernel
theorem d_M_way_16 : decode b_M_way 16 = .ok (.ifCond .ne 9, 3) := by decide +kernel
theorem d_M_way_19 : decode b_M_way 19 = .ok (.aload_n 0, 1) := by decide +kernel
theorem d_M_way_20 : decode b_M_way 20 = .ok (.iconst 1, 1) := by decide +kernel
theorem d_M_way_21 : decode b_M_way 21 = .ok (.invokevirtual 174, 3) := by decide +kernel
theorem d_M_way_24 : decode b_M_way 24 = .ok (.ireturn, 1) := by decide +kernel
theorem d_M_way_25 : decode b_M_way 25 = .ok (.aload_n 0, 1) := by decide +kernel
theorem d_M_way_26 : decode b_M_way 26 = .ok (.iload_n 1, 1) := by decide +kernel
theorem d_M_way_27 : decode b_M_way 27 = .ok (.iload_n 2, 1) := by decide +kernel
theorem d_M_way_28 : decode b_M_way 28 = .ok (.invokevirtual 249, 3) := by decide +kernel
theorem d_M_way_31 : decode b_M_way 31 = .ok (.ireturn, 1) := by decide +kernel
theorem d_M_meanWarmth_0 : decode b_M_meanWarmth 0 = .ok (.aload_n 0, 1) := by decide +kernel
theorem d_M_meanWarmth_1 : decode b_M_meanWarmth 1 = .ok (.iconst 0, 1) := by decide +kernel
theorem d_M_meanWarmth_2 : decode b_M_meanWarmth 2 = .ok (.putfield 38, 3) := by decide +kernel
theorem d_M_meanWarmth_5 : decode b_M_meanWarmth 5 = .ok (.iconst 0, 1) := by decide +kernel
theorem d_M_meanWarmth_6 : decode b_M_meanWarmth 6 = .ok (.istore_n 1, 1) := by decide +kernel
theorem d_M_meanWarmth_7 : decode b_M_meanWarmth 7 = .ok (.iconst 0, 1) := by decide +kernel
theorem d_M_meanWarmth_8 : decode b_M_meanWarmth 8 = .ok (.istore_n 2, 1) := by decide +kernel
theorem d_M_meanWarmth_9 : decode b_M_meanWarmth 9 = .ok (.iload_n 2, 1) := by decide +kernel
theorem d_M_meanWarmth_10 : decode b_M_meanWarmth 10 = .ok (.aload_n 0, 1) := by decide +kernel
theorem d_M_meanWarmth_11 : decode b_M_meanWarmth 11 = .ok (.getfield 10, 3) := by decide +kernel
theorem d_M_meanWarmth_14 : decode b_M_meanWarmth 14 = .ok (.invokeinterface 124 1, 5) := by decide +kernel
theorem d_M_meanWarmth_19 : decode b_M_meanWarmth 19 = .ok (.if_icmp .ge 28, 3) := by decide +kernel
theorem d_M_meanWarmth_22 : decode b_M_meanWarmth 22 = .ok (.iload_n 1, 1) := by decide +kernel
theorem d_M_meanWarmth_23 : decode b_M_meanWarmth 23 = .ok (.aload_n 0, 1) := by decide +kernel
theorem d_M_meanWarmth_24 : decode b_M_meanWarmth 24 = .ok (.getfield 10, 3) := by decide +kernel
theorem d_M_meanWarmth_27 : decode b_M_meanWarmth 27 = .ok (.iload_n 2, 1) := by decide +kernel
theorem d_M_meanWarmth_28 : decode b_M_meanWarmth 28 = .ok (.invokeinterface 53 2, 5) := by decide +kernel
theorem d_M_meanWarmth_33 : decode b_M_meanWarmth 33 = .ok (.checkcast 59, 3) := by decide +kernel
theorem d_M_meanWarmth_36 : decode b_M_meanWarmth 36 = .ok (.getfield 252, 3) := by decide +kernel
theorem d_M_meanWarmth_39 : decode b_M_meanWarmth 39 = .ok (.iadd, 1) := by decide +kernel
theorem d_M_meanWarmth_40 : decode b_M_meanWarmth 40 = .ok (.istore_n 1, 1) := by decide +kernel
theorem d_M_meanWarmth_41 : decode b_M_meanWarmth 41 = .ok (.iinc 2 1, 3) := by decide +kernel
theorem d_M_meanWarmth_44 : decode b_M_meanWarmth 44 = .ok (.goto (-35), 3) := by decide +kernel
theorem d_M_meanWarmth_47 : decode b_M_meanWarmth 47 = .ok (.aload_n 0, 1) := by decide +kernel
theorem d_M_meanWarmth_48 : decode b_M_meanWarmth 48 = .ok (.getfield 10, 3) := by decide +kernel
theorem d_M_meanWarmth_51 : decode b_M_meanWarmth 51 = .ok (.invokeinterface 255 1, 5) := by decide +kernel
theorem d_M_meanWarmth_56 : decode b_M_meanWarmth 56 = .ok (.ifCond .eq 7, 3) := by decide +kernel
theorem d_M_meanWarmth_59 : decode b_M_meanWarmth 59 = .ok (.dconst 0, 1) := by decide +kernel
theorem d_M_meanWarmth_60 : decode b_M_meanWarmth 60 = .ok (.goto 16, 3) := by decide +kernel
theorem d_M_meanWarmth_63 : decode b_M_meanWarmth 63 = .ok (.iload_n 1, 1) := by decide +kernel
theorem d_M_meanWarmth_64 : decode b_M_meanWarmth 64 = .ok (.i2d, 1) := by decide +kernel
theorem d_M_meanWarmth_65 : decode b_M_meanWarmth 65 = .ok (.aload_n 0, 1) := by decide +kernel
theorem d_M_meanWarmth_66 : decode b_M_meanWarmth 66 = .ok (.getfield 10, 3) := by decide +kernel
theorem d_M_meanWarmth_69 : decode b_M_meanWarmth 69 = .ok (.invokeinterface 124 1, 5) := by decide +kernel
theorem d_M_meanWarmth_74 : decode b_M_meanWarmth 74 = .ok (.i2d, 1) := by decide +kernel
theorem d_M_meanWarmth_75 : decode b_M_meanWarmth 75 = .ok (.ddiv, 1) := by decide +kernel
theorem d_M_meanWarmth_76 : decode b_M_meanWarmth 76 = .ok (.dreturn, 1) := by decide +kernel
theorem d_M_slipperyNow_0 : decode b_M_slipperyNow 0 = .ok (.aload_n 1, 1) := by decide +kernel
theorem d_M_slipperyNow_1 : decode b_M_slipperyNow 1 = .ok (.aload_n 2, 1) := by decide +kernel
theorem d_M_slipperyNow_2 : decode b_M_slipperyNow 2 = .ok (.invokevirtual 259, 3) := by decide +kernel
theorem d_M_slipperyNow_5 : decode b_M_slipperyNow 5 = .ok (.aload_n 2, 1) := by decide +kernel
theorem d_M_slipperyNow_6 : decode b_M_slipperyNow 6 = .ok (.dup, 1) := by decide +kernel
theorem d_M_slipperyNow_7 : decode b_M_slipperyNow 7 = .ok (.getfield 101, 3) := by decide +kernel
theorem d_M_slipperyNow_10 : decode b_M_slipperyNow 10 = .ok (.iload_n 3, 1) := by decide +kernel
theorem d_M_slipperyNow_11 : decode b_M_slipperyNow 11 = .ok (.iadd, 1) := by decide +kernel
theorem d_M_slipperyNow_12 : decode b_M_slipperyNow 12 = .ok (.putfield 101, 3) := by decide +kernel
theorem d_M_slipperyNow_15 : decode b_M_slipperyNow 15 = .ok (.iconst 1, 1) := by decide +kernel
theorem d_M_slipperyNow_16 : decode b_M_slipperyNow 16 = .ok (.istore 5, 2) := by decide +kernel
theorem d_M_slipperyNow_18 : decode b_M_slipperyNow 18 = .ok (.iload 5, 2) := by decide +kernel
theorem d_M_slipperyNow_20 : decode b_M_slipperyNow 20 = .ok (.iload 4, 2) := by decide +kernel
theorem d_M_slipperyNow_22 : decode b_M_slipperyNow 22 = .ok (.if_icmp .gt 23, 3) := by decide +kernel
theorem d_M_slipperyNow_25 : decode b_M_slipperyNow 25 = .ok (.aload_n 2, 1) := by decide +kernel
theorem d_M_slipperyNow_26 : decode b_M_slipperyNow 26 = .ok (.aload_n 0, 1) := by decide +kernel
theorem d_M_slipperyNow_27 : decode b_M_slipperyNow 27 = .ok (.getfield 30, 3) := by decide +kernel
theorem d_M_slipperyNow_30 : decode b_M_slipperyNow 30 = .ok (.invokevirtual 128, 3) := by decide +kernel
theorem d_M_slipperyNow_33 : decode b_M_slipperyNow 33 = .ok (.ifCond .eq 6, 3) := by decide +kernel
theorem d_M_slipperyNow_36 : decode b_M_slipperyNow 36 = .ok (.iload 5, 2) := by decide +kernel
theorem d_M_slipperyNow_38 : decode b_M_slipperyNow 38 = .ok (.ireturn, 1) := by decide +kernel
theorem d_M_slipperyNow_39 : decode b_M_slipperyNow 39 = .ok (.iinc 5 1, 3) := by decide +kernel
theorem d_M_slipperyNow_42 : decode b_M_slipperyNow 42 = .ok (.goto (-24), 3) := by decide +kernel
theorem d_M_slipperyNow_45 : decode b_M_slipperyNow 45 = .ok (.iconst (-1), 1) := by decide +kernel
theorem d_M_slipperyNow_46 : decode b_M_slipperyNow 46 = .ok (.ireturn, 1) := by decide +kernel
theorem d_M_slipperyIn_0 : decode b_M_slipperyIn 0 = .ok (.aload_n 0, 1) := by decide +kernel
theorem d_M_slipperyIn_1 : decode b_M_slipperyIn 1 = .ok (.iconst 0, 1) := by decide +kernel
theorem d_M_slipperyIn_2 : decode b_M_slipperyIn 2 = .ok (.putfield 38, 3) := by decide +kernel
theorem d_M_slipperyIn_5 : decode b_M_slipperyIn 5 = .ok (.aload_n 0, 1) := by decide +kernel
theorem d_M_slipperyIn_6 : decode b_M_slipperyIn 6 = .ok (.iload_n 1, 1) := by decide +kernel
theorem d_M_slipperyIn_7 : decode b_M_slipperyIn 7 = .ok (.invokevirtual 229, 3) := by decide +kernel
theorem d_M_slipperyIn_10 : decode b_M_slipperyIn 10 = .ok (.ifCond .ne 9, 3) := by decide +kernel
theorem d_M_slipperyIn_13 : decode b_M_slipperyIn 13 = .ok (.aload_n 0, 1) := by decide +kernel
theorem d_M_slipperyIn_14 : decode b_M_slipperyIn 14 = .ok (.iconst 1, 1) := by decide +kernel
theorem d_M_slipperyIn_15 : decode b_M_slipperyIn 15 = .ok (.invokevirtual 174, 3) := by decide +kernel
theorem d_M_slipperyIn_18 : decode b_M_slipperyIn 18 = .ok (.ireturn, 1) := by decide +kernel
theorem d_M_slipperyIn_19 : decode b_M_slipperyIn 19 = .ok (.iload_n 2, 1) := by decide +kernel
theorem d_M_slipperyIn_20 : decode b_M_slipperyIn 20 = .ok (.iconst 1, 1) := by decide +kernel
theorem d_M_slipperyIn_21 : decode b_M_slipperyIn 21 = .ok (.bipush 24, 2) := by decide +kernel
theorem d_M_slipperyIn_23 : decode b_M_slipperyIn 23 = .ok (.invokestatic 167, 3) := by decide +kernel
theorem d_M_slipperyIn_26 : decode b_M_slipperyIn 26 = .ok (.ifCond .ne 9, 3) := by decide +kernel
theorem d_M_slipperyIn_29 : decode b_M_slipperyIn 29 = .ok (.aload_n 0, 1) := by decide +kernel
theorem d_M_slipperyIn_30 : decode b_M_slipperyIn 30 = .ok (.iconst 2, 1) := by decide +kernel
theorem d_M_slipperyIn_31 : decode b_M_slipperyIn 31 = .ok (.invokevirtual 174, 3) := by decide +kernel
theorem d_M_slipperyIn_34 : decode b_M_slipperyIn 34 = .ok (.ireturn, 1) := by decide +kernel
theorem d_M_slipperyIn_35 : decode b_M_slipperyIn 35 = .ok (.aload_n 0, 1) := by decide +kernel
theorem d_M_slipperyIn_36 : decode b_M_slipperyIn 36 = .ok (.aload_n 0, 1) := by decide +kernel
theorem d_M_slipperyIn_37 : decode b_M_slipperyIn 37 = .ok (.getfield 10, 3) := by decide +kernel
theorem d_M_slipperyIn_40 : decode b_M_slipperyIn 40 = .ok (.iload_n 1, 1) := by decide +kernel
theorem d_M_slipperyIn_41 : decode b_M_slipperyIn 41 = .ok (.invokeinterface 53 2, 5) := by decide +kernel
theorem d_M_slipperyIn_46 : decode b_M_slipperyIn 46 = .ok (.checkcast 59, 3) := by decide +kernel
theorem d_M_slipperyIn_49 : decode b_M_slipperyIn 49 = .ok (.aload_n 0, 1) := by decide +kernel
theorem d_M_slipperyIn_50 : decode b_M_slipperyIn 50 = .ok (.getfield 10, 3) := by decide +kernel
theorem d_M_slipperyIn_53 : decode b_M_slipperyIn 53 = .ok (.iload_n 1, 1) := by decide +kernel
theorem d_M_slipperyIn_54 : decode b_M_slipperyIn 54 = .ok (.invokeinterface 53 2, 5) := by decide +kernel
theorem d_M_slipperyIn_59 : decode b_M_slipperyIn 59 = .ok (.checkcast 59, 3) := by decide +kernel
theorem d_M_slipperyIn_62 : decode b_M_slipperyIn 62 = .ok (.invokevirtual 263, 3) := by decide +kernel
theorem d_M_slipperyIn_65 : decode b_M_slipperyIn 65 = .ok (.iconst 0, 1) := by decide +kernel
theorem d_M_slipperyIn_66 : decode b_M_slipperyIn 66 = .ok (.iload_n 2, 1) := by decide +kernel
theorem d_M_slipperyIn_67 : decode b_M_slipperyIn 67 = .ok (.invokevirtual 267, 3) := by decide +kernel
theorem d_M_slipperyIn_70 : decode b_M_slipperyIn 70 = .ok (.ireturn, 1) := by decide +kernel
theorem d_M_saltNow_0 : decode b_M_saltNow 0 = .ok (.aload_n 1, 1) := by decide +kernel
theorem d_M_saltNow_1 : decode b_M_saltNow 1 = .ok (.invokevirtual 263, 3) := by decide +kernel
theorem d_M_saltNow_4 : decode b_M_saltNow 4 = .ok (.astore_n 3, 1) := by decide +kernel
theorem d_M_saltNow_5 : decode b_M_saltNow 5 = .ok (.iconst 0, 1) := by decide +kernel
theorem d_M_saltNow_6 : decode b_M_saltNow 6 = .ok (.istore 4, 2) := by decide +kernel
theorem d_M_saltNow_8 : decode b_M_saltNow 8 = .ok (.iload 4, 2) := by decide +kernel
theorem d_M_saltNow_10 : decode b_M_saltNow 10 = .ok (.bipush 60, 2) := by decide +kernel
theorem d_M_saltNow_12 : decode b_M_saltNow 12 = .ok (.if_icmp .gt 25, 3) := by decide +kernel
theorem d_M_saltNow_15 : decode b_M_saltNow 15 = .ok (.aload_n 0, 1) := by decide +kernel
theorem d_M_saltNow_16 : decode b_M_saltNow 16 = .ok (.aload_n 1, 1) := by decide +kernel
theorem d_M_saltNow_17 : decode b_M_saltNow 17 = .ok (.aload_n 3, 1) := by decide +kernel
theorem d_M_saltNow_18 : decode b_M_saltNow 18 = .ok (.iload 4, 2) := by decide +kernel
theorem d_M_saltNow_20 : decode b_M_saltNow 20 = .ok (.iload_n 2, 1) := by decide +kernel
theorem d_M_saltNow_21 : decode b_M_saltNow 21 = .ok (.invokevirtual 267, 3) := by decide +kernel
theorem d_M_saltNow_24 : decode b_M_saltNow 24 = .ok (.iconst (-1), 1) := by decide +kernel
theorem d_M_saltNow_25 : decode b_M_saltNow 25 = .ok (.if_icmp .ne 6, 3) := by decide +kernel
theorem d_M_saltNow_28 : decode b_M_saltNow 28 = .ok (.iload 4, 2) := by decide +kernel
theorem d_M_saltNow_30 : decode b_M_saltNow 30 = .ok (.ireturn, 1) := by decide +kernel
theorem d_M_saltNow_31 : decode b_M_saltNow 31 = .ok (.iinc 4 1, 3) := by decide +kernel
theorem d_M_saltNow_34 : decode b_M_saltNow 34 = .ok (.goto (-26), 3) := by decide +kernel
theorem d_M_saltNow_37 : decode b_M_saltNow 37 = .ok (.iconst (-1), 1) := by decide +kernel
theorem d_M_saltNow_38 : decode b_M_saltNow 38 = .ok (.ireturn, 1) := by decide +kernel
theorem d_M_saltFor_0 : decode b_M_saltFor 0 = .ok (.aload_n 0, 1) := by decide +kernel
theorem d_M_saltFor_1 : decode b_M_saltFor 1 = .ok (.iconst 0, 1) := by decide +kernel
theorem d_M_saltFor_2 : decode b_M_saltFor 2 = .ok (.putfield 38, 3) := by decide +kernel
theorem d_M_saltFor_5 : decode b_M_saltFor 5 = .ok (.aload_n 0, 1) := by decide +kernel
theorem d_M_saltFor_6 : decode b_M_saltFor 6 = .ok (.iload_n 1, 1) := by decide +kernel
theorem d_M_saltFor_7 : decode b_M_saltFor 7 = .ok (.invokevirtual 229, 3) := by decide +kernel
theorem d_M_saltFor_10 : decode b_M_saltFor 10 = .ok (.ifCond .ne 9, 3) := by decide +kernel
theorem d_M_saltFor_13 : decode b_M_saltFor 13 = .ok (.aload_n 0, 1) := by decide +kernel
theorem d_M_saltFor_14 : decode b_M_saltFor 14 = .ok (.iconst 1, 1) := by decide +kernel
theorem d_M_saltFor_15 : decode b_M_saltFor 15 = .ok (.invokevirtual 174, 3) := by decide +kernel
theorem d_M_saltFor_18 : decode b_M_saltFor 18 = .ok (.ireturn, 1) := by decide +kernel
theorem d_M_saltFor_19 : decode b_M_saltFor 19 = .ok (.iload_n 2, 1) := by decide +kernel
theorem d_M_saltFor_20 : decode b_M_saltFor 20 = .ok (.iconst 1, 1) := by decide +kernel
theorem d_M_saltFor_21 : decode b_M_saltFor 21 = .ok (.bipush 24, 2) := by decide +kernel
theorem d_M_saltFor_23 : decode b_M_saltFor 23 = .ok (.invokestatic 167, 3) := by decide +kernel
theorem d_M_saltFor_26 : decode b_M_saltFor 26 = .ok (.ifCond .ne 9, 3) := by decide +kernel
theorem d_M_saltFor_29 : decode b_M_saltFor 29 = .ok (.aload_n 0, 1) := by decide +kernel
theorem d_M_saltFor_30 : decode b_M_saltFor 30 = .ok (.iconst 2, 1) := by decide +kernel
theorem d_M_saltFor_31 : decode b_M_saltFor 31 = .ok (.invokevirtual 174, 3) := by decide +kernel
theorem d_M_saltFor_34 : decode b_M_saltFor 34 = .ok (.ireturn, 1) := by decide +kernel
theorem d_M_saltFor_35 : decode b_M_saltFor 35 = .ok (.aload_n 0, 1) := by decide +kernel
theorem d_M_saltFor_36 : decode b_M_saltFor 36 = .ok (.aload_n 0, 1) := by decide +kernel
theorem d_M_saltFor_37 : decode b_M_saltFor 37 = .ok (.getfield 10, 3) := by decide +kernel
theorem d_M_saltFor_40 : decode b_M_saltFor 40 = .ok (.iload_n 1, 1) := by decide +kernel
theorem d_M_saltFor_41 : decode b_M_saltFor 41 = .ok (.invokeinterface 53 2, 5) := by decide +kernel
theorem d_M_saltFor_46 : decode b_M_saltFor 46 = .ok (.checkcast 59, 3) := by decide +kernel
theorem d_M_saltFor_49 : decode b_M_saltFor 49 = .ok (.iload_n 2, 1) := by decide +kernel
theorem d_M_saltFor_50 : decode b_M_saltFor 50 = .ok (.invokevirtual 271, 3) := by decide +kernel
theorem d_M_saltFor_53 : decode b_M_saltFor 53 = .ok (.ireturn, 1) := by decide +kernel
theorem d_M_bestNow_0 : decode b_M_bestNow 0 = .ok (.bipush 8, 2) := by decide +kernel
theorem d_M_bestNow_2 : decode b_M_bestNow 2 = .ok (.newarray .int, 2) := by decide +kernel
theorem d_M_bestNow_4 : decode b_M_bestNow 4 = .ok (.astore_n 2, 1) := by decide +kernel
theorem d_M_bestNow_5 : decode b_M_bestNow 5 = .ok (.iconst 0, 1) := by decide +kernel
theorem d_M_bestNow_6 : decode b_M_bestNow 6 = .ok (.istore_n 3, 1) := by decide +kernel
theorem d_M_bestNow_7 : decode b_M_bestNow 7 = .ok (.iconst 0, 1) := by decide +kernel
theorem d_M_bestNow_8 : decode b_M_bestNow 8 = .ok (.istore 4, 2) := by decide +kernel
theorem d_M_bestNow_10 : decode b_M_bestNow 10 = .ok (.iload 4, 2) := by decide +kernel
theorem d_M_bestNow_12 : decode b_M_bestNow 12 = .ok (.aload_n 0, 1) := by decide +kernel
theorem d_M_bestNow_13 : decode b_M_bestNow 13 = .ok (.getfield 10, 3) := by decide +kernel
theorem d_M_bestNow_16 : decode b_M_bestNow 16 = .ok (.invokeinterface 124 1, 5) := by decide +kernel
theorem d_M_bestNow_21 : decode b_M_bestNow 21 = .ok (.if_icmp .ge 48, 3) := by decide +kernel
theorem d_M_bestNow_24 : decode b_M_bestNow 24 = .ok (.aload_n 2, 1) := by decide +kernel
theorem d_M_bestNow_25 : decode b_M_bestNow 25 = .ok (.iload 4, 2) := by decide +kernel
theorem d_M_bestNow_27 : decode b_M_bestNow 27 = .ok (.aload_n 0, 1) := by decide +kernel
theorem d_M_bestNow_28 : decode b_M_bestNow 28 = .ok (.getfield 10, 3) := by decide +kernel
theorem d_M_bestNow_31 : decode b_M_bestNow 31 = .ok (.iload 4, 2) := by decide +kernel
theorem d_M_bestNow_33 : decode b_M_bestNow 33 = .ok (.invokeinterface 53 2, 5) := by decide +kernel
theorem d_M_bestNow_38 : decode b_M_bestNow 38 = .ok (.checkcast 59, 3) := by decide +kernel
theorem d_M_bestNow_41 : decode b_M_bestNow 41 = .ok (.getfield 235, 3) := by decide +kernel
theorem d_M_bestNow_44 : decode b_M_bestNow 44 = .ok (.ifCond .ne 10, 3) := by decide +kernel
theorem d_M_bestNow_47 : decode b_M_bestNow 47 = .ok (.iconst 1, 1) := by decide +kernel
theorem d_M_bestNow_48 : decode b_M_bestNow 48 = .ok (.iload 4, 2) := by decide +kernel
theorem d_M_bestNow_50 : decode b_M_bestNow 50 = .ok (.ishl, 1) := by decide +kernel
theorem d_M_bestNow_51 : decode b_M_bestNow 51 = .ok (.goto 4, 3) := by decide +kernel
theorem d_M_bestNow_54 : decode b_M_bestNow 54 = .ok (.iconst 0, 1) := by decide +kernel
theorem d_M_bestNow_55 : decode b_M_bestNow 55 = .ok (.iastore, 1) := by decide +kernel
theorem d_M_bestNow_56 : decode b_M_bestNow 56 = .ok (.iload_n 3, 1) := by decide +kernel
theorem d_M_bestNow_57 : decode b_M_bestNow 57 = .ok (.aload_n 2, 1) := by decide +kernel
theorem d_M_bestNow_58 : decode b_M_bestNow 58 = .ok (.iload 4, 2) := by decide +kernel
theorem d_M_bestNow_60 : decode b_M_bestNow 60 = .ok (.iaload, 1) := by decide +kernel
theorem d_M_bestNow_61 : decode b_M_bestNow 61 = .ok (.ior, 1) := by decide +kernel
theorem d_M_bestNow_62 : decode b_M_bestNow 62 = .ok (.istore_n 3, 1) := by decide +kernel
theorem d_M_bestNow_63 : decode b_M_bestNow 63 = .ok (.iinc 4 1, 3) := by decide +kernel
theorem d_M_bestNow_66 : decode b_M_bestNow 66 = .ok (.goto (-56), 3) := by decide +kernel
theorem d_M_bestNow_69 : decode b_M_bestNow 69 = .ok (.iload_n 3, 1) := by decide +kernel
theorem d_M_bestNow_70 : decode b_M_bestNow 70 = .ok (.ifCond .ne 5, 3) := by decide +kernel
theorem d_M_bestNow_73 : decode b_M_bestNow 73 = .ok (.iconst 1, 1) := by decide +kernel
theorem d_M_bestNow_74 : decode b_M_bestNow 74 = .ok (.ireturn, 1) := by decide +kernel
theorem d_M_bestNow_75 : decode b_M_bestNow 75 = .ok (.sipush 1792, 3) := by decide +kernel
theorem d_M_bestNow_78 : decode b_M_bestNow 78 = .ok (.newarray .int, 2) := by decide +kernel
theorem d_M_bestNow_80 : decode b_M_bestNow 80 = .ok (.astore 4, 2) := by decide +kernel
theorem d_M_bestNow_82 : decode b_M_bestNow 82 = .ok (.sipush 1792, 3) := by decide +kernel
theorem d_M_bestNow_85 : decode b_M_bestNow 85 = .ok (.newarray .int, 2) := by decide +kernel
theorem d_M_bestNow_87 : decode b_M_bestNow 87 = .ok (.astore 5, 2) := by decide +kernel
theorem d_M_bestNow_89 : decode b_M_bestNow 89 = .ok (.iconst 0, 1) := by decide +kernel
theorem d_M_bestNow_90 : decode b_M_bestNow 90 = .ok (.istore 6, 2) := by decide +kernel
theorem d_M_bestNow_92 : decode b_M_bestNow 92 = .ok (.iload 6, 2) := by decide +kernel
theorem d_M_bestNow_94 : decode b_M_bestNow 94 = .ok (.aload 4, 2) := by decide +kernel
theorem d_M_bestNow_96 : decode b_M_bestNow 96 = .ok (.arraylength, 1) := by decide +kernel
theorem d_M_bestNow_97 : decode b_M_bestNow 97 = .ok (.if_icmp .ge 17, 3) := by decide +kernel
theorem d_M_bestNow_100 : decode b_M_bestNow 100 = .ok (.aload 4, 2) := by decide +kernel
theorem d_M_bestNow_102 : decode b_M_bestNow 102 = .ok (.iload 6, 2) := by decide +kernel
theorem d_M_bestNow_104 : decode b_M_bestNow 104 = .ok (.sipush 999, 3) := by decide +kernel
theorem d_M_bestNow_107 : decode b_M_bestNow 107 = .ok (.iastore, 1) := by decide +kernel
theorem d_M_bestNow_108 : decode b_M_bestNow 108 = .ok (.iinc 6 1, 3) := by decide +kernel
theorem d_M_bestNow_111 : decode b_M_bestNow 111 = .ok (.goto (-19), 3) := by decide +kernel
theorem d_M_bestNow_114 : decode b_M_bestNow 114 = .ok (.aload 4, 2) := by decide +kernel
theorem d_M_bestNow_116 : decode b_M_bestNow 116 = .ok (.sipush 256, 3) := by decide +kernel
theorem d_M_bestNow_119 : decode b_M_bestNow 119 = .ok (.iload_n 1, 1) := by decide +kernel
theorem d_M_bestNow_120 : decode b_M_bestNow 120 = .ok (.imul, 1) := by decide +kernel
theorem d_M_bestNow_121 : decode b_M_bestNow 121 = .ok (.iconst 0, 1) := by decide +kernel
theorem d_M_bestNow_122 : decode b_M_bestNow 122 = .ok (.iastore, 1) := by decide +kernel
theorem d_M_bestNow_123 : decode b_M_bestNow 123 = .ok (.aload 5, 2) := by decide +kernel
theorem d_M_bestNow_125 : decode b_M_bestNow 125 = .ok (.sipush 256, 3) := by decide +kernel
theorem d_M_bestNow_128 : decode b_M_bestNow 128 = .ok (.iload_n 1, 1) := by decide +kernel
theorem d_M_bestNow_129 : decode b_M_bestNow 129 = .ok (.imul, 1) := by decide +kernel
theorem d_M_bestNow_130 : decode b_M_bestNow 130 = .ok (.iconst 1, 1) := by decide +kernel
theorem d_M_bestNow_131 : decode b_M_bestNow 131 = .ok (.iastore, 1) := by decide +kernel
theorem d_M_bestNow_132 : decode b_M_bestNow 132 = .ok (.iconst 0, 1) := by decide +kernel
theorem d_M_bestNow_133 : decode b_M_bestNow 133 = .ok (.istore 6, 2) := by decide +kernel
theorem d_M_bestNow_135 : decode b_M_bestNow 135 = .ok (.sipush 999, 3) := by decide +kernel
theorem d_M_bestNow_138 : decode b_M_bestNow 138 = .ok (.istore 7, 2) := by decide +kernel
theorem d_M_bestNow_140 : decode b_M_bestNow 140 = .ok (.iconst 0, 1) := by decide +kernel
theorem d_M_bestNow_141 : decode b_M_bestNow 141 = .ok (.istore 8, 2) := by decide +kernel
theorem d_M_bestNow_143 : decode b_M_bestNow 143 = .ok (.iload 8, 2) := by decide +kernel
theorem d_M_bestNow_145 : decode b_M_bestNow 145 = .ok (.bipush 6, 2) := by decide +kernel
theorem d_M_bestNow_147 : decode b_M_bestNow 147 = .ok (.if_icmp .ge 333, 3) := by decide +kernel
theorem d_M_bestNow_150 : decode b_M_bestNow 150 = .ok (.sipush 1792, 3) := by decide +kernel
theorem d_M_bestNow_153 : decode b_M_bestNow 153 = .ok (.newarray .int, 2) := by decide +kernel
theorem d_M_bestNow_155 : decode b_M_bestNow 155 = .ok (.astore 9, 2) := by decide +kernel
theorem d_M_bestNow_157 : decode b_M_bestNow 157 = .ok (.sipush 1792, 3) := by decide +kernel
theorem d_M_bestNow_160 : decode b_M_bestNow 160 = .ok (.newarray .int, 2) := by decide +kernel
theorem d_M_bestNow_162 : decode b_M_bestNow 162 = .ok (.astore 10, 2) := by decide +kernel
theorem d_M_bestNow_164 : decode b_M_bestNow 164 = .ok (.iconst 0, 1) := by decide +kernel
theorem d_M_bestNow_165 : decode b_M_bestNow 165 = .ok (.istore 11, 2) := by decide +kernel
theorem d_M_bestNow_167 : decode b_M_bestNow 167 = .ok (.iload 11, 2) := by decide +kernel
theorem d_M_bestNow_169 : decode b_M_bestNow 169 = .ok (.aload 4, 2) := by decide +kernel
theorem d_M_bestNow_171 : decode b_M_bestNow 171 = .ok (.arraylength, 1) := by decide +kernel
theorem d_M_bestNow_172 : decode b_M_bestNow 172 = .ok (.if_icmp .ge 17, 3) := by decide +kernel
theorem d_M_bestNow_175 : decode b_M_bestNow 175 = .ok (.aload 9, 2) := by decide +kernel
theorem d_M_bestNow_177 : decode b_M_bestNow 177 = .ok (.iload 11, 2) := by decide +kernel
theorem d_M_bestNow_179 : decode b_M_bestNow 179 = .ok (.sipush 999, 3) := by decide +kernel
theorem d_M_bestNow_182 : decode b_M_bestNow 182 = .ok (.iastore, 1) := by decide +kernel
theorem d_M_bestNow_183 : decode b_M_bestNow 183 = .ok (.iinc 11 1, 3) := by decide +kernel
theorem d_M_bestNow_186 : decode b_M_bestNow 186 = .ok (.goto (-19), 3) := by decide +kernel
theorem d_M_bestNow_189 : decode b_M_bestNow 189 = .ok (.iconst 0, 1) := by decide +kernel
theorem d_M_bestNow_190 : decode b_M_bestNow 190 = .ok (.istore 11, 2) := by decide +kernel
theorem d_M_bestNow_192 : decode b_M_bestNow 192 = .ok (.iload 11, 2) := by decide +kernel
theorem d_M_bestNow_194 : decode b_M_bestNow 194 = .ok (.aload 4, 2) := by decide +kernel
theorem d_M_bestNow_196 : decode b_M_bestNow 196 = .ok (.arraylength, 1) := by decide +kernel
theorem d_M_bestNow_197 : decode b_M_bestNow 197 = .ok (.if_icmp .ge 185, 3) := by decide +kernel
theorem d_M_bestNow_200 : decode b_M_bestNow 200 = .ok (.iconst 0, 1) := by decide +kernel
theorem d_M_bestNow_201 : decode b_M_bestNow 201 = .ok (.istore 12, 2) := by decide +kernel
theorem d_M_bestNow_203 : decode b_M_bestNow 203 = .ok (.iload 12, 2) := by decide +kernel
theorem d_M_bestNow_205 : decode b_M_bestNow 205 = .ok (.aload_n 0, 1) := by decide +kernel
theorem d_M_bestNow_206 : decode b_M_bestNow 206 = .ok (.getfield 10, 3) := by decide +kernel
theorem d_M_bestNow_209 : decode b_M_bestNow 209 = .ok (.invokeinterface 124 1, 5) := by decide +kernel
theorem d_M_bestNow_214 : decode b_M_bestNow 214 = .ok (.if_icmp .ge 162, 3) := by decide +kernel
theorem d_M_bestNow_217 : decode b_M_bestNow 217 = .ok (.aload 4, 2) := by decide +kernel
theorem d_M_bestNow_219 : decode b_M_bestNow 219 = .ok (.iload 11, 2) := by decide +kernel
theorem d_M_bestNow_221 : decode b_M_bestNow 221 = .ok (.iaload, 1) := by decide +kernel
theorem d_M_bestNow_222 : decode b_M_bestNow 222 = .ok (.sipush 999, 3) := by decide +kernel
theorem d_M_bestNow_225 : decode b_M_bestNow 225 = .ok (.if_icmp .ge 151, 3) := by decide +kernel
theorem d_M_bestNow_228 : decode b_M_bestNow 228 = .ok (.aload_n 0, 1) := by decide +kernel
theorem d_M_bestNow_229 : decode b_M_bestNow 229 = .ok (.getfield 10, 3) := by decide +kernel
theorem d_M_bestNow_232 : decode b_M_bestNow 232 = .ok (.iload 12, 2) := by decide +kernel
theorem d_M_bestNow_234 : decode b_M_bestNow 234 = .ok (.invokeinterface 53 2, 5) := by decide +kernel
theorem d_M_bestNow_239 : decode b_M_bestNow 239 = .ok (.checkcast 59, 3) := by decide +kernel
theorem d_M_bestNow_242 : decode b_M_bestNow 242 = .ok (.astore 13, 2) := by decide +kernel
theorem d_M_bestNow_244 : decode b_M_bestNow 244 = .ok (.aload 13, 2) := by decide +kernel
theorem d_M_bestNow_246 : decode b_M_bestNow 246 = .ok (.iload 11, 2) := by decide +kernel
theorem d_M_bestNow_248 : decode b_M_bestNow 248 = .ok (.sipush 256, 3) := by decide +kernel
theorem d_M_bestNow_251 : decode b_M_bestNow 251 = .ok (.idiv, 1) := by decide +kernel
theorem d_M_bestNow_252 : decode b_M_bestNow 252 = .ok (.invokevirtual 67, 3) := by decide +kernel
theorem d_M_bestNow_255 : decode b_M_bestNow 255 = .ok (.ifCond .ne 6, 3) := by decide +kernel
theorem d_M_bestNow_258 : decode b_M_bestNow 258 = .ok (.goto 112, 3) := by decide +kernel
theorem d_M_bestNow_261 : decode b_M_bestNow 261 = .ok (.sipush 256, 3) := by decide +kernel
theorem d_M_bestNow_264 : decode b_M_bestNow 264 = .ok (.aload 13, 2) := by decide +kernel
theorem d_M_bestNow_266 : decode b_M_bestNow 266 = .ok (.getfield 80, 3) := by decide +kernel
theorem d_M_bestNow_269 : decode b_M_bestNow 269 = .ok (.aload 13, 2) := by decide +kernel
theorem d_M_bestNow_271 : decode b_M_bestNow 271 = .ok (.getfield 83, 3) := by decide +kernel
theorem d_M_bestNow_274 : decode b_M_bestNow 274 = .ok (.iadd, 1) := by decide +kernel
theorem d_M_bestNow_275 : decode b_M_bestNow 275 = .ok (.iload 11, 2) := by decide +kernel
theorem d_M_bestNow_277 : decode b_M_bestNow 277 = .ok (.sipush 256, 3) := by decide +kernel
theorem d_M_bestNow_280 : decode b_M_bestNow 280 = .ok (.idiv, 1) := by decide +kernel
theorem d_M_bestNow_281 : decode b_M_bestNow 281 = .ok (.isub, 1) := by decide +kernel
theorem d_M_bestNow_282 : decode b_M_bestNow 282 = .ok (.imul, 1) := by decide +kernel
theorem d_M_bestNow_283 : decode b_M_bestNow 283 = .ok (.iload 11, 2) := by decide +kernel
theorem d_M_bestNow_285 : decode b_M_bestNow 285 = .ok (.sipush 256, 3) := by decide +kernel
theorem d_M_bestNow_288 : decode b_M_bestNow 288 = .ok (.irem, 1) := by decide +kernel
theorem d_M_bestNow_289 : decode b_M_bestNow 289 = .ok (.aload_n 2, 1) := by decide +kernel
theorem d_M_bestNow_290 : decode b_M_bestNow 290 = .ok (.iload 12, 2) := by decide +kernel
theorem d_M_bestNow_292 : decode b_M_bestNow 292 = .ok (.iaload, 1) := by decide +kernel
theorem d_M_bestNow_293 : decode b_M_bestNow 293 = .ok (.ior, 1) := by decide +kernel
theorem d_M_bestNow_294 : decode b_M_bestNow 294 = .ok (.iadd, 1) := by decide +kernel
theorem d_M_bestNow_295 : decode b_M_bestNow 295 = .ok (.istore 14, 2) := by decide +kernel
theorem d_M_bestNow_297 : decode b_M_bestNow 297 = .ok (.aload 4, 2) := by decide +kernel
theorem d_M_bestNow_299 : decode b_M_bestNow 299 = .ok (.iload 11, 2) := by decide +kernel
theorem d_M_bestNow_301 : decode b_M_bestNow 301 = .ok (.iaload, 1) := by decide +kernel
theorem d_M_bestNow_302 : decode b_M_bestNow 302 = .ok (.aload 13, 2) := by decide +kernel
theorem d_M_bestNow_304 : decode b_M_bestNow 304 = .ok (.getfield 77, 3) := by decide +kernel
theorem d_M_bestNow_307 : decode b_M_bestNow 307 = .ok (.iadd, 1) := by decide +kernel
theorem d_M_bestNow_308 : decode b_M_bestNow 308 = .ok (.istore 15, 2) := by decide +kernel
theorem d_M_bestNow_310 : decode b_M_bestNow 310 = .ok (.bipush 10, 2) := by decide +kernel
theorem d_M_bestNow_312 : decode b_M_bestNow 312 = .ok (.aload 5, 2) := by decide +kernel
theorem d_M_bestNow_314 : decode b_M_bestNow 314 = .ok (.iload 11, 2) := by decide +kernel
theorem d_M_bestNow_316 : decode b_M_bestNow 316 = .ok (.iaload, 1) := by decide +kernel
theorem d_M_bestNow_317 : decode b_M_bestNow 317 = .ok (.imul, 1) := by decide +kernel
theorem d_M_bestNow_318 : decode b_M_bestNow 318 = .ok (.iload 12, 2) := by decide +kernel
theorem d_M_bestNow_320 : decode b_M_bestNow 320 = .ok (.iadd, 1) := by decide +kernel
theorem d_M_bestNow_321 : decode b_M_bestNow 321 = .ok (.istore 16, 2) := by decide +kernel
theorem d_M_bestNow_323 : decode b_M_bestNow 323 = .ok (.iload 15, 2) := by decide +kernel
theorem d_M_bestNow_325 : decode b_M_bestNow 325 = .ok (.aload 9, 2) := by decide +kernel
theorem d_M_bestNow_327 : decode b_M_bestNow 327 = .ok (.iload 14, 2) := by decide +kernel
theorem d_M_bestNow_329 : decode b_M_bestNow 329 = .ok (.iaload, 1) := by decide +kernel
theorem d_M_bestNow_330 : decode b_M_bestNow 330 = .ok (.if_icmp .gt 40, 3) := by decide +kernel
theorem d_M_bestNow_333 : decode b_M_bestNow 333 = .ok (.iload 15, 2) := by decide +kernel
theorem d_M_bestNow_335 : decode b_M_bestNow 335 = .ok (.aload 9, 2) := by decide +kernel
theorem d_M_bestNow_337 : decode b_M_bestNow 337 = .ok (.iload 14, 2) := by decide +kernel
theorem d_M_bestNow_339 : decode b_M_bestNow 339 = .ok (.iaload, 1) := by decide +kernel
theorem d_M_bestNow_340 : decode b_M_bestNow 340 = .ok (.if_icmp .ne 16, 3) := by decide +kernel
theorem d_M_bestNow_343 : decode b_M_bestNow 343 = .ok (.iload 16, 2) := by decide +kernel
theorem d_M_bestNow_345 : decode b_M_bestNow 345 = .ok (.aload 10, 2) := by decide +kernel
theorem d_M_bestNow_347 : decode b_M_bestNow 347 = .ok (.iload 14, 2) := by decide +kernel
theorem d_M_bestNow_349 : decode b_M_bestNow 349 = .ok (.iaload, 1) := by decide +kernel
theorem d_M_bestNow_350 : decode b_M_bestNow 350 = .ok (.if_icmp .le 6, 3) := by decide +kernel
theorem d_M_bestNow_353 : decode b_M_bestNow 353 = .ok (.goto 17, 3) := by decide +kernel
theorem d_M_bestNow_356 : decode b_M_bestNow 356 = .ok (.aload 9, 2) := by decide +kernel
theorem d_M_bestNow_358 : decode b_M_bestNow 358 = .ok (.iload 14, 2) := by decide +kernel
theorem d_M_bestNow_360 : decode b_M_bestNow 360 = .ok (.iload 15, 2) := by decide +kernel
theorem d_M_bestNow_362 : decode b_M_bestNow 362 = .ok (.iastore, 1) := by decide +kernel
theorem d_M_bestNow_363 : decode b_M_bestNow 363 = .ok (.aload 10, 2) := by decide +kernel
theorem d_M_bestNow_365 : decode b_M_bestNow 365 = .ok (.iload 14, 2) := by decide +kernel
theorem d_M_bestNow_367 : decode b_M_bestNow 367 = .ok (.iload 16, 2) := by decide +kernel
theorem d_M_bestNow_369 : decode b_M_bestNow 369 = .ok (.iastore, 1) := by decide +kernel
theorem d_M_bestNow_370 : decode b_M_bestNow 370 = .ok (.iinc 12 1, 3) := by decide +kernel
theorem d_M_bestNow_373 : decode b_M_bestNow 373 = .ok (.goto (-170), 3) := by decide +kernel
theorem d_M_bestNow_376 : decode b_M_bestNow 376 = .ok (.iinc 11 1, 3) := by decide +kernel
theorem d_M_bestNow_379 : decode b_M_bestNow 379 = .ok (.goto (-187), 3) := by decide +kernel
theorem d_M_bestNow_382 : decode b_M_bestNow 382 = .ok (.aload 9, 2) := by decide +kernel
theorem d_M_bestNow_384 : decode b_M_bestNow 384 = .ok (.astore 4, 2) := by decide +kernel
theorem d_M_bestNow_386 : decode b_M_bestNow 386 = .ok (.aload 10, 2) := by decide +kernel
theorem d_M_bestNow_388 : decode b_M_bestNow 388 = .ok (.astore 5, 2) := by decide +kernel
theorem d_M_bestNow_390 : decode b_M_bestNow 390 = .ok (.iconst 0, 1) := by decide +kernel
theorem d_M_bestNow_391 : decode b_M_bestNow 391 = .ok (.istore 11, 2) := by decide +kernel
theorem d_M_bestNow_393 : decode b_M_bestNow 393 = .ok (.iload 11, 2) := by decide +kernel
theorem d_M_bestNow_395 : decode b_M_bestNow 395 = .ok (.bipush 7, 2) := by decide +kernel
theorem d_M_bestNow_397 : decode b_M_bestNow 397 = .ok (.if_icmp .ge 77, 3) := by decide +kernel
theorem d_M_bestNow_400 : decode b_M_bestNow 400 = .ok (.sipush 256, 3) := by decide +kernel
theorem d_M_bestNow_403 : decode b_M_bestNow 403 = .ok (.iload 11, 2) := by decide +kernel
theorem d_M_bestNow_405 : decode b_M_bestNow 405 = .ok (.imul, 1) := by decide +kernel
theorem d_M_bestNow_406 : decode b_M_bestNow 406 = .ok (.iload_n 3, 1) := by decide +kernel
theorem d_M_bestNow_407 : decode b_M_bestNow 407 = .ok (.iadd, 1) := by decide +kernel
theorem d_M_bestNow_408 : decode b_M_bestNow 408 = .ok (.istore 12, 2) := by decide +kernel
theorem d_M_bestNow_410 : decode b_M_bestNow 410 = .ok (.aload 4, 2) := by decide +kernel
theorem d_M_bestNow_412 : decode b_M_bestNow 412 = .ok (.iload 12, 2) := by decide +kernel
theorem d_M_bestNow_414 : decode b_M_bestNow 414 = .ok (.iaload, 1) := by decide +kernel
theorem d_M_bestNow_415 : decode b_M_bestNow 415 = .ok (.iload 7, 2) := by decide +kernel
theorem d_M_bestNow_417 : decode b_M_bestNow 417 = .ok (.if_icmp .gt 51, 3) := by decide +kernel
theorem d_M_bestNow_420 : decode b_M_bestNow 420 = .ok (.aload 4, 2) := by decide +kernel
theorem d_M_bestNow_422 : decode b_M_bestNow 422 = .ok (.iload 12, 2) := by decide +kernel
theorem d_M_bestNow_424 : decode b_M_bestNow 424 = .ok (.iaload, 1) := by decide +kernel
theorem d_M_bestNow_425 : decode b_M_bestNow 425 = .ok (.sipush 999, 3) := by decide +kernel
theorem d_M_bestNow_428 : decode b_M_bestNow 428 = .ok (.if_icmp .eq 40, 3) := by decide +kernel
theorem d_M_bestNow_431 : decode b_M_bestNow 431 = .ok (.aload 4, 2) := by decide +kernel
theorem d_M_bestNow_433 : decode b_M_bestNow 433 = .ok (.iload 12, 2) := by decide +kernel
theorem d_M_bestNow_435 : decode b_M_bestNow 435 = .ok (.iaload, 1) := by decide +kernel
theorem d_M_bestNow_436 : decode b_M_bestNow 436 = .ok (.iload 7, 2) := by decide +kernel
theorem d_M_bestNow_438 : decode b_M_bestNow 438 = .ok (.if_icmp .ne 16, 3) := by decide +kernel
theorem d_M_bestNow_441 : decode b_M_bestNow 441 = .ok (.aload 5, 2) := by decide +kernel
theorem d_M_bestNow_443 : decode b_M_bestNow 443 = .ok (.iload 12, 2) := by decide +kernel
theorem d_M_bestNow_445 : decode b_M_bestNow 445 = .ok (.iaload, 1) := by decide +kernel
theorem d_M_bestNow_446 : decode b_M_bestNow 446 = .ok (.iload 6, 2) := by decide +kernel
theorem d_M_bestNow_448 : decode b_M_bestNow 448 = .ok (.if_icmp .le 6, 3) := by decide +kernel
theorem d_M_bestNow_451 : decode b_M_bestNow 451 = .ok (.goto 17, 3) := by decide +kernel
theorem d_M_bestNow_454 : decode b_M_bestNow 454 = .ok (.aload 4, 2) := by decide +kernel
theorem d_M_bestNow_456 : decode b_M_bestNow 456 = .ok (.iload 12, 2) := by decide +kernel
theorem d_M_bestNow_458 : decode b_M_bestNow 458 = .ok (.iaload, 1) := by decide +kernel
theorem d_M_bestNow_459 : decode b_M_bestNow 459 = .ok (.istore 7, 2) := by decide +kernel
theorem d_M_bestNow_461 : decode b_M_bestNow 461 = .ok (.aload 5, 2) := by decide +kernel
theorem d_M_bestNow_463 : decode b_M_bestNow 463 = .ok (.iload 12, 2) := by decide +kernel
theorem d_M_bestNow_465 : decode b_M_bestNow 465 = .ok (.iaload, 1) := by decide +kernel
theorem d_M_bestNow_466 : decode b_M_bestNow 466 = .ok (.istore 6, 2) := by decide +kernel
theorem d_M_bestNow_468 : decode b_M_bestNow 468 = .ok (.iinc 11 1, 3) := by decide +kernel
theorem d_M_bestNow_471 : decode b_M_bestNow 471 = .ok (.goto (-78), 3) := by decide +kernel
theorem d_M_bestNow_474 : decode b_M_bestNow 474 = .ok (.iinc 8 1, 3) := by decide +kernel
theorem d_M_bestNow_477 : decode b_M_bestNow 477 = .ok (.goto (-334), 3) := by decide +kernel
theorem d_M_bestNow_480 : decode b_M_bestNow 480 = .ok (.iload 6, 2) := by decide +kernel
theorem d_M_bestNow_482 : decode b_M_bestNow 482 = .ok (.ireturn, 1) := by decide +kernel
theorem d_M_bestOrders_0 : decode b_M_bestOrders 0 = .ok (.aload_n 0, 1) := by decide +kernel
theorem d_M_bestOrders_1 : decode b_M_bestOrders 1 = .ok (.iconst 0, 1) := by decide +kernel
theorem d_M_bestOrders_2 : decode b_M_bestOrders 2 = .ok (.putfield 38, 3) := by decide +kernel
theorem d_M_bestOrders_5 : decode b_M_bestOrders 5 = .ok (.aload_n 0, 1) := by decide +kernel
theorem d_M_bestOrders_6 : decode b_M_bestOrders 6 = .ok (.iload_n 1, 1) := by decide +kernel
theorem d_M_bestOrders_7 : decode b_M_bestOrders 7 = .ok (.invokevirtual 226, 3) := by decide +kernel
theorem d_M_bestOrders_10 : decode b_M_bestOrders 10 = .ok (.ifCond .eq 10, 3) := by decide +kernel
theorem d_M_bestOrders_13 : decode b_M_bestOrders 13 = .ok (.iload_n 2, 1) := by decide +kernel
theorem d_M_bestOrders_14 : decode b_M_bestOrders 14 = .ok (.invokestatic 171, 3) := by decide +kernel
theorem d_M_bestOrders_17 : decode b_M_bestOrders 17 = .ok (.ifCond .ne 9, 3) := by decide +kernel
theorem d_M_bestOrders_20 : decode b_M_bestOrders 20 = .ok (.aload_n 0, 1) := by decide +kernel
theorem d_M_bestOrders_21 : decode b_M_bestOrders 21 = .ok (.iconst 1, 1) := by decide +kernel
theorem d_M_bestOrders_22 : decode b_M_bestOrders 22 = .ok (.invokevirtual 174, 3) := by decide +kernel
theorem d_M_bestOrders_25 : decode b_M_bestOrders 25 = .ok (.ireturn, 1) := by decide +kernel
theorem d_M_bestOrders_26 : decode b_M_bestOrders 26 = .ok (.aload_n 0, 1) := by decide +kernel
theorem d_M_bestOrders_27 : decode b_M_bestOrders 27 = .ok (.iload_n 2, 1) := by decide +kernel
theorem d_M_bestOrders_28 : decode b_M_bestOrders 28 = .ok (.invokevirtual 274, 3) := by decide +kernel
theorem d_M_bestOrders_31 : decode b_M_bestOrders 31 = .ok (.ireturn, 1) := by decide +kernel
theorem d_M_digest_0 : decode b_M_digest 0 = .ok (.aload_n 0, 1) := by decide +kernel
theorem d_M_digest_1 : decode b_M_digest 1 = .ok (.iconst 0, 1) := by decide +kernel
theorem d_M_digest_2 : decode b_M_digest 2 = .ok (.putfield 38, 3) := by decide +kernel
theorem d_M_digest_5 : decode b_M_digest 5 = .ok (.ldc2_w 277, 3) := by decide +kernel
theorem d_M_digest_8 : decode b_M_digest 8 = .ok (.lstore_n 1, 1) := by decide +kernel
theorem d_M_digest_9 : decode b_M_digest 9 = .ok (.iconst 0, 1) := by decide +kernel
theorem d_M_digest_10 : decode b_M_digest 10 = .ok (.istore_n 3, 1) := by decide +kernel
theorem d_M_digest_11 : decode b_M_digest 11 = .ok (.iload_n 3, 1) := by decide +kernel
theorem d_M_digest_12 : decode b_M_digest 12 = .ok (.bipush 14, 2) := by decide +kernel
theorem d_M_digest_14 : decode b_M_digest 14 = .ok (.if_icmp .gt 22, 3) := by decide +kernel
theorem d_M_digest_17 : decode b_M_digest 17 = .ok (.lload_n 1, 1) := by decide +kernel
theorem d_M_digest_18 : decode b_M_digest 18 = .ok (.ldc2_w 279, 3) := by decide +kernel
theorem d_M_digest_21 : decode b_M_digest 21 = .ok (.lmul, 1) := by decide +kernel
theorem d_M_digest_22 : decode b_M_digest 22 = .ok (.aload_n 0, 1) := by decide +kernel
theorem d_M_digest_23 : decode b_M_digest 23 = .ok (.iload_n 3, 1) := by decide +kernel
theorem d_M_digest_24 : decode b_M_digest 24 = .ok (.invokevirtual 246, 3) := by decide +kernel
theorem d_M_digest_27 : decode b_M_digest 27 = .ok (.i2l, 1) := by decide +kernel
theorem d_M_digest_28 : decode b_M_digest 28 = .ok (.ladd, 1) := by decide +kernel
theorem d_M_digest_29 : decode b_M_digest 29 = .ok (.lstore_n 1, 1) := by decide +kernel
theorem d_M_digest_30 : decode b_M_digest 30 = .ok (.iinc 3 1, 3) := by decide +kernel
theorem d_M_digest_33 : decode b_M_digest 33 = .ok (.goto (-22), 3) := by decide +kernel
theorem d_M_digest_36 : decode b_M_digest 36 = .ok (.iconst 0, 1) := by decide +kernel
theorem d_M_digest_37 : decode b_M_digest 37 = .ok (.istore_n 3, 1) := by decide +kernel
theorem d_M_digest_38 : decode b_M_digest 38 = .ok (.iload_n 3, 1) := by decide +kernel
theorem d_M_digest_39 : decode b_M_digest 39 = .ok (.aload_n 0, 1) := by decide +kernel
theorem d_M_digest_40 : decode b_M_digest 40 = .ok (.getfield 10, 3) := by decide +kernel
theorem d_M_digest_43 : decode b_M_digest 43 = .ok (.invokeinterface 124 1, 5) := by decide +kernel
theorem d_M_digest_48 : decode b_M_digest 48 = .ok (.if_icmp .ge 117, 3) := by decide +kernel
theorem d_M_digest_51 : decode b_M_digest 51 = .ok (.aload_n 0, 1) := by decide +kernel
theorem d_M_digest_52 : decode b_M_digest 52 = .ok (.getfield 10, 3) := by decide +kernel
theorem d_M_digest_55 : decode b_M_digest 55 = .ok (.iload_n 3, 1) := by decide +kernel
theorem d_M_digest_56 : decode b_M_digest 56 = .ok (.invokeinterface 53 2, 5) := by decide +kernel
theorem d_M_digest_61 : decode b_M_digest 61 = .ok (.checkcast 59, 3) := by decide +kernel
theorem d_M_digest_64 : decode b_M_digest 64 = .ok (.astore 4, 2) := by decide +kernel
theorem d_M_digest_66 : decode b_M_digest 66 = .ok (.iconst 0, 1) := by decide +kernel
theorem d_M_digest_67 : decode b_M_digest 67 = .ok (.istore 5, 2) := by decide +kernel
theorem d_M_digest_69 : decode b_M_digest 69 = .ok (.iload 5, 2) := by decide +kernel
theorem d_M_digest_71 : decode b_M_digest 71 = .ok (.bipush 14, 2) := by decide +kernel
theorem d_M_digest_73 : decode b_M_digest 73 = .ok (.if_icmp .gt 24, 3) := by decide +kernel
theorem d_M_digest_76 : decode b_M_digest 76 = .ok (.lload_n 1, 1) := by decide +kernel
theorem d_M_digest_77 : decode b_M_digest 77 = .ok (.ldc2_w 279, 3) := by decide +kernel
theorem d_M_digest_80 : decode b_M_digest 80 = .ok (.lmul, 1) := by decide +kernel
theorem d_M_digest_81 : decode b_M_digest 81 = .ok (.aload 4, 2) := by decide +kernel
theorem d_M_digest_83 : decode b_M_digest 83 = .ok (.iload 5, 2) := by decide +kernel
theorem d_M_digest_85 : decode b_M_digest 85 = .ok (.invokevirtual 242, 3) := by decide +kernel
theorem d_M_digest_88 : decode b_M_digest 88 = .ok (.i2l, 1) := by decide +kernel
theorem d_M_digest_89 : decode b_M_digest 89 = .ok (.ladd, 1) := by decide +kernel
theorem d_M_digest_90 : decode b_M_digest 90 = .ok (.lstore_n 1, 1) := by decide +kernel
theorem d_M_digest_91 : decode b_M_digest 91 = .ok (.iinc 5 1, 3) := by decide +kernel
theorem d_M_digest_94 : decode b_M_digest 94 = .ok (.goto (-25), 3) := by decide +kernel
theorem d_M_digest_97 : decode b_M_digest 97 = .ok (.lload_n 1, 1) := by decide +kernel
theorem d_M_digest_98 : decode b_M_digest 98 = .ok (.ldc2_w 279, 3) := by decide +kernel
theorem d_M_digest_101 : decode b_M_digest 101 = .ok (.lmul, 1) := by decide +kernel
theorem d_M_digest_102 : decode b_M_digest 102 = .ok (.aload_n 0, 1) := by decide +kernel
theorem d_M_digest_103 : decode b_M_digest 103 = .ok (.aload 4, 2) := by decide +kernel
theorem d_M_digest_105 : decode b_M_digest 105 = .ok (.aload 4, 2) := by decide +kernel
theorem d_M_digest_107 : decode b_M_digest 107 = .ok (.invokevirtual 263, 3) := by decide +kernel
theorem d_M_digest_110 : decode b_M_digest 110 = .ok (.iconst 0, 1) := by decide +kernel
theorem d_M_digest_111 : decode b_M_digest 111 = .ok (.bipush 8, 2) := by decide +kernel
theorem d_M_digest_113 : decode b_M_digest 113 = .ok (.invokevirtual 267, 3) := by decide +kernel
theorem d_M_digest_116 : decode b_M_digest 116 = .ok (.i2l, 1) := by decide +kernel
theorem d_M_digest_117 : decode b_M_digest 117 = .ok (.ladd, 1) := by decide +kernel
theorem d_M_digest_118 : decode b_M_digest 118 = .ok (.lstore_n 1, 1) := by decide +kernel
theorem d_M_digest_119 : decode b_M_digest 119 = .ok (.lload_n 1, 1) := by decide +kernel
theorem d_M_digest_120 : decode b_M_digest 120 = .ok (.ldc2_w 279, 3) := by decide +kernel
theorem d_M_digest_123 : decode b_M_digest 123 = .ok (.lmul, 1) := by decide +kernel
theorem d_M_digest_124 : decode b_M_digest 124 = .ok (.aload_n 0, 1) := by decide +kernel
theorem d_M_digest_125 : decode b_M_digest 125 = .ok (.aload 4, 2) := by decide +kernel
theorem d_M_digest_127 : decode b_M_digest 127 = .ok (.iconst 4, 1) := by decide +kernel
theorem d_M_digest_128 : decode b_M_digest 128 = .ok (.invokevirtual 271, 3) := by decide +kernel
theorem d_M_digest_131 : decode b_M_digest 131 = .ok (.i2l, 1) := by decide +kernel
theorem d_M_digest_132 : decode b_M_digest 132 = .ok (.ladd, 1) := by decide +kernel
theorem d_M_digest_133 : decode b_M_digest 133 = .ok (.lstore_n 1, 1) := by decide +kernel
theorem d_M_digest_134 : decode b_M_digest 134 = .ok (.aload_n 0, 1) := by decide +kernel
theorem d_M_digest_135 : decode b_M_digest 135 = .ok (.getfield 114, 3) := by decide +kernel
theorem d_M_digest_138 : decode b_M_digest 138 = .ok (.ifCond .le 21, 3) := by decide +kernel
theorem d_M_digest_141 : decode b_M_digest 141 = .ok (.lload_n 1, 1) := by decide +kernel
theorem d_M_digest_142 : decode b_M_digest 142 = .ok (.ldc2_w 279, 3) := by decide +kernel
theorem d_M_digest_145 : decode b_M_digest 145 = .ok (.lmul, 1) := by decide +kernel
theorem d_M_digest_146 : decode b_M_digest 146 = .ok (.aload_n 0, 1) := by decide +kernel
theorem d_M_digest_147 : decode b_M_digest 147 = .ok (.aload 4, 2) := by decide +kernel
theorem d_M_digest_149 : decode b_M_digest 149 = .ok (.aload_n 0, 1) := by decide +kernel
theorem d_M_digest_150 : decode b_M_digest 150 = .ok (.getfield 114, 3) := by decide +kernel
theorem d_M_digest_153 : decode b_M_digest 153 = .ok (.invokevirtual 238, 3) := by decide +kernel
theorem d_M_digest_156 : decode b_M_digest 156 = .ok (.i2l, 1) := by decide +kernel
theorem d_M_digest_157 : decode b_M_digest 157 = .ok (.ladd, 1) := by decide +kernel
theorem d_M_digest_158 : decode b_M_digest 158 = .ok (.lstore_n 1, 1) := by decide +kernel
theorem d_M_digest_159 : decode b_M_digest 159 = .ok (.iinc 3 1, 3) := by decide +kernel
theorem d_M_digest_162 : decode b_M_digest 162 = .ok (.goto (-124), 3) := by decide +kernel
theorem d_M_digest_165 : decode b_M_digest 165 = .ok (.iconst 0, 1) := by decide +kernel
theorem d_M_digest_166 : decode b_M_digest 166 = .ok (.istore_n 3, 1) := by decide +kernel
theorem d_M_digest_167 : decode b_M_digest 167 = .ok (.iload_n 3, 1) := by decide +kernel
theorem d_M_digest_168 : decode b_M_digest 168 = .ok (.aload_n 0, 1) := by decide +kernel
theorem d_M_digest_169 : decode b_M_digest 169 = .ok (.getfield 16, 3) := by decide +kernel
theorem d_M_digest_172 : decode b_M_digest 172 = .ok (.invokeinterface 124 1, 5) := by decide +kernel
theorem d_M_digest_177 : decode b_M_digest 177 = .ok (.if_icmp .ge 51, 3) := by decide +kernel
theorem d_M_digest_180 : decode b_M_digest 180 = .ok (.iconst 0, 1) := by decide +kernel
theorem d_M_digest_181 : decode b_M_digest 181 = .ok (.istore 4, 2) := by decide +kernel
theorem d_M_digest_183 : decode b_M_digest 183 = .ok (.iload 4, 2) := by decide +kernel
theorem d_M_digest_185 : decode b_M_digest 185 = .ok (.bipush 8, 2) := by decide +kernel
theorem d_M_digest_187 : decode b_M_digest 187 = .ok (.if_icmp .gt 35, 3) := by decide +kernel
theorem d_M_digest_190 : decode b_M_digest 190 = .ok (.lload_n 1, 1) := by decide +kernel
theorem d_M_digest_191 : decode b_M_digest 191 = .ok (.ldc2_w 279, 3) := by decide +kernel
theorem d_M_digest_194 : decode b_M_digest 194 = .ok (.lmul, 1) := by decide +kernel
theorem d_M_digest_195 : decode b_M_digest 195 = .ok (.aload_n 0, 1) := by decide +kernel
theorem d_M_digest_196 : decode b_M_digest 196 = .ok (.getfield 16, 3) := by decide +kernel
theorem d_M_digest_199 : decode b_M_digest 199 = .ok (.iload_n 3, 1) := by decide +kernel
theorem d_M_digest_200 : decode b_M_digest 200 = .ok (.invokeinterface 53 2, 5) := by decide +kernel
theorem d_M_digest_205 : decode b_M_digest 205 = .ok (.checkcast 42, 3) := by decide +kernel
theorem d_M_digest_208 : decode b_M_digest 208 = .ok (.iload 4, 2) := by decide +kernel
theorem d_M_digest_210 : decode b_M_digest 210 = .ok (.invokevirtual 245, 3) := by decide +kernel
theorem d_M_digest_213 : decode b_M_digest 213 = .ok (.i2l, 1) := by decide +kernel
theorem d_M_digest_214 : decode b_M_digest 214 = .ok (.ladd, 1) := by decide +kernel
theorem d_M_digest_215 : decode b_M_digest 215 = .ok (.lstore_n 1, 1) := by decide +kernel
theorem d_M_digest_216 : decode b_M_digest 216 = .ok (.iinc 4 1, 3) := by decide +kernel
theorem d_M_digest_219 : decode b_M_digest 219 = .ok (.goto (-36), 3) := by decide +kernel
theorem d_M_digest_222 : decode b_M_digest 222 = .ok (.iinc 3 1, 3) := by decide +kernel
theorem d_M_digest_225 : decode b_M_digest 225 = .ok (.goto (-58), 3) := by decide +kernel
theorem d_M_digest_228 : decode b_M_digest 228 = .ok (.iconst 0, 1) := by decide +kernel
theorem d_M_digest_229 : decode b_M_digest 229 = .ok (.istore_n 3, 1) := by decide +kernel
theorem d_M_digest_230 : decode b_M_digest 230 = .ok (.iload_n 3, 1) := by decide +kernel
theorem d_M_digest_231 : decode b_M_digest 231 = .ok (.bipush 7, 2) := by decide +kernel
theorem d_M_digest_233 : decode b_M_digest 233 = .ok (.if_icmp .ge 23, 3) := by decide +kernel
theorem d_M_digest_236 : decode b_M_digest 236 = .ok (.lload_n 1, 1) := by decide +kernel
theorem d_M_digest_237 : decode b_M_digest 237 = .ok (.ldc2_w 279, 3) := by decide +kernel
theorem d_M_digest_240 : decode b_M_digest 240 = .ok (.lmul, 1) := by decide +kernel
theorem d_M_digest_241 : decode b_M_digest 241 = .ok (.aload_n 0, 1) := by decide +kernel
theorem d_M_digest_242 : decode b_M_digest 242 = .ok (.iconst 0, 1) := by decide +kernel
theorem d_M_digest_243 : decode b_M_digest 243 = .ok (.iload_n 3, 1) := by decide +kernel
theorem d_M_digest_244 : decode b_M_digest 244 = .ok (.invokevirtual 249, 3) := by decide +kernel
theorem d_M_digest_247 : decode b_M_digest 247 = .ok (.i2l, 1) := by decide +kernel
theorem d_M_digest_248 : decode b_M_digest 248 = .ok (.ladd, 1) := by decide +kernel
theorem d_M_digest_249 : decode b_M_digest 249 = .ok (.lstore_n 1, 1) := by decide +kernel
theorem d_M_digest_250 : decode b_M_digest 250 = .ok (.iinc 3 1, 3) := by decide +kernel
theorem d_M_digest_253 : decode b_M_digest 253 = .ok (.goto (-23), 3) := by decide +kernel
theorem d_M_digest_256 : decode b_M_digest 256 = .ok (.aload_n 0, 1) := by decide +kernel
theorem d_M_digest_257 : decode b_M_digest 257 = .ok (.getfield 16, 3) := by decide +kernel
theorem d_M_digest_260 : decode b_M_digest 260 = .ok (.invokeinterface 255 1, 5) := by decide +kernel
theorem d_M_digest_265 : decode b_M_digest 265 = .ok (.ifCond .eq 7, 3) := by decide +kernel
theorem d_M_digest_268 : decode b_M_digest 268 = .ok (.lload_n 1, 1) := by decide +kernel
theorem d_M_digest_269 : decode b_M_digest 269 = .ok (.goto 15, 3) := by decide +kernel
theorem d_M_digest_272 : decode b_M_digest 272 = .ok (.lload_n 1, 1) := by decide +kernel
theorem d_M_digest_273 : decode b_M_digest 273 = .ok (.ldc2_w 279, 3) := by decide +kernel
theorem d_M_digest_276 : decode b_M_digest 276 = .ok (.lmul, 1) := by decide +kernel
theorem d_M_digest_277 : decode b_M_digest 277 = .ok (.aload_n 0, 1) := by decide +kernel
theorem d_M_digest_278 : decode b_M_digest 278 = .ok (.iconst 0, 1) := by decide +kernel
theorem d_M_digest_279 : decode b_M_digest 279 = .ok (.invokevirtual 274, 3) := by decide +kernel
theorem d_M_digest_282 : decode b_M_digest 282 = .ok (.i2l, 1) := by decide +kernel
theorem d_M_digest_283 : decode b_M_digest 283 = .ok (.ladd, 1) := by decide +kernel
theorem d_M_digest_284 : decode b_M_digest 284 = .ok (.lreturn, 1) := by decide +kernel
theorem d_Math_max_7cf53_0 : decode b_Math_max_7cf53 0 = .ok (.iload_n 0, 1) := by decide +kernel
theorem d_Math_max_7cf53_1 : decode b_Math_max_7cf53 1 = .ok (.iload_n 1, 1) := by decide +kernel
theorem d_Math_max_7cf53_2 : decode b_Math_max_7cf53 2 = .ok (.if_icmp .lt 7, 3) := by decide +kernel
theorem d_Math_max_7cf53_5 : decode b_Math_max_7cf53 5 = .ok (.iload_n 0, 1) := by decide +kernel
theorem d_Math_max_7cf53_6 : decode b_Math_max_7cf53 6 = .ok (.goto 4, 3) := by decide +kernel
theorem d_Math_max_7cf53_9 : decode b_Math_max_7cf53 9 = .ok (.iload_n 1, 1) := by decide +kernel
theorem d_Math_max_7cf53_10 : decode b_Math_max_7cf53 10 = .ok (.ireturn, 1) := by decide +kernel
theorem d_Math_min_7cf53_0 : decode b_Math_min_7cf53 0 = .ok (.iload_n 0, 1) := by decide +kernel
theorem d_Math_min_7cf53_1 : decode b_Math_min_7cf53 1 = .ok (.iload_n 1, 1) := by decide +kernel
theorem d_Math_min_7cf53_2 : decode b_Math_min_7cf53 2 = .ok (.if_icmp .gt 7, 3) := by decide +kernel
theorem d_Math_min_7cf53_5 : decode b_Math_min_7cf53 5 = .ok (.iload_n 0, 1) := by decide +kernel
theorem d_Math_min_7cf53_6 : decode b_Math_min_7cf53 6 = .ok (.goto 4, 3) := by decide +kernel
theorem d_Math_min_7cf53_9 : decode b_Math_min_7cf53 9 = .ok (.iload_n 1, 1) := by decide +kernel
theorem d_Math_min_7cf53_10 : decode b_Math_min_7cf53 10 = .ok (.ireturn, 1) := by decide +kernel
theorem d_AbC_init_da8c8_0 : decode b_AbC_init_da8c8 0 = .ok (.aload_n 0, 1) := by decide +kernel
theorem d_AbC_init_da8c8_1 : decode b_AbC_init_da8c8 1 = .ok (.invokespecial 1, 3) := by decide +kernel
theorem d_AbC_init_da8c8_4 : decode b_AbC_init_da8c8 4 = .ok (.return_, 1) := by decide +kernel
theorem d_AbL_init_da8c8_0 : decode b_AbL_init_da8c8 0 = .ok (.aload_n 0, 1) := by decide +kernel
theorem d_AbL_init_da8c8_1 : decode b_AbL_init_da8c8 1 = .ok (.invokespecial 1, 3) := by decide +kernel
theorem d_AbL_init_da8c8_4 : decode b_AbL_init_da8c8 4 = .ok (.aload_n 0, 1) := by decide +kernel
theorem d_AbL_init_da8c8_5 : decode b_AbL_init_da8c8 5 = .ok (.iconst 0, 1) := by decide +kernel
theorem d_AbL_init_da8c8_6 : decode b_AbL_init_da8c8 6 = .ok (.putfield 7, 3) := by decide +kernel
theorem d_AbL_init_da8c8_9 : decode b_AbL_init_da8c8 9 = .ok (.return_, 1) := by decide +kernel
theorem d_AL_init_da8c8_0 : decode b_AL_init_da8c8 0 = .ok (.aload_n 0, 1) := by decide +kernel
theorem d_AL_init_da8c8_1 : decode b_AL_init_da8c8 1 = .ok (.invokespecial 1, 3) := by decide +kernel
theorem d_AL_init_da8c8_4 : decode b_AL_init_da8c8 4 = .ok (.aload_n 0, 1) := by decide +kernel
theorem d_AL_init_da8c8_5 : decode b_AL_init_da8c8 5 = .ok (.getstatic 39, 3) := by decide +kernel
theorem d_AL_init_da8c8_8 : decode b_AL_init_da8c8 8 = .ok (.putfield 9, 3) := by decide +kernel
theorem d_AL_init_da8c8_11 : decode b_AL_init_da8c8 11 = .ok (.return_, 1) := by decide +kernel
theorem d_AL_grow_92f84_0 : decode b_AL_grow_92f84 0 = .ok (.aload_n 0, 1) := by decide +kernel
theorem d_AL_grow_92f84_1 : decode b_AL_grow_92f84 1 = .ok (.getfield 9, 3) := by decide +kernel
theorem d_AL_grow_92f84_4 : decode b_AL_grow_92f84 4 = .ok (.arraylength, 1) := by decide +kernel
theorem d_AL_grow_92f84_5 : decode b_AL_grow_92f84 5 = .ok (.istore_n 2, 1) := by decide +kernel
theorem d_AL_grow_92f84_6 : decode b_AL_grow_92f84 6 = .ok (.iload_n 2, 1) := by decide +kernel
theorem d_AL_grow_92f84_7 : decode b_AL_grow_92f84 7 = .ok (.ifCond .gt 13, 3) := by decide +kernel
theorem d_AL_grow_92f84_10 : decode b_AL_grow_92f84 10 = .ok (.aload_n 0, 1) := by decide +kernel
theorem d_AL_grow_92f84_11 : decode b_AL_grow_92f84 11 = .ok (.getfield 9, 3) := by decide +kernel
theorem d_AL_grow_92f84_14 : decode b_AL_grow_92f84 14 = .ok (.getstatic 39, 3) := by decide +kernel
theorem d_AL_grow_92f84_17 : decode b_AL_grow_92f84 17 = .ok (.if_acmp .eq 28, 3) := by decide +kernel
theorem d_AL_grow_92f84_20 : decode b_AL_grow_92f84 20 = .ok (.iload_n 2, 1) := by decide +kernel
theorem d_AL_grow_92f84_21 : decode b_AL_grow_92f84 21 = .ok (.iload_n 1, 1) := by decide +kernel
theorem d_AL_grow_92f84_22 : decode b_AL_grow_92f84 22 = .ok (.iload_n 2, 1) := by decide +kernel
theorem d_AL_grow_92f84_23 : decode b_AL_grow_92f84 23 = .ok (.isub, 1) := by decide +kernel
theorem d_AL_grow_92f84_24 : decode b_AL_grow_92f84 24 = .ok (.iload_n 2, 1) := by decide +kernel
theorem d_AL_grow_92f84_25 : decode b_AL_grow_92f84 25 = .ok (.iconst 1, 1) := by decide +kernel
theorem d_AL_grow_92f84_26 : decode b_AL_grow_92f84 26 = .ok (.ishr, 1) := by decide +kernel
theorem d_AL_grow_92f84_27 : decode b_AL_grow_92f84 27 = .ok (.invokestatic 73, 3) := by decide +kernel
theorem d_AL_grow_92f84_30 : decode b_AL_grow_92f84 30 = .ok (.istore_n 3, 1) := by decide +kernel
theorem d_AL_grow_92f84_31 : decode b_AL_grow_92f84 31 = .ok (.aload_n 0, 1) := by decide +kernel
theorem d_AL_grow_92f84_32 : decode b_AL_grow_92f84 32 = .ok (.aload_n 0, 1) := by decide +kernel
theorem d_AL_grow_92f84_33 : decode b_AL_grow_92f84 33 = .ok (.getfield 9, 3) := by decide +kernel
theorem d_AL_grow_92f84_36 : decode b_AL_grow_92f84 36 = .ok (.iload_n 3, 1) := by decide +kernel
theorem d_AL_grow_92f84_37 : decode b_AL_grow_92f84 37 = .ok (.invokestatic 66, 3) := by decide +kernel
theorem d_AL_grow_92f84_40 : decode b_AL_grow_92f84 40 = .ok (.dup_x1, 1) := by decide +kernel
theorem d_AL_grow_92f84_41 : decode b_AL_grow_92f84 41 = .ok (.putfield 9, 3) := by decide +kernel
theorem d_AL_grow_92f84_44 : decode b_AL_grow_92f84 44 = .ok (.areturn, 1) := by decide +kernel
theorem d_AL_grow_92f84_45 : decode b_AL_grow_92f84 45 = .ok (.aload_n 0, 1) := by decide +kernel
theorem d_AL_grow_92f84_46 : decode b_AL_grow_92f84 46 = .ok (.bipush 10, 2) := by decide +kernel
theorem d_AL_grow_92f84_48 : decode b_AL_grow_92f84 48 = .ok (.iload_n 1, 1) := by decide +kernel
theorem d_AL_grow_92f84_49 : decode b_AL_grow_92f84 49 = .ok (.invokestatic 79, 3) := by decide +kernel
theorem d_AL_grow_92f84_52 : decode b_AL_grow_92f84 52 = .ok (.anewarray 7, 3) := by decide +kernel
theorem d_AL_grow_92f84_55 : decode b_AL_grow_92f84 55 = .ok (.dup_x1, 1) := by decide +kernel
theorem d_AL_grow_92f84_56 : decode b_AL_grow_92f84 56 = .ok (.putfield 9, 3) := by decide +kernel
theorem d_AL_grow_92f84_59 : decode b_AL_grow_92f84 59 = .ok (.areturn, 1) := by decide +kernel
theorem d_AL_grow_d5877_0 : decode b_AL_grow_d5877 0 = .ok (.aload_n 0, 1) := by decide +kernel
theorem d_AL_grow_d5877_1 : decode b_AL_grow_d5877 1 = .ok (.aload_n 0, 1) := by decide +kernel
theorem d_AL_grow_d5877_2 : decode b_AL_grow_d5877 2 = .ok (.getfield 48, 3) := by decide +kernel
theorem d_AL_grow_d5877_5 : decode b_AL_grow_d5877 5 = .ok (.iconst 1, 1) := by decide +kernel
theorem d_AL_grow_d5877_6 : decode b_AL_grow_d5877 6 = .ok (.iadd, 1) := by decide +kernel
theorem d_AL_grow_d5877_7 : decode b_AL_grow_d5877 7 = .ok (.invokevirtual 69, 3) := by decide +kernel
theorem d_AL_grow_d5877_10 : decode b_AL_grow_d5877 10 = .ok (.areturn, 1) := by decide +kernel
theorem d_AL_size_8abf5_0 : decode b_AL_size_8abf5 0 = .ok (.aload_n 0, 1) := by decide +kernel
theorem d_AL_size_8abf5_1 : decode b_AL_size_8abf5 1 = .ok (.getfield 48, 3) := by decide +kernel
theorem d_AL_size_8abf5_4 : decode b_AL_size_8abf5 4 = .ok (.ireturn, 1) := by decide +kernel
theorem d_AL_isEmpty_aae02_0 : decode b_AL_isEmpty_aae02 0 = .ok (.aload_n 0, 1) := by decide +kernel
theorem d_AL_isEmpty_aae02_1 : decode b_AL_isEmpty_aae02 1 = .ok (.getfield 48, 3) := by decide +kernel
theorem d_AL_isEmpty_aae02_4 : decode b_AL_isEmpty_aae02 4 = .ok (.ifCond .ne 7, 3) := by decide +kernel
theorem d_AL_isEmpty_aae02_7 : decode b_AL_isEmpty_aae02 7 = .ok (.iconst 1, 1) := by decide +kernel
theorem d_AL_isEmpty_aae02_8 : decode b_AL_isEmpty_aae02 8 = .ok (.goto 4, 3) := by decide +kernel
theorem d_AL_isEmpty_aae02_11 : decode b_AL_isEmpty_aae02 11 = .ok (.iconst 0, 1) := by decide +kernel
theorem d_AL_isEmpty_aae02_12 : decode b_AL_isEmpty_aae02 12 = .ok (.ireturn, 1) := by decide +kernel
theorem d_AL_elementData_915e3_0 : decode b_AL_elementData_915e3 0 = .ok (.aload_n 0, 1) := by decide +kernel
theorem d_AL_elementData_915e3_1 : decode b_AL_elementData_915e3 1 = .ok (.getfield 9, 3) := by decide +kernel
theorem d_AL_elementData_915e3_4 : decode b_AL_elementData_915e3 4 = .ok (.iload_n 1, 1) := by decide +kernel
theorem d_AL_elementData_915e3_5 : decode b_AL_elementData_915e3 5 = .ok (.aaload, 1) := by decide +kernel
theorem d_AL_elementData_915e3_6 : decode b_AL_elementData_915e3 6 = .ok (.areturn, 1) := by decide +kernel
theorem d_AL_get_915e3_0 : decode b_AL_get_915e3 0 = .ok (.iload_n 1, 1) := by decide +kernel
theorem d_AL_get_915e3_1 : decode b_AL_get_915e3 1 = .ok (.aload_n 0, 1) := by decide +kernel
theorem d_AL_get_915e3_2 : decode b_AL_get_915e3 2 = .ok (.getfield 48, 3) := by decide +kernel
theorem d_AL_get_915e3_5 : decode b_AL_get_915e3 5 = .ok (.invokestatic 118, 3) := by decide +kernel
theorem d_AL_get_915e3_8 : decode b_AL_get_915e3 8 = .ok (.pop, 1) := by decide +kernel
theorem d_AL_get_915e3_9 : decode b_AL_get_915e3 9 = .ok (.aload_n 0, 1) := by decide +kernel
theorem d_AL_get_915e3_10 : decode b_AL_get_915e3 10 = .ok (.iload_n 1, 1) := by decide +kernel
theorem d_AL_get_915e3_11 : decode b_AL_get_915e3 11 = .ok (.invokevirtual 123, 3) := by decide +kernel
theorem d_AL_get_915e3_14 : decode b_AL_get_915e3 14 = .ok (.areturn, 1) := by decide +kernel
theorem d_AL_add_72be8_0 : decode b_AL_add_72be8 0 = .ok (.iload_n 3, 1) := by decide +kernel
theorem d_AL_add_72be8_1 : decode b_AL_add_72be8 1 = .ok (.aload_n 2, 1) := by decide +kernel
theorem d_AL_add_72be8_2 : decode b_AL_add_72be8 2 = .ok (.arraylength, 1) := by decide +kernel
theorem d_AL_add_72be8_3 : decode b_AL_add_72be8 3 = .ok (.if_icmp .ne 8, 3) := by decide +kernel
theorem d_AL_add_72be8_6 : decode b_AL_add_72be8 6 = .ok (.aload_n 0, 1) := by decide +kernel
theorem d_AL_add_72be8_7 : decode b_AL_add_72be8 7 = .ok (.invokevirtual 129, 3) := by decide +kernel
theorem d_AL_add_72be8_10 : decode b_AL_add_72be8 10 = .ok (.astore_n 2, 1) := by decide +kernel
theorem d_AL_add_72be8_11 : decode b_AL_add_72be8 11 = .ok (.aload_n 2, 1) := by decide +kernel
theorem d_AL_add_72be8_12 : decode b_AL_add_72be8 12 = .ok (.iload_n 3, 1) := by decide +kernel
theorem d_AL_add_72be8_13 : decode b_AL_add_72be8 13 = .ok (.aload_n 1, 1) := by decide +kernel
theorem d_AL_add_72be8_14 : decode b_AL_add_72be8 14 = .ok (.aastore, 1) := by decide +kernel
theorem d_AL_add_72be8_15 : decode b_AL_add_72be8 15 = .ok (.aload_n 0, 1) := by decide +kernel
theorem d_AL_add_72be8_16 : decode b_AL_add_72be8 16 = .ok (.iload_n 3, 1) := by decide +kernel
theorem d_AL_add_72be8_17 : decode b_AL_add_72be8 17 = .ok (.iconst 1, 1) := by decide +kernel
theorem d_AL_add_72be8_18 : decode b_AL_add_72be8 18 = .ok (.iadd, 1) := by decide +kernel
theorem d_AL_add_72be8_19 : decode b_AL_add_72be8 19 = .ok (.putfield 48, 3) := by decide +kernel
theorem d_AL_add_72be8_22 : decode b_AL_add_72be8 22 = .ok (.return_, 1) := by decide +kernel
theorem d_AL_add_9ea2d_0 : decode b_AL_add_9ea2d 0 = .ok (.aload_n 0, 1) := by decide +kernel
theorem d_AL_add_9ea2d_1 : decode b_AL_add_9ea2d 1 = .ok (.dup, 1) := by decide +kernel
theorem d_AL_add_9ea2d_2 : decode b_AL_add_9ea2d 2 = .ok (.getfield 63, 3) := by decide +kernel
theorem d_AL_add_9ea2d_5 : decode b_AL_add_9ea2d 5 = .ok (.iconst 1, 1) := by decide +kernel
theorem d_AL_add_9ea2d_6 : decode b_AL_add_9ea2d 6 = .ok (.iadd, 1) := by decide +kernel
theorem d_AL_add_9ea2d_7 : decode b_AL_add_9ea2d 7 = .ok (.putfield 63, 3) := by decide +kernel
theorem d_AL_add_9ea2d_10 : decode b_AL_add_9ea2d 10 = .ok (.aload_n 0, 1) := by decide +kernel
theorem d_AL_add_9ea2d_11 : decode b_AL_add_9ea2d 11 = .ok (.aload_n 1, 1) := by decide +kernel
theorem d_AL_add_9ea2d_12 : decode b_AL_add_9ea2d 12 = .ok (.aload_n 0, 1) := by decide +kernel
theorem d_AL_add_9ea2d_13 : decode b_AL_add_9ea2d 13 = .ok (.getfield 9, 3) := by decide +kernel
theorem d_AL_add_9ea2d_16 : decode b_AL_add_9ea2d 16 = .ok (.aload_n 0, 1) := by decide +kernel
theorem d_AL_add_9ea2d_17 : decode b_AL_add_9ea2d 17 = .ok (.getfield 48, 3) := by decide +kernel
theorem d_AL_add_9ea2d_20 : decode b_AL_add_9ea2d 20 = .ok (.invokevirtual 131, 3) := by decide +kernel
theorem d_AL_add_9ea2d_23 : decode b_AL_add_9ea2d 23 = .ok (.iconst 1, 1) := by decide +kernel
theorem d_AL_add_9ea2d_24 : decode b_AL_add_9ea2d 24 = .ok (.ireturn, 1) := by decide +kernel
theorem d_Arrays_fill_53178_0 : decode b_Arrays_fill_53178 0 = .ok (.iconst 0, 1) := by decide +kernel
theorem d_Arrays_fill_53178_1 : decode b_Arrays_fill_53178 1 = .ok (.istore_n 2, 1) := by decide +kernel
theorem d_Arrays_fill_53178_2 : decode b_Arrays_fill_53178 2 = .ok (.aload_n 0, 1) := by decide +kernel
theorem d_Arrays_fill_53178_3 : decode b_Arrays_fill_53178 3 = .ok (.arraylength, 1) := by decide +kernel
theorem d_Arrays_fill_53178_4 : decode b_Arrays_fill_53178 4 = .ok (.istore_n 3, 1) := by decide +kernel
theorem d_Arrays_fill_53178_5 : decode b_Arrays_fill_53178 5 = .ok (.iload_n 2, 1) := by decide +kernel
theorem d_Arrays_fill_53178_6 : decode b_Arrays_fill_53178 6 = .ok (.iload_n 3, 1) := by decide +kernel
theorem d_Arrays_fill_53178_7 : decode b_Arrays_fill_53178 7 = .ok (.if_icmp .ge 13, 3) := by decide +kernel
theorem d_Arrays_fill_53178_10 : decode b_Arrays_fill_53178 10 = .ok (.aload_n 0, 1) := by decide +kernel
theorem d_Arrays_fill_53178_11 : decode b_Arrays_fill_53178 11 = .ok (.iload_n 2, 1) := by decide +kernel
theorem d_Arrays_fill_53178_12 : decode b_Arrays_fill_53178 12 = .ok (.iload_n 1, 1) := by decide +kernel
theorem d_Arrays_fill_53178_13 : decode b_Arrays_fill_53178 13 = .ok (.iastore, 1) := by decide +kernel
theorem d_Arrays_fill_53178_14 : decode b_Arrays_fill_53178 14 = .ok (.iinc 2 1, 3) := by decide +kernel
theorem d_Arrays_fill_53178_17 : decode b_Arrays_fill_53178 17 = .ok (.goto (-12), 3) := by decide +kernel
theorem d_Arrays_fill_53178_20 : decode b_Arrays_fill_53178 20 = .ok (.return_, 1) := by decide +kernel
theorem d_Arrays_copyOf_1904c_0 : decode b_Arrays_copyOf_1904c 0 = .ok (.aload_n 0, 1) := by decide +kernel
theorem d_Arrays_copyOf_1904c_1 : decode b_Arrays_copyOf_1904c 1 = .ok (.iload_n 1, 1) := by decide +kernel
theorem d_Arrays_copyOf_1904c_2 : decode b_Arrays_copyOf_1904c 2 = .ok (.aload_n 0, 1) := by decide +kernel
theorem d_Arrays_copyOf_1904c_3 : decode b_Arrays_copyOf_1904c 3 = .ok (.invokevirtual 86, 3) := by decide +kernel
theorem d_Arrays_copyOf_1904c_6 : decode b_Arrays_copyOf_1904c 6 = .ok (.invokestatic 300, 3) := by decide +kernel
theorem d_Arrays_copyOf_1904c_9 : decode b_Arrays_copyOf_1904c 9 = .ok (.areturn, 1) := by decide +kernel
theorem d_Arrays_copyOf_6403c_0 : decode b_Arrays_copyOf_6403c 0 = .ok (.aload_n 2, 1) := by decide +kernel
theorem d_Arrays_copyOf_6403c_1 : decode b_Arrays_copyOf_6403c 1 = .ok (.ldc 110, 2) := by decide +kernel
theorem d_Arrays_copyOf_6403c_3 : decode b_Arrays_copyOf_6403c 3 = .ok (.if_acmp .ne 10, 3) := by decide +kernel
theorem d_Arrays_copyOf_6403c_6 : decode b_Arrays_copyOf_6403c 6 = .ok (.iload_n 1, 1) := by decide +kernel
theorem d_Arrays_copyOf_6403c_7 : decode b_Arrays_copyOf_6403c 7 = .ok (.anewarray 2, 3) := by decide +kernel
theorem d_Arrays_copyOf_6403c_10 : decode b_Arrays_copyOf_6403c 10 = .ok (.goto 14, 3) := by decide +kernel
theorem d_Arrays_copyOf_6403c_13 : decode b_Arrays_copyOf_6403c 13 = .ok (.aload_n 2, 1) := by decide +kernel
theorem d_Arrays_copyOf_6403c_14 : decode b_Arrays_copyOf_6403c 14 = .ok (.invokevirtual 90, 3) := by decide +kernel
theorem d_Arrays_copyOf_6403c_17 : decode b_Arrays_copyOf_6403c 17 = .ok (.iload_n 1, 1) := by decide +kernel
theorem d_Arrays_copyOf_6403c_18 : decode b_Arrays_copyOf_6403c 18 = .ok (.invokestatic 95, 3) := by decide +kernel
theorem d_Arrays_copyOf_6403c_21 : decode b_Arrays_copyOf_6403c 21 = .ok (.checkcast 110, 3) := by decide +kernel
theorem d_Arrays_copyOf_6403c_24 : decode b_Arrays_copyOf_6403c 24 = .ok (.astore_n 3, 1) := by decide +kernel
theorem d_Arrays_copyOf_6403c_25 : decode b_Arrays_copyOf_6403c 25 = .ok (.aload_n 0, 1) := by decide +kernel
theorem d_Arrays_copyOf_6403c_26 : decode b_Arrays_copyOf_6403c 26 = .ok (.iconst 0, 1) := by decide +kernel
theorem d_Arrays_copyOf_6403c_27 : decode b_Arrays_copyOf_6403c 27 = .ok (.aload_n 3, 1) := by decide +kernel
theorem d_Arrays_copyOf_6403c_28 : decode b_Arrays_copyOf_6403c 28 = .ok (.iconst 0, 1) := by decide +kernel
theorem d_Arrays_copyOf_6403c_29 : decode b_Arrays_copyOf_6403c 29 = .ok (.aload_n 0, 1) := by decide +kernel
theorem d_Arrays_copyOf_6403c_30 : decode b_Arrays_copyOf_6403c 30 = .ok (.arraylength, 1) := by decide +kernel
theorem d_Arrays_copyOf_6403c_31 : decode b_Arrays_copyOf_6403c 31 = .ok (.iload_n 1, 1) := by decide +kernel
theorem d_Arrays_copyOf_6403c_32 : decode b_Arrays_copyOf_6403c 32 = .ok (.invokestatic 304, 3) := by decide +kernel
theorem d_Arrays_copyOf_6403c_35 : decode b_Arrays_copyOf_6403c 35 = .ok (.invokestatic 150, 3) := by decide +kernel
theorem d_Arrays_copyOf_6403c_38 : decode b_Arrays_copyOf_6403c 38 = .ok (.aload_n 3, 1) := by decide +kernel
theorem d_Arrays_copyOf_6403c_39 : decode b_Arrays_copyOf_6403c 39 = .ok (.areturn, 1) := by decide +kernel
theorem d_Objs_checkIndex_7cf53_0 : decode b_Objs_checkIndex_7cf53 0 = .ok (.iload_n 0, 1) := by decide +kernel
theorem d_Objs_checkIndex_7cf53_1 : decode b_Objs_checkIndex_7cf53 1 = .ok (.iload_n 1, 1) := by decide +kernel
theorem d_Objs_checkIndex_7cf53_2 : decode b_Objs_checkIndex_7cf53 2 = .ok (.aconst_null, 1) := by decide +kernel
theorem d_Objs_checkIndex_7cf53_3 : decode b_Objs_checkIndex_7cf53 3 = .ok (.invokestatic 105, 3) := by decide +kernel
theorem d_Objs_checkIndex_7cf53_6 : decode b_Objs_checkIndex_7cf53 6 = .ok (.ireturn, 1) := by decide +kernel
theorem d_ArrS_newLength_cabcc_0 : decode b_ArrS_newLength_cabcc 0 = .ok (.iload_n 0, 1) := by decide +kernel
theorem d_ArrS_newLength_cabcc_1 : decode b_ArrS_newLength_cabcc 1 = .ok (.iload_n 1, 1) := by decide +kernel
theorem d_ArrS_newLength_cabcc_2 : decode b_ArrS_newLength_cabcc 2 = .ok (.iload_n 2, 1) := by decide +kernel
theorem d_ArrS_newLength_cabcc_3 : decode b_ArrS_newLength_cabcc 3 = .ok (.invokestatic 194, 3) := by decide +kernel
theorem d_ArrS_newLength_cabcc_6 : decode b_ArrS_newLength_cabcc 6 = .ok (.iadd, 1) := by decide +kernel
theorem d_ArrS_newLength_cabcc_7 : decode b_ArrS_newLength_cabcc 7 = .ok (.istore_n 3, 1) := by decide +kernel
theorem d_ArrS_newLength_cabcc_8 : decode b_ArrS_newLength_cabcc 8 = .ok (.iconst 0, 1) := by decide +kernel
theorem d_ArrS_newLength_cabcc_9 : decode b_ArrS_newLength_cabcc 9 = .ok (.iload_n 3, 1) := by decide +kernel
theorem d_ArrS_newLength_cabcc_10 : decode b_ArrS_newLength_cabcc 10 = .ok (.if_icmp .ge 11, 3) := by decide +kernel
theorem d_ArrS_newLength_cabcc_13 : decode b_ArrS_newLength_cabcc 13 = .ok (.iload_n 3, 1) := by decide +kernel
theorem d_ArrS_newLength_cabcc_14 : decode b_ArrS_newLength_cabcc 14 = .ok (.ldc 200, 2) := by decide +kernel
theorem d_ArrS_newLength_cabcc_16 : decode b_ArrS_newLength_cabcc 16 = .ok (.if_icmp .gt 5, 3) := by decide +kernel
theorem d_ArrS_newLength_cabcc_19 : decode b_ArrS_newLength_cabcc 19 = .ok (.iload_n 3, 1) := by decide +kernel
theorem d_ArrS_newLength_cabcc_20 : decode b_ArrS_newLength_cabcc 20 = .ok (.ireturn, 1) := by decide +kernel
theorem d_ArrS_newLength_cabcc_21 : decode b_ArrS_newLength_cabcc 21 = .ok (.iload_n 0, 1) := by decide +kernel
theorem d_ArrS_newLength_cabcc_22 : decode b_ArrS_newLength_cabcc 22 = .ok (.iload_n 1, 1) := by decide +kernel
theorem d_ArrS_newLength_cabcc_23 : decode b_ArrS_newLength_cabcc 23 = .ok (.invokestatic 201, 3) := by decide +kernel
theorem d_ArrS_newLength_cabcc_26 : decode b_ArrS_newLength_cabcc 26 = .ok (.ireturn, 1) := by decide +kernel
theorem d_ArrS_hugeLength_7cf53_0 : decode b_ArrS_hugeLength_7cf53 0 = .ok (.iload_n 0, 1) := by decide +kernel
theorem d_ArrS_hugeLength_7cf53_1 : decode b_ArrS_hugeLength_7cf53 1 = .ok (.iload_n 1, 1) := by decide +kernel
theorem d_ArrS_hugeLength_7cf53_2 : decode b_ArrS_hugeLength_7cf53 2 = .ok (.iadd, 1) := by decide +kernel
theorem d_ArrS_hugeLength_7cf53_3 : decode b_ArrS_hugeLength_7cf53 3 = .ok (.istore_n 2, 1) := by decide +kernel
theorem d_ArrS_hugeLength_7cf53_4 : decode b_ArrS_hugeLength_7cf53 4 = .ok (.iload_n 2, 1) := by decide +kernel
theorem d_ArrS_hugeLength_7cf53_5 : decode b_ArrS_hugeLength_7cf53 5 = .ok (.ifCond .ge 44, 3) := by decide +kernel
theorem d_ArrS_hugeLength_7cf53_8 : decode b_ArrS_hugeLength_7cf53 8 = .ok (.new 204, 3) := by decide +kernel
theorem d_ArrS_hugeLength_7cf53_11 : decode b_ArrS_hugeLength_7cf53 11 = .ok (.dup, 1) := by decide +kernel
theorem d_ArrS_hugeLength_7cf53_12 : decode b_ArrS_hugeLength_7cf53 12 = .ok (.new 89, 3) := by decide +kernel
theorem d_ArrS_hugeLength_7cf53_15 : decode b_ArrS_hugeLength_7cf53 15 = .ok (.dup, 1) := by decide +kernel
theorem d_ArrS_hugeLength_7cf53_16 : decode b_ArrS_hugeLength_7cf53 16 = .ok (.invokespecial 91, 3) := by decide +kernel
theorem d_ArrS_hugeLength_7cf53_19 : decode b_ArrS_hugeLength_7cf53 19 = .ok (.ldc 206, 2) := by decide +kernel
theorem d_ArrS_hugeLength_7cf53_21 : decode b_ArrS_hugeLength_7cf53 21 = .ok (.invokevirtual 94, 3) := by decide +kernel
theorem d_ArrS_hugeLength_7cf53_24 : decode b_ArrS_hugeLength_7cf53 24 = .ok (.iload_n 0, 1) := by decide +kernel
theorem d_ArrS_hugeLength_7cf53_25 : decode b_ArrS_hugeLength_7cf53 25 = .ok (.invokevirtual 98, 3) := by decide +kernel
theorem d_ArrS_hugeLength_7cf53_28 : decode b_ArrS_hugeLength_7cf53 28 = .ok (.ldc 208, 2) := by decide +kernel
theorem d_ArrS_hugeLength_7cf53_30 : decode b_ArrS_hugeLength_7cf53 30 = .ok (.invokevirtual 94, 3) := by decide +kernel
theorem d_ArrS_hugeLength_7cf53_33 : decode b_ArrS_hugeLength_7cf53 33 = .ok (.iload_n 1, 1) := by decide +kernel
theorem d_ArrS_hugeLength_7cf53_34 : decode b_ArrS_hugeLength_7cf53 34 = .ok (.invokevirtual 98, 3) := by decide +kernel
theorem d_ArrS_hugeLength_7cf53_37 : decode b_ArrS_hugeLength_7cf53 37 = .ok (.ldc 210, 2) := by decide +kernel
theorem d_ArrS_hugeLength_7cf53_39 : decode b_ArrS_hugeLength_7cf53 39 = .ok (.invokevirtual 94, 3) := by decide +kernel
theorem d_ArrS_hugeLength_7cf53_42 : decode b_ArrS_hugeLength_7cf53 42 = .ok (.invokevirtual 101, 3) := by decide +kernel
theorem d_ArrS_hugeLength_7cf53_45 : decode b_ArrS_hugeLength_7cf53 45 = .ok (.invokespecial 212, 3) := by decide +kernel
theorem d_ArrS_hugeLength_7cf53_48 : decode b_ArrS_hugeLength_7cf53 48 = .ok (.athrow, 1) := by decide +kernel
theorem d_ArrS_hugeLength_7cf53_49 : decode b_ArrS_hugeLength_7cf53 49 = .ok (.iload_n 2, 1) := by decide +kernel
theorem d_ArrS_hugeLength_7cf53_50 : decode b_ArrS_hugeLength_7cf53 50 = .ok (.ldc 200, 2) := by decide +kernel
theorem d_ArrS_hugeLength_7cf53_52 : decode b_ArrS_hugeLength_7cf53 52 = .ok (.if_icmp .gt 6, 3) := by decide +kernel
theorem d_ArrS_hugeLength_7cf53_55 : decode b_ArrS_hugeLength_7cf53 55 = .ok (.ldc 200, 2) := by decide +kernel
theorem d_ArrS_hugeLength_7cf53_57 : decode b_ArrS_hugeLength_7cf53 57 = .ok (.ireturn, 1) := by decide +kernel
theorem d_ArrS_hugeLength_7cf53_58 : decode b_ArrS_hugeLength_7cf53 58 = .ok (.iload_n 2, 1) := by decide +kernel
theorem d_ArrS_hugeLength_7cf53_59 : decode b_ArrS_hugeLength_7cf53 59 = .ok (.ireturn, 1) := by decide +kernel
theorem d_Prec_checkIndex_8e157_0 : decode b_Prec_checkIndex_8e157 0 = .ok (.iload_n 0, 1) := by decide +kernel
theorem d_Prec_checkIndex_8e157_1 : decode b_Prec_checkIndex_8e157 1 = .ok (.ifCond .lt 8, 3) := by decide +kernel
theorem d_Prec_checkIndex_8e157_4 : decode b_Prec_checkIndex_8e157 4 = .ok (.iload_n 0, 1) := by decide +kernel
theorem d_Prec_checkIndex_8e157_5 : decode b_Prec_checkIndex_8e157 5 = .ok (.iload_n 1, 1) := by decide +kernel
theorem d_Prec_checkIndex_8e157_6 : decode b_Prec_checkIndex_8e157 6 = .ok (.if_icmp .lt 10, 3) := by decide +kernel
theorem d_Prec_checkIndex_8e157_9 : decode b_Prec_checkIndex_8e157 9 = .ok (.aload_n 2, 1) := by decide +kernel
theorem d_Prec_checkIndex_8e157_10 : decode b_Prec_checkIndex_8e157 10 = .ok (.iload_n 0, 1) := by decide +kernel
theorem d_Prec_checkIndex_8e157_11 : decode b_Prec_checkIndex_8e157 11 = .ok (.iload_n 1, 1) := by decide +kernel
theorem d_Prec_checkIndex_8e157_12 : decode b_Prec_checkIndex_8e157 12 = .ok (.invokestatic 95, 3) := by decide +kernel
theorem d_Prec_checkIndex_8e157_15 : decode b_Prec_checkIndex_8e157 15 = .ok (.athrow, 1) := by decide +kernel
theorem d_Prec_checkIndex_8e157_16 : decode b_Prec_checkIndex_8e157 16 = .ok (.iload_n 0, 1) := by decide +kernel
theorem d_Prec_checkIndex_8e157_17 : decode b_Prec_checkIndex_8e157 17 = .ok (.ireturn, 1) := by decide +kernel
theorem d_Law_road_0 : decode b_Law_road 0 = .ok (.aload 8, 2) := by decide +kernel
theorem d_Law_road_2 : decode b_Law_road 2 = .ok (.iconst 0, 1) := by decide +kernel
theorem d_Law_road_3 : decode b_Law_road 3 = .ok (.aload_n 0, 1) := by decide +kernel
theorem d_Law_road_4 : decode b_Law_road 4 = .ok (.iload_n 1, 1) := by decide +kernel
theorem d_Law_road_5 : decode b_Law_road 5 = .ok (.iload_n 2, 1) := by decide +kernel
theorem d_Law_road_6 : decode b_Law_road 6 = .ok (.iload_n 3, 1) := by decide +kernel
theorem d_Law_road_7 : decode b_Law_road 7 = .ok (.iload 4, 2) := by decide +kernel
theorem d_Law_road_9 : decode b_Law_road 9 = .ok (.iload 5, 2) := by decide +kernel
theorem d_Law_road_11 : decode b_Law_road 11 = .ok (.iload 6, 2) := by decide +kernel
theorem d_Law_road_13 : decode b_Law_road 13 = .ok (.iload 7, 2) := by decide +kernel
theorem d_Law_road_15 : decode b_Law_road 15 = .ok (.invokevirtual 7, 3) := by decide +kernel
theorem d_Law_road_18 : decode b_Law_road 18 = .ok (.i2l, 1) := by decide +kernel
theorem d_Law_road_19 : decode b_Law_road 19 = .ok (.lastore, 1) := by decide +kernel
theorem d_Law_road_20 : decode b_Law_road 20 = .ok (.goto 15, 3) := by decide +kernel
theorem d_Law_road_23 : decode b_Law_road 23 = .ok (.astore 9, 2) := by decide +kernel
theorem d_Law_road_25 : decode b_Law_road 25 = .ok (.iconst 1, 1) := by decide +kernel
theorem d_Law_road_26 : decode b_Law_road 26 = .ok (.ireturn, 1) := by decide +kernel
theorem d_Law_road_27 : decode b_Law_road 27 = .ok (.astore 9, 2) := by decide +kernel
theorem d_Law_road_29 : decode b_Law_road 29 = .ok (.iconst 2, 1) := by decide +kernel
theorem d_Law_road_30 : decode b_Law_road 30 = .ok (.ireturn, 1) := by decide +kernel
theorem d_Law_road_31 : decode b_Law_road 31 = .ok (.astore 9, 2) := by decide +kernel
theorem d_Law_road_33 : decode b_Law_road 33 = .ok (.iconst 3, 1) := by decide +kernel
theorem d_Law_road_34 : decode b_Law_road 34 = .ok (.ireturn, 1) := by decide +kernel
theorem d_Law_road_35 : decode b_Law_road 35 = .ok (.iconst 0, 1) := by decide +kernel
theorem d_Law_road_36 : decode b_Law_road 36 = .ok (.ireturn, 1) := by decide +kernel
theorem d_Law_air_0 : decode b_Law_air 0 = .ok (.aload_n 3, 1) := by decide +kernel
theorem d_Law_air_1 : decode b_Law_air 1 = .ok (.iconst 0, 1) := by decide +kernel
theorem d_Law_air_2 : decode b_Law_air 2 = .ok (.aload_n 0, 1) := by decide +kernel
theorem d_Law_air_3 : decode b_Law_air 3 = .ok (.iload_n 1, 1) := by decide +kernel
theorem d_Law_air_4 : decode b_Law_air 4 = .ok (.iload_n 2, 1) := by decide +kernel
theorem d_Law_air_5 : decode b_Law_air 5 = .ok (.invokevirtual 19, 3) := by decide +kernel
theorem d_Law_air_8 : decode b_Law_air 8 = .ok (.i2l, 1) := by decide +kernel
theorem d_Law_air_9 : decode b_Law_air 9 = .ok (.lastore, 1) := by decide +kernel
theorem d_Law_air_10 : decode b_Law_air 10 = .ok (.goto 7, 3) := by decide +kernel
theorem d_Law_air_13 : decode b_Law_air 13 = .ok (.astore 4, 2) := by decide +kernel
theorem d_Law_air_15 : decode b_Law_air 15 = .ok (.iconst 1, 1) := by decide +kernel
theorem d_Law_air_16 : decode b_Law_air 16 = .ok (.ireturn, 1) := by decide +kernel
theorem d_Law_air_17 : decode b_Law_air 17 = .ok (.iconst 0, 1) := by decide +kernel
theorem d_Law_air_18 : decode b_Law_air 18 = .ok (.ireturn, 1) := by decide +kernel
theorem d_Law_fall_0 : decode b_Law_fall 0 = .ok (.aload 4, 2) := by decide +kernel
theorem d_Law_fall_2 : decode b_Law_fall 2 = .ok (.iconst 0, 1) := by decide +kernel
theorem d_Law_fall_3 : decode b_Law_fall 3 = .ok (.aload_n 0, 1) := by decide +kernel
theorem d_Law_fall_4 : decode b_Law_fall 4 = .ok (.iload_n 1, 1) := by decide +kernel
theorem d_Law_fall_5 : decode b_Law_fall 5 = .ok (.iload_n 2, 1) := by decide +kernel
theorem d_Law_fall_6 : decode b_Law_fall 6 = .ok (.iload_n 3, 1) := by decide +kernel
theorem d_Law_fall_7 : decode b_Law_fall 7 = .ok (.invokevirtual 23, 3) := by decide +kernel
theorem d_Law_fall_10 : decode b_Law_fall 10 = .ok (.i2l, 1) := by decide +kernel
theorem d_Law_fall_11 : decode b_Law_fall 11 = .ok (.lastore, 1) := by decide +kernel
theorem d_Law_fall_12 : decode b_Law_fall 12 = .ok (.goto 7, 3) := by decide +kernel
theorem d_Law_fall_15 : decode b_Law_fall 15 = .ok (.astore 5, 2) := by decide +kernel
theorem d_Law_fall_17 : decode b_Law_fall 17 = .ok (.iconst 1, 1) := by decide +kernel
theorem d_Law_fall_18 : decode b_Law_fall 18 = .ok (.ireturn, 1) := by decide +kernel
theorem d_Law_fall_19 : decode b_Law_fall 19 = .ok (.iconst 0, 1) := by decide +kernel
theorem d_Law_fall_20 : decode b_Law_fall 20 = .ok (.ireturn, 1) := by decide +kernel
theorem d_Law_forecast_0 : decode b_Law_forecast 0 = .ok (.aload 6, 2) := by decide +kernel
theorem d_Law_forecast_2 : decode b_Law_forecast 2 = .ok (.iconst 0, 1) := by decide +kernel
theorem d_Law_forecast_3 : decode b_Law_forecast 3 = .ok (.aload_n 0, 1) := by decide +kernel
theorem d_Law_forecast_4 : decode b_Law_forecast 4 = .ok (.iload_n 1, 1) := by decide +kernel
theorem d_Law_forecast_5 : decode b_Law_forecast 5 = .ok (.iload_n 2, 1) := by decide +kernel
theorem d_Law_forecast_6 : decode b_Law_forecast 6 = .ok (.iload_n 3, 1) := by decide +kernel
theorem d_Law_forecast_7 : decode b_Law_forecast 7 = .ok (.iload 4, 2) := by decide +kernel
theorem d_Law_forecast_9 : decode b_Law_forecast 9 = .ok (.iload 5, 2) := by decide +kernel
theorem d_Law_forecast_11 : decode b_Law_forecast 11 = .ok (.invokevirtual 27, 3) := by decide +kernel
theorem d_Law_forecast_14 : decode b_Law_forecast 14 = .ok (.i2l, 1) := by decide +kernel
theorem d_Law_forecast_15 : decode b_Law_forecast 15 = .ok (.lastore, 1) := by decide +kernel
theorem d_Law_forecast_16 : decode b_Law_forecast 16 = .ok (.goto 11, 3) := by decide +kernel
theorem d_Law_forecast_19 : decode b_Law_forecast 19 = .ok (.astore 7, 2) := by decide +kernel
theorem d_Law_forecast_21 : decode b_Law_forecast 21 = .ok (.iconst 1, 1) := by decide +kernel
theorem d_Law_forecast_22 : decode b_Law_forecast 22 = .ok (.ireturn, 1) := by decide +kernel
theorem d_Law_forecast_23 : decode b_Law_forecast 23 = .ok (.astore 7, 2) := by decide +kernel
theorem d_Law_forecast_25 : decode b_Law_forecast 25 = .ok (.iconst 2, 1) := by decide +kernel
theorem d_Law_forecast_26 : decode b_Law_forecast 26 = .ok (.ireturn, 1) := by decide +kernel
theorem d_Law_forecast_27 : decode b_Law_forecast 27 = .ok (.iconst 0, 1) := by decide +kernel
theorem d_Law_forecast_28 : decode b_Law_forecast 28 = .ok (.ireturn, 1) := by decide +kernel
theorem d_Law_pass_0 : decode b_Law_pass 0 = .ok (.aload_n 2, 1) := by decide +kernel
theorem d_Law_pass_1 : decode b_Law_pass 1 = .ok (.iconst 0, 1) := by decide +kernel
theorem d_Law_pass_2 : decode b_Law_pass 2 = .ok (.aload_n 0, 1) := by decide +kernel
theorem d_Law_pass_3 : decode b_Law_pass 3 = .ok (.iload_n 1, 1) := by decide +kernel
theorem d_Law_pass_4 : decode b_Law_pass 4 = .ok (.invokevirtual 31, 3) := by decide +kernel
theorem d_Law_pass_7 : decode b_Law_pass 7 = .ok (.i2l, 1) := by decide +kernel
theorem d_Law_pass_8 : decode b_Law_pass 8 = .ok (.lastore, 1) := by decide +kernel
theorem d_Law_pass_9 : decode b_Law_pass 9 = .ok (.goto 9, 3) := by decide +kernel
theorem d_Law_pass_12 : decode b_Law_pass 12 = .ok (.astore_n 3, 1) := by decide +kernel
theorem d_Law_pass_13 : decode b_Law_pass 13 = .ok (.iconst 1, 1) := by decide +kernel
theorem d_Law_pass_14 : decode b_Law_pass 14 = .ok (.ireturn, 1) := by decide +kernel
theorem d_Law_pass_15 : decode b_Law_pass 15 = .ok (.astore_n 3, 1) := by decide +kernel
theorem d_Law_pass_16 : decode b_Law_pass 16 = .ok (.iconst 2, 1) := by decide +kernel
theorem d_Law_pass_17 : decode b_Law_pass 17 = .ok (.ireturn, 1) := by decide +kernel
theorem d_Law_pass_18 : decode b_Law_pass 18 = .ok (.iconst 0, 1) := by decide +kernel
theorem d_Law_pass_19 : decode b_Law_pass 19 = .ok (.ireturn, 1) := by decide +kernel
theorem d_Law_lorry_0 : decode b_Law_lorry 0 = .ok (.aload_n 2, 1) := by decide +kernel
theorem d_Law_lorry_1 : decode b_Law_lorry 1 = .ok (.iconst 0, 1) := by decide +kernel
theorem d_Law_lorry_2 : decode b_Law_lorry 2 = .ok (.aload_n 0, 1) := by decide +kernel
theorem d_Law_lorry_3 : decode b_Law_lorry 3 = .ok (.iload_n 1, 1) := by decide +kernel
theorem d_Law_lorry_4 : decode b_Law_lorry 4 = .ok (.invokevirtual 35, 3) := by decide +kernel
theorem d_Law_lorry_7 : decode b_Law_lorry 7 = .ok (.i2l, 1) := by decide +kernel
theorem d_Law_lorry_8 : decode b_Law_lorry 8 = .ok (.lastore, 1) := by decide +kernel
theorem d_Law_lorry_9 : decode b_Law_lorry 9 = .ok (.goto 6, 3) := by decide +kernel
theorem d_Law_lorry_12 : decode b_Law_lorry 12 = .ok (.astore_n 3, 1) := by decide +kernel
theorem d_Law_lorry_13 : decode b_Law_lorry 13 = .ok (.iconst 1, 1) := by decide +kernel
theorem d_Law_lorry_14 : decode b_Law_lorry 14 = .ok (.ireturn, 1) := by decide +kernel
theorem d_Law_lorry_15 : decode b_Law_lorry 15 = .ok (.iconst 0, 1) := by decide +kernel
theorem d_Law_lorry_16 : decode b_Law_lorry 16 = .ok (.ireturn, 1) := by decide +kernel
theorem d_Law_rate_0 : decode b_Law_rate 0 = .ok (.aload_n 3, 1) := by decide +kernel
theorem d_Law_rate_1 : decode b_Law_rate 1 = .ok (.iconst 0, 1) := by decide +kernel
theorem d_Law_rate_2 : decode b_Law_rate 2 = .ok (.aload_n 0, 1) := by decide +kernel
theorem d_Law_rate_3 : decode b_Law_rate 3 = .ok (.iload_n 1, 1) := by decide +kernel
theorem d_Law_rate_4 : decode b_Law_rate 4 = .ok (.iload_n 2, 1) := by decide +kernel
theorem d_Law_rate_5 : decode b_Law_rate 5 = .ok (.invokevirtual 39, 3) := by decide +kernel
theorem d_Law_rate_8 : decode b_Law_rate 8 = .ok (.i2l, 1) := by decide +kernel
theorem d_Law_rate_9 : decode b_Law_rate 9 = .ok (.lastore, 1) := by decide +kernel
theorem d_Law_rate_10 : decode b_Law_rate 10 = .ok (.goto 11, 3) := by decide +kernel
theorem d_Law_rate_13 : decode b_Law_rate 13 = .ok (.astore 4, 2) := by decide +kernel
theorem d_Law_rate_15 : decode b_Law_rate 15 = .ok (.iconst 1, 1) := by decide +kernel
theorem d_Law_rate_16 : decode b_Law_rate 16 = .ok (.ireturn, 1) := by decide +kernel
theorem d_Law_rate_17 : decode b_Law_rate 17 = .ok (.astore 4, 2) := by decide +kernel
theorem d_Law_rate_19 : decode b_Law_rate 19 = .ok (.iconst 2, 1) := by decide +kernel
theorem d_Law_rate_20 : decode b_Law_rate 20 = .ok (.ireturn, 1) := by decide +kernel
theorem d_Law_rate_21 : decode b_Law_rate 21 = .ok (.iconst 0, 1) := by decide +kernel
theorem d_Law_rate_22 : decode b_Law_rate 22 = .ok (.ireturn, 1) := by decide +kernel
theorem d_Law_order_0 : decode b_Law_order 0 = .ok (.aload_n 3, 1) := by decide +kernel
theorem d_Law_order_1 : decode b_Law_order 1 = .ok (.iconst 0, 1) := by decide +kernel
theorem d_Law_order_2 : decode b_Law_order 2 = .ok (.aload_n 0, 1) := by decide +kernel
theorem d_Law_order_3 : decode b_Law_order 3 = .ok (.iload_n 1, 1) := by decide +kernel
theorem d_Law_order_4 : decode b_Law_order 4 = .ok (.iload_n 2, 1) := by decide +kernel
theorem d_Law_order_5 : decode b_Law_order 5 = .ok (.invokevirtual 43, 3) := by decide +kernel
theorem d_Law_order_8 : decode b_Law_order 8 = .ok (.i2l, 1) := by decide +kernel
theorem d_Law_order_9 : decode b_Law_order 9 = .ok (.lastore, 1) := by decide +kernel
theorem d_Law_order_10 : decode b_Law_order 10 = .ok (.goto 11, 3) := by decide +kernel
theorem d_Law_order_13 : decode b_Law_order 13 = .ok (.astore 4, 2) := by decide +kernel
theorem d_Law_order_15 : decode b_Law_order 15 = .ok (.iconst 1, 1) := by decide +kernel
theorem d_Law_order_16 : decode b_Law_order 16 = .ok (.ireturn, 1) := by decide +kernel
theorem d_Law_order_17 : decode b_Law_order 17 = .ok (.astore 4, 2) := by decide +kernel
theorem d_Law_order_19 : decode b_Law_order 19 = .ok (.iconst 2, 1) := by decide +kernel
theorem d_Law_order_20 : decode b_Law_order 20 = .ok (.ireturn, 1) := by decide +kernel
theorem d_Law_order_21 : decode b_Law_order 21 = .ok (.iconst 0, 1) := by decide +kernel
theorem d_Law_order_22 : decode b_Law_order 22 = .ok (.ireturn, 1) := by decide +kernel
theorem d_Law_load_0 : decode b_Law_load 0 = .ok (.aload_n 2, 1) := by decide +kernel
theorem d_Law_load_1 : decode b_Law_load 1 = .ok (.iconst 0, 1) := by decide +kernel
theorem d_Law_load_2 : decode b_Law_load 2 = .ok (.aload_n 0, 1) := by decide +kernel
theorem d_Law_load_3 : decode b_Law_load 3 = .ok (.iload_n 1, 1) := by decide +kernel
theorem d_Law_load_4 : decode b_Law_load 4 = .ok (.invokevirtual 46, 3) := by decide +kernel
theorem d_Law_load_7 : decode b_Law_load 7 = .ok (.i2l, 1) := by decide +kernel
theorem d_Law_load_8 : decode b_Law_load 8 = .ok (.lastore, 1) := by decide +kernel
theorem d_Law_load_9 : decode b_Law_load 9 = .ok (.goto 9, 3) := by decide +kernel
theorem d_Law_load_12 : decode b_Law_load 12 = .ok (.astore_n 3, 1) := by decide +kernel
theorem d_Law_load_13 : decode b_Law_load 13 = .ok (.iconst 1, 1) := by decide +kernel
theorem d_Law_load_14 : decode b_Law_load 14 = .ok (.ireturn, 1) := by decide +kernel
theorem d_Law_load_15 : decode b_Law_load 15 = .ok (.astore_n 3, 1) := by decide +kernel
theorem d_Law_load_16 : decode b_Law_load 16 = .ok (.iconst 2, 1) := by decide +kernel
theorem d_Law_load_17 : decode b_Law_load 17 = .ok (.ireturn, 1) := by decide +kernel
theorem d_Law_load_18 : decode b_Law_load 18 = .ok (.iconst 0, 1) := by decide +kernel
theorem d_Law_load_19 : decode b_Law_load 19 = .ok (.ireturn, 1) := by decide +kernel
theorem d_Law_rest_0 : decode b_Law_rest 0 = .ok (.aload_n 2, 1) := by decide +kernel
theorem d_Law_rest_1 : decode b_Law_rest 1 = .ok (.iconst 0, 1) := by decide +kernel
theorem d_Law_rest_2 : decode b_Law_rest 2 = .ok (.aload_n 0, 1) := by decide +kernel
theorem d_Law_rest_3 : decode b_Law_rest 3 = .ok (.iload_n 1, 1) := by decide +kernel
theorem d_Law_rest_4 : decode b_Law_rest 4 = .ok (.invokevirtual 49, 3) := by decide +kernel
theorem d_Law_rest_7 : decode b_Law_rest 7 = .ok (.i2l, 1) := by decide +kernel
theorem d_Law_rest_8 : decode b_Law_rest 8 = .ok (.lastore, 1) := by decide +kernel
theorem d_Law_rest_9 : decode b_Law_rest 9 = .ok (.goto 9, 3) := by decide +kernel
theorem d_Law_rest_12 : decode b_Law_rest 12 = .ok (.astore_n 3, 1) := by decide +kernel
theorem d_Law_rest_13 : decode b_Law_rest 13 = .ok (.iconst 1, 1) := by decide +kernel
theorem d_Law_rest_14 : decode b_Law_rest 14 = .ok (.ireturn, 1) := by decide +kernel
theorem d_Law_rest_15 : decode b_Law_rest 15 = .ok (.astore_n 3, 1) := by decide +kernel
theorem d_Law_rest_16 : decode b_Law_rest 16 = .ok (.iconst 2, 1) := by decide +kernel
theorem d_Law_rest_17 : decode b_Law_rest 17 = .ok (.ireturn, 1) := by decide +kernel
theorem d_Law_rest_18 : decode b_Law_rest 18 = .ok (.iconst 0, 1) := by decide +kernel
theorem d_Law_rest_19 : decode b_Law_rest 19 = .ok (.ireturn, 1) := by decide +kernel
theorem d_Law_deliver_0 : decode b_Law_deliver 0 = .ok (.aload_n 3, 1) := by decide +kernel
theorem d_Law_deliver_1 : decode b_Law_deliver 1 = .ok (.iconst 0, 1) := by decide +kernel
theorem d_Law_deliver_2 : decode b_Law_deliver 2 = .ok (.aload_n 0, 1) := by decide +kernel
theorem d_Law_deliver_3 : decode b_Law_deliver 3 = .ok (.iload_n 1, 1) := by decide +kernel
theorem d_Law_deliver_4 : decode b_Law_deliver 4 = .ok (.iload_n 2, 1) := by decide +kernel
theorem d_Law_deliver_5 : decode b_Law_deliver 5 = .ok (.invokevirtual 52, 3) := by decide +kernel
theorem d_Law_deliver_8 : decode b_Law_deliver 8 = .ok (.i2l, 1) := by decide +kernel
theorem d_Law_deliver_9 : decode b_Law_deliver 9 = .ok (.lastore, 1) := by decide +kernel
theorem d_Law_deliver_10 : decode b_Law_deliver 10 = .ok (.goto 11, 3) := by decide +kernel
theorem d_Law_deliver_13 : decode b_Law_deliver 13 = .ok (.astore 4, 2) := by decide +kernel
theorem d_Law_deliver_15 : decode b_Law_deliver 15 = .ok (.iconst 1, 1) := by decide +kernel
theorem d_Law_deliver_16 : decode b_Law_deliver 16 = .ok (.ireturn, 1) := by decide +kernel
theorem d_Law_deliver_17 : decode b_Law_deliver 17 = .ok (.astore 4, 2) := by decide +kernel
theorem d_Law_deliver_19 : decode b_Law_deliver 19 = .ok (.iconst 2, 1) := by decide +kernel
theorem d_Law_deliver_20 : decode b_Law_deliver 20 = .ok (.ireturn, 1) := by decide +kernel
theorem d_Law_deliver_21 : decode b_Law_deliver 21 = .ok (.iconst 0, 1) := by decide +kernel
theorem d_Law_deliver_22 : decode b_Law_deliver 22 = .ok (.ireturn, 1) := by decide +kernel
theorem d_Law_claim_0 : decode b_Law_claim 0 = .ok (.aload_n 3, 1) := by decide +kernel
theorem d_Law_claim_1 : decode b_Law_claim 1 = .ok (.iconst 0, 1) := by decide +kernel
theorem d_Law_claim_2 : decode b_Law_claim 2 = .ok (.aload_n 0, 1) := by decide +kernel
theorem d_Law_claim_3 : decode b_Law_claim 3 = .ok (.iload_n 1, 1) := by decide +kernel
theorem d_Law_claim_4 : decode b_Law_claim 4 = .ok (.iload_n 2, 1) := by decide +kernel
theorem d_Law_claim_5 : decode b_Law_claim 5 = .ok (.invokevirtual 55, 3) := by decide +kernel
theorem d_Law_claim_8 : decode b_Law_claim 8 = .ok (.i2l, 1) := by decide +kernel
theorem d_Law_claim_9 : decode b_Law_claim 9 = .ok (.lastore, 1) := by decide +kernel
theorem d_Law_claim_10 : decode b_Law_claim 10 = .ok (.goto 11, 3) := by decide +kernel
theorem d_Law_claim_13 : decode b_Law_claim 13 = .ok (.astore 4, 2) := by decide +kernel
theorem d_Law_claim_15 : decode b_Law_claim 15 = .ok (.iconst 1, 1) := by decide +kernel
theorem d_Law_claim_16 : decode b_Law_claim 16 = .ok (.ireturn, 1) := by decide +kernel
theorem d_Law_claim_17 : decode b_Law_claim 17 = .ok (.astore 4, 2) := by decide +kernel
theorem d_Law_claim_19 : decode b_Law_claim 19 = .ok (.iconst 2, 1) := by decide +kernel
theorem d_Law_claim_20 : decode b_Law_claim 20 = .ok (.ireturn, 1) := by decide +kernel
theorem d_Law_claim_21 : decode b_Law_claim 21 = .ok (.iconst 0, 1) := by decide +kernel
theorem d_Law_claim_22 : decode b_Law_claim 22 = .ok (.ireturn, 1) := by decide +kernel
theorem d_Law_ofRoad_0 : decode b_Law_ofRoad 0 = .ok (.aload_n 3, 1) := by decide +kernel
theorem d_Law_ofRoad_1 : decode b_Law_ofRoad 1 = .ok (.iconst 0, 1) := by decide +kernel
theorem d_Law_ofRoad_2 : decode b_Law_ofRoad 2 = .ok (.aload_n 0, 1) := by decide +kernel
theorem d_Law_ofRoad_3 : decode b_Law_ofRoad 3 = .ok (.iload_n 1, 1) := by decide +kernel
theorem d_Law_ofRoad_4 : decode b_Law_ofRoad 4 = .ok (.iload_n 2, 1) := by decide +kernel
theorem d_Law_ofRoad_5 : decode b_Law_ofRoad 5 = .ok (.invokevirtual 58, 3) := by decide +kernel
theorem d_Law_ofRoad_8 : decode b_Law_ofRoad 8 = .ok (.i2l, 1) := by decide +kernel
theorem d_Law_ofRoad_9 : decode b_Law_ofRoad 9 = .ok (.lastore, 1) := by decide +kernel
theorem d_Law_ofRoad_10 : decode b_Law_ofRoad 10 = .ok (.goto 11, 3) := by decide +kernel
theorem d_Law_ofRoad_13 : decode b_Law_ofRoad 13 = .ok (.astore 4, 2) := by decide +kernel
theorem d_Law_ofRoad_15 : decode b_Law_ofRoad 15 = .ok (.iconst 1, 1) := by decide +kernel
theorem d_Law_ofRoad_16 : decode b_Law_ofRoad 16 = .ok (.ireturn, 1) := by decide +kernel
theorem d_Law_ofRoad_17 : decode b_Law_ofRoad 17 = .ok (.astore 4, 2) := by decide +kernel
theorem d_Law_ofRoad_19 : decode b_Law_ofRoad 19 = .ok (.iconst 2, 1) := by decide +kernel
theorem d_Law_ofRoad_20 : decode b_Law_ofRoad 20 = .ok (.ireturn, 1) := by decide +kernel
theorem d_Law_ofRoad_21 : decode b_Law_ofRoad 21 = .ok (.iconst 0, 1) := by decide +kernel
theorem d_Law_ofRoad_22 : decode b_Law_ofRoad 22 = .ok (.ireturn, 1) := by decide +kernel
theorem d_Law_ofLorry_0 : decode b_Law_ofLorry 0 = .ok (.aload_n 3, 1) := by decide +kernel
theorem d_Law_ofLorry_1 : decode b_Law_ofLorry 1 = .ok (.iconst 0, 1) := by decide +kernel
theorem d_Law_ofLorry_2 : decode b_Law_ofLorry 2 = .ok (.aload_n 0, 1) := by decide +kernel
theorem d_Law_ofLorry_3 : decode b_Law_ofLorry 3 = .ok (.iload_n 1, 1) := by decide +kernel
theorem d_Law_ofLorry_4 : decode b_Law_ofLorry 4 = .ok (.iload_n 2, 1) := by decide +kernel
theorem d_Law_ofLorry_5 : decode b_Law_ofLorry 5 = .ok (.invokevirtual 61, 3) := by decide +kernel
theorem d_Law_ofLorry_8 : decode b_Law_ofLorry 8 = .ok (.i2l, 1) := by decide +kernel
theorem d_Law_ofLorry_9 : decode b_Law_ofLorry 9 = .ok (.lastore, 1) := by decide +kernel
theorem d_Law_ofLorry_10 : decode b_Law_ofLorry 10 = .ok (.goto 11, 3) := by decide +kernel
theorem d_Law_ofLorry_13 : decode b_Law_ofLorry 13 = .ok (.astore 4, 2) := by decide +kernel
theorem d_Law_ofLorry_15 : decode b_Law_ofLorry 15 = .ok (.iconst 1, 1) := by decide +kernel
theorem d_Law_ofLorry_16 : decode b_Law_ofLorry 16 = .ok (.ireturn, 1) := by decide +kernel
theorem d_Law_ofLorry_17 : decode b_Law_ofLorry 17 = .ok (.astore 4, 2) := by decide +kernel
theorem d_Law_ofLorry_19 : decode b_Law_ofLorry 19 = .ok (.iconst 2, 1) := by decide +kernel
theorem d_Law_ofLorry_20 : decode b_Law_ofLorry 20 = .ok (.ireturn, 1) := by decide +kernel
theorem d_Law_ofLorry_21 : decode b_Law_ofLorry 21 = .ok (.iconst 0, 1) := by decide +kernel
theorem d_Law_ofLorry_22 : decode b_Law_ofLorry 22 = .ok (.ireturn, 1) := by decide +kernel
theorem d_Law_many_0 : decode b_Law_many 0 = .ok (.aload_n 2, 1) := by decide +kernel
theorem d_Law_many_1 : decode b_Law_many 1 = .ok (.iconst 0, 1) := by decide +kernel
theorem d_Law_many_2 : decode b_Law_many 2 = .ok (.aload_n 0, 1) := by decide +kernel
theorem d_Law_many_3 : decode b_Law_many 3 = .ok (.iload_n 1, 1) := by decide +kernel
theorem d_Law_many_4 : decode b_Law_many 4 = .ok (.invokevirtual 64, 3) := by decide +kernel
theorem d_Law_many_7 : decode b_Law_many 7 = .ok (.i2l, 1) := by decide +kernel
theorem d_Law_many_8 : decode b_Law_many 8 = .ok (.lastore, 1) := by decide +kernel
theorem d_Law_many_9 : decode b_Law_many 9 = .ok (.goto 6, 3) := by decide +kernel
theorem d_Law_many_12 : decode b_Law_many 12 = .ok (.astore_n 3, 1) := by decide +kernel
theorem d_Law_many_13 : decode b_Law_many 13 = .ok (.iconst 1, 1) := by decide +kernel
theorem d_Law_many_14 : decode b_Law_many 14 = .ok (.ireturn, 1) := by decide +kernel
theorem d_Law_many_15 : decode b_Law_many 15 = .ok (.iconst 0, 1) := by decide +kernel
theorem d_Law_many_16 : decode b_Law_many 16 = .ok (.ireturn, 1) := by decide +kernel
theorem d_Law_way_0 : decode b_Law_way 0 = .ok (.aload_n 3, 1) := by decide +kernel
theorem d_Law_way_1 : decode b_Law_way 1 = .ok (.iconst 0, 1) := by decide +kernel
theorem d_Law_way_2 : decode b_Law_way 2 = .ok (.aload_n 0, 1) := by decide +kernel
theorem d_Law_way_3 : decode b_Law_way 3 = .ok (.iload_n 1, 1) := by decide +kernel
theorem d_Law_way_4 : decode b_Law_way 4 = .ok (.iload_n 2, 1) := by decide +kernel
theorem d_Law_way_5 : decode b_Law_way 5 = .ok (.invokevirtual 67, 3) := by decide +kernel
theorem d_Law_way_8 : decode b_Law_way 8 = .ok (.i2l, 1) := by decide +kernel
theorem d_Law_way_9 : decode b_Law_way 9 = .ok (.lastore, 1) := by decide +kernel
theorem d_Law_way_10 : decode b_Law_way 10 = .ok (.goto 7, 3) := by decide +kernel
theorem d_Law_way_13 : decode b_Law_way 13 = .ok (.astore 4, 2) := by decide +kernel
theorem d_Law_way_15 : decode b_Law_way 15 = .ok (.iconst 1, 1) := by decide +kernel
theorem d_Law_way_16 : decode b_Law_way 16 = .ok (.ireturn, 1) := by decide +kernel
theorem d_Law_way_17 : decode b_Law_way 17 = .ok (.iconst 0, 1) := by decide +kernel
theorem d_Law_way_18 : decode b_Law_way 18 = .ok (.ireturn, 1) := by decide +kernel
theorem d_Law_slipperyIn_0 : decode b_Law_slipperyIn 0 = .ok (.aload_n 3, 1) := by decide +kernel
theorem d_Law_slipperyIn_1 : decode b_Law_slipperyIn 1 = .ok (.iconst 0, 1) := by decide +kernel
theorem d_Law_slipperyIn_2 : decode b_Law_slipperyIn 2 = .ok (.aload_n 0, 1) := by decide +kernel
theorem d_Law_slipperyIn_3 : decode b_Law_slipperyIn 3 = .ok (.iload_n 1, 1) := by decide +kernel
theorem d_Law_slipperyIn_4 : decode b_Law_slipperyIn 4 = .ok (.iload_n 2, 1) := by decide +kernel
theorem d_Law_slipperyIn_5 : decode b_Law_slipperyIn 5 = .ok (.invokevirtual 70, 3) := by decide +kernel
theorem d_Law_slipperyIn_8 : decode b_Law_slipperyIn 8 = .ok (.i2l, 1) := by decide +kernel
theorem d_Law_slipperyIn_9 : decode b_Law_slipperyIn 9 = .ok (.lastore, 1) := by decide +kernel
theorem d_Law_slipperyIn_10 : decode b_Law_slipperyIn 10 = .ok (.goto 11, 3) := by decide +kernel
theorem d_Law_slipperyIn_13 : decode b_Law_slipperyIn 13 = .ok (.astore 4, 2) := by decide +kernel
theorem d_Law_slipperyIn_15 : decode b_Law_slipperyIn 15 = .ok (.iconst 1, 1) := by decide +kernel
theorem d_Law_slipperyIn_16 : decode b_Law_slipperyIn 16 = .ok (.ireturn, 1) := by decide +kernel
theorem d_Law_slipperyIn_17 : decode b_Law_slipperyIn 17 = .ok (.astore 4, 2) := by decide +kernel
theorem d_Law_slipperyIn_19 : decode b_Law_slipperyIn 19 = .ok (.iconst 2, 1) := by decide +kernel
theorem d_Law_slipperyIn_20 : decode b_Law_slipperyIn 20 = .ok (.ireturn, 1) := by decide +kernel
theorem d_Law_slipperyIn_21 : decode b_Law_slipperyIn 21 = .ok (.iconst 0, 1) := by decide +kernel
theorem d_Law_slipperyIn_22 : decode b_Law_slipperyIn 22 = .ok (.ireturn, 1) := by decide +kernel
theorem d_Law_saltFor_0 : decode b_Law_saltFor 0 = .ok (.aload_n 3, 1) := by decide +kernel
theorem d_Law_saltFor_1 : decode b_Law_saltFor 1 = .ok (.iconst 0, 1) := by decide +kernel
theorem d_Law_saltFor_2 : decode b_Law_saltFor 2 = .ok (.aload_n 0, 1) := by decide +kernel
theorem d_Law_saltFor_3 : decode b_Law_saltFor 3 = .ok (.iload_n 1, 1) := by decide +kernel
theorem d_Law_saltFor_4 : decode b_Law_saltFor 4 = .ok (.iload_n 2, 1) := by decide +kernel
theorem d_Law_saltFor_5 : decode b_Law_saltFor 5 = .ok (.invokevirtual 73, 3) := by decide +kernel
theorem d_Law_saltFor_8 : decode b_Law_saltFor 8 = .ok (.i2l, 1) := by decide +kernel
theorem d_Law_saltFor_9 : decode b_Law_saltFor 9 = .ok (.lastore, 1) := by decide +kernel
theorem d_Law_saltFor_10 : decode b_Law_saltFor 10 = .ok (.goto 11, 3) := by decide +kernel
theorem d_Law_saltFor_13 : decode b_Law_saltFor 13 = .ok (.astore 4, 2) := by decide +kernel
theorem d_Law_saltFor_15 : decode b_Law_saltFor 15 = .ok (.iconst 1, 1) := by decide +kernel
theorem d_Law_saltFor_16 : decode b_Law_saltFor 16 = .ok (.ireturn, 1) := by decide +kernel
theorem d_Law_saltFor_17 : decode b_Law_saltFor 17 = .ok (.astore 4, 2) := by decide +kernel
theorem d_Law_saltFor_19 : decode b_Law_saltFor 19 = .ok (.iconst 2, 1) := by decide +kernel
theorem d_Law_saltFor_20 : decode b_Law_saltFor 20 = .ok (.ireturn, 1) := by decide +kernel
theorem d_Law_saltFor_21 : decode b_Law_saltFor 21 = .ok (.iconst 0, 1) := by decide +kernel
theorem d_Law_saltFor_22 : decode b_Law_saltFor 22 = .ok (.ireturn, 1) := by decide +kernel
theorem d_Law_bestOrders_0 : decode b_Law_bestOrders 0 = .ok (.aload_n 3, 1) := by decide +kernel
theorem d_Law_bestOrders_1 : decode b_Law_bestOrders 1 = .ok (.iconst 0, 1) := by decide +kernel
theorem d_Law_bestOrders_2 : decode b_Law_bestOrders 2 = .ok (.aload_n 0, 1) := by decide +kernel
theorem d_Law_bestOrders_3 : decode b_Law_bestOrders 3 = .ok (.iload_n 1, 1) := by decide +kernel
theorem d_Law_bestOrders_4 : decode b_Law_bestOrders 4 = .ok (.iload_n 2, 1) := by decide +kernel
theorem d_Law_bestOrders_5 : decode b_Law_bestOrders 5 = .ok (.invokevirtual 76, 3) := by decide +kernel
theorem d_Law_bestOrders_8 : decode b_Law_bestOrders 8 = .ok (.i2l, 1) := by decide +kernel
theorem d_Law_bestOrders_9 : decode b_Law_bestOrders 9 = .ok (.lastore, 1) := by decide +kernel
theorem d_Law_bestOrders_10 : decode b_Law_bestOrders 10 = .ok (.goto 7, 3) := by decide +kernel
theorem d_Law_bestOrders_13 : decode b_Law_bestOrders 13 = .ok (.astore 4, 2) := by decide +kernel
theorem d_Law_bestOrders_15 : decode b_Law_bestOrders 15 = .ok (.iconst 1, 1) := by decide +kernel
theorem d_Law_bestOrders_16 : decode b_Law_bestOrders 16 = .ok (.ireturn, 1) := by decide +kernel
theorem d_Law_bestOrders_17 : decode b_Law_bestOrders 17 = .ok (.iconst 0, 1) := by decide +kernel
theorem d_Law_bestOrders_18 : decode b_Law_bestOrders 18 = .ok (.ireturn, 1) := by decide +kernel
theorem d_Law_law_0 : decode b_Law_law 0 = .ok (.new 8, 3) := by decide +kernel
theorem d_Law_law_3 : decode b_Law_law 3 = .ok (.dup, 1) := by decide +kernel
theorem d_Law_law_4 : decode b_Law_law 4 = .ok (.invokespecial 79, 3) := by decide +kernel
theorem d_Law_law_7 : decode b_Law_law 7 = .ok (.astore_n 1, 1) := by decide +kernel
theorem d_Law_law_8 : decode b_Law_law 8 = .ok (.new 80, 3) := by decide +kernel
theorem d_Law_law_11 : decode b_Law_law 11 = .ok (.dup, 1) := by decide +kernel
theorem d_Law_law_12 : decode b_Law_law 12 = .ok (.invokespecial 82, 3) := by decide +kernel
theorem d_Law_law_15 : decode b_Law_law 15 = .ok (.astore_n 2, 1) := by decide +kernel
theorem d_Law_law_16 : decode b_Law_law 16 = .ok (.iconst 1, 1) := by decide +kernel
theorem d_Law_law_17 : decode b_Law_law 17 = .ok (.newarray .long, 2) := by decide +kernel
theorem d_Law_law_19 : decode b_Law_law 19 = .ok (.astore_n 3, 1) := by decide +kernel
theorem d_Law_law_20 : decode b_Law_law 20 = .ok (.iconst 0, 1) := by decide +kernel
theorem d_Law_law_21 : decode b_Law_law 21 = .ok (.istore 4, 2) := by decide +kernel
theorem d_Law_law_23 : decode b_Law_law 23 = .ok (.iload 4, 2) := by decide +kernel
theorem d_Law_law_25 : decode b_Law_law 25 = .ok (.aload_n 0, 1) := by decide +kernel
theorem d_Law_law_26 : decode b_Law_law 26 = .ok (.arraylength, 1) := by decide +kernel
theorem d_Law_law_27 : decode b_Law_law 27 = .ok (.bipush 8, 2) := by decide +kernel
theorem d_Law_law_29 : decode b_Law_law 29 = .ok (.isub, 1) := by decide +kernel
theorem d_Law_law_30 : decode b_Law_law 30 = .ok (.if_icmp .gt 1579, 3) := by decide +kernel
theorem d_Law_law_33 : decode b_Law_law 33 = .ok (.aload_n 0, 1) := by decide +kernel
theorem d_Law_law_34 : decode b_Law_law 34 = .ok (.iload 4, 2) := by decide +kernel
theorem d_Law_law_36 : decode b_Law_law 36 = .ok (.iaload, 1) := by decide +kernel
theorem d_Law_law_37 : decode b_Law_law 37 = .ok (.bipush 31, 2) := by decide +kernel
theorem d_Law_law_39 : decode b_Law_law 39 = .ok (.iand, 1) := by decide +kernel
theorem d_Law_law_40 : decode b_Law_law 40 = .ok (.tableswitch 1563 0 20 #[100, 248, 332, 412, 532, 588, 660, 728, 796, 852, 908, 976, 1044, 1112, 1180, 1236, 1304, 1345, 1413, 1481, 1549], 100) := by decide +kernel
theorem d_Law_law_140 : decode b_Law_law 140 = .ok (.aload_n 1, 1) := by decide +kernel
theorem d_Law_law_141 : decode b_Law_law 141 = .ok (.aload_n 0, 1) := by decide +kernel
theorem d_Law_law_142 : decode b_Law_law 142 = .ok (.iload 4, 2) := by decide +kernel
theorem d_Law_law_144 : decode b_Law_law 144 = .ok (.iconst 1, 1) := by decide +kernel
theorem d_Law_law_145 : decode b_Law_law 145 = .ok (.iadd, 1) := by decide +kernel
theorem d_Law_law_146 : decode b_Law_law 146 = .ok (.iaload, 1) := by decide +kernel
theorem d_Law_law_147 : decode b_Law_law 147 = .ok (.aload_n 0, 1) := by decide +kernel
theorem d_Law_law_148 : decode b_Law_law 148 = .ok (.iload 4, 2) := by decide +kernel
theorem d_Law_law_150 : decode b_Law_law 150 = .ok (.iconst 2, 1) := by decide +kernel
theorem d_Law_law_151 : decode b_Law_law 151 = .ok (.iadd, 1) := by decide +kernel
theorem d_Law_law_152 : decode b_Law_law 152 = .ok (.iaload, 1) := by decide +kernel
theorem d_Law_law_153 : decode b_Law_law 153 = .ok (.aload_n 0, 1) := by decide +kernel
theorem d_Law_law_154 : decode b_Law_law 154 = .ok (.iload 4, 2) := by decide +kernel
theorem d_Law_law_156 : decode b_Law_law 156 = .ok (.iconst 3, 1) := by decide +kernel
theorem d_Law_law_157 : decode b_Law_law 157 = .ok (.iadd, 1) := by decide +kernel
theorem d_Law_law_158 : decode b_Law_law 158 = .ok (.iaload, 1) := by decide +kernel
theorem d_Law_law_159 : decode b_Law_law 159 = .ok (.aload_n 0, 1) := by decide +kernel
theorem d_Law_law_160 : decode b_Law_law 160 = .ok (.iload 4, 2) := by decide +kernel
theorem d_Law_law_162 : decode b_Law_law 162 = .ok (.iconst 4, 1) := by decide +kernel
theorem d_Law_law_163 : decode b_Law_law 163 = .ok (.iadd, 1) := by decide +kernel
theorem d_Law_law_164 : decode b_Law_law 164 = .ok (.iaload, 1) := by decide +kernel
theorem d_Law_law_165 : decode b_Law_law 165 = .ok (.aload_n 0, 1) := by decide +kernel
theorem d_Law_law_166 : decode b_Law_law 166 = .ok (.iload 4, 2) := by decide +kernel
theorem d_Law_law_168 : decode b_Law_law 168 = .ok (.iconst 5, 1) := by decide +kernel
theorem d_Law_law_169 : decode b_Law_law 169 = .ok (.iadd, 1) := by decide +kernel
theorem d_Law_law_170 : decode b_Law_law 170 = .ok (.iaload, 1) := by decide +kernel
theorem d_Law_law_171 : decode b_Law_law 171 = .ok (.aload_n 0, 1) := by decide +kernel
theorem d_Law_law_172 : decode b_Law_law 172 = .ok (.iload 4, 2) := by decide +kernel
theorem d_Law_law_174 : decode b_Law_law 174 = .ok (.bipush 6, 2) := by decide +kernel
theorem d_Law_law_176 : decode b_Law_law 176 = .ok (.iadd, 1) := by decide +kernel
theorem d_Law_law_177 : decode b_Law_law 177 = .ok (.iaload, 1) := by decide +kernel
theorem d_Law_law_178 : decode b_Law_law 178 = .ok (.aload_n 0, 1) := by decide +kernel
theorem d_Law_law_179 : decode b_Law_law 179 = .ok (.iload 4, 2) := by decide +kernel
theorem d_Law_law_181 : decode b_Law_law 181 = .ok (.bipush 7, 2) := by decide +kernel
theorem d_Law_law_183 : decode b_Law_law 183 = .ok (.iadd, 1) := by decide +kernel
theorem d_Law_law_184 : decode b_Law_law 184 = .ok (.iaload, 1) := by decide +kernel
theorem d_Law_law_185 : decode b_Law_law 185 = .ok (.ifCond .eq 7, 3) := by decide +kernel
theorem d_Law_law_188 : decode b_Law_law 188 = .ok (.iconst 1, 1) := by decide +kernel
theorem d_Law_law_189 : decode b_Law_law 189 = .ok (.goto 4, 3) := by decide +kernel
theorem d_Law_law_192 : decode b_Law_law 192 = .ok (.iconst 0, 1) := by decide +kernel
theorem d_Law_law_193 : decode b_Law_law 193 = .ok (.aload_n 3, 1) := by decide +kernel
theorem d_Law_law_194 : decode b_Law_law 194 = .ok (.invokestatic 83, 3) := by decide +kernel
theorem d_Law_law_197 : decode b_Law_law 197 = .ok (.istore 5, 2) := by decide +kernel
theorem d_Law_law_199 : decode b_Law_law 199 = .ok (.aload_n 2, 1) := by decide +kernel
theorem d_Law_law_200 : decode b_Law_law 200 = .ok (.aload_n 0, 1) := by decide +kernel
theorem d_Law_law_201 : decode b_Law_law 201 = .ok (.iload 4, 2) := by decide +kernel
theorem d_Law_law_203 : decode b_Law_law 203 = .ok (.iconst 1, 1) := by decide +kernel
theorem d_Law_law_204 : decode b_Law_law 204 = .ok (.iadd, 1) := by decide +kernel
theorem d_Law_law_205 : decode b_Law_law 205 = .ok (.iaload, 1) := by decide +kernel
theorem d_Law_law_206 : decode b_Law_law 206 = .ok (.aload_n 0, 1) := by decide +kernel
theorem d_Law_law_207 : decode b_Law_law 207 = .ok (.iload 4, 2) := by decide +kernel
theorem d_Law_law_209 : decode b_Law_law 209 = .ok (.iconst 2, 1) := by decide +kernel
theorem d_Law_law_210 : decode b_Law_law 210 = .ok (.iadd, 1) := by decide +kernel
theorem d_Law_law_211 : decode b_Law_law 211 = .ok (.iaload, 1) := by decide +kernel
theorem d_Law_law_212 : decode b_Law_law 212 = .ok (.aload_n 0, 1) := by decide +kernel
theorem d_Law_law_213 : decode b_Law_law 213 = .ok (.iload 4, 2) := by decide +kernel
theorem d_Law_law_215 : decode b_Law_law 215 = .ok (.iconst 3, 1) := by decide +kernel
theorem d_Law_law_216 : decode b_Law_law 216 = .ok (.iadd, 1) := by decide +kernel
theorem d_Law_law_217 : decode b_Law_law 217 = .ok (.iaload, 1) := by decide +kernel
theorem d_Law_law_218 : decode b_Law_law 218 = .ok (.aload_n 0, 1) := by decide +kernel
theorem d_Law_law_219 : decode b_Law_law 219 = .ok (.iload 4, 2) := by decide +kernel
theorem d_Law_law_221 : decode b_Law_law 221 = .ok (.iconst 4, 1) := by decide +kernel
theorem d_Law_law_222 : decode b_Law_law 222 = .ok (.iadd, 1) := by decide +kernel
theorem d_Law_law_223 : decode b_Law_law 223 = .ok (.iaload, 1) := by decide +kernel
theorem d_Law_law_224 : decode b_Law_law 224 = .ok (.aload_n 0, 1) := by decide +kernel
theorem d_Law_law_225 : decode b_Law_law 225 = .ok (.iload 4, 2) := by decide +kernel
theorem d_Law_law_227 : decode b_Law_law 227 = .ok (.iconst 5, 1) := by decide +kernel
theorem d_Law_law_228 : decode b_Law_law 228 = .ok (.iadd, 1) := by decide +kernel
theorem d_Law_law_229 : decode b_Law_law 229 = .ok (.iaload, 1) := by decide +kernel
theorem d_Law_law_230 : decode b_Law_law 230 = .ok (.aload_n 0, 1) := by decide +kernel
theorem d_Law_law_231 : decode b_Law_law 231 = .ok (.iload 4, 2) := by decide +kernel
theorem d_Law_law_233 : decode b_Law_law 233 = .ok (.bipush 6, 2) := by decide +kernel
theorem d_Law_law_235 : decode b_Law_law 235 = .ok (.iadd, 1) := by decide +kernel
theorem d_Law_law_236 : decode b_Law_law 236 = .ok (.iaload, 1) := by decide +kernel
theorem d_Law_law_237 : decode b_Law_law 237 = .ok (.aload_n 0, 1) := by decide +kernel
theorem d_Law_law_238 : decode b_Law_law 238 = .ok (.iload 4, 2) := by decide +kernel
theorem d_Law_law_240 : decode b_Law_law 240 = .ok (.bipush 7, 2) := by decide +kernel
theorem d_Law_law_242 : decode b_Law_law 242 = .ok (.iadd, 1) := by decide +kernel
theorem d_Law_law_243 : decode b_Law_law 243 = .ok (.iaload, 1) := by decide +kernel
theorem d_Law_law_244 : decode b_Law_law 244 = .ok (.ifCond .eq 7, 3) := by decide +kernel
theorem d_Law_law_247 : decode b_Law_law 247 = .ok (.iconst 1, 1) := by decide +kernel
theorem d_Law_law_248 : decode b_Law_law 248 = .ok (.goto 4, 3) := by decide +kernel
theorem d_Law_law_251 : decode b_Law_law 251 = .ok (.iconst 0, 1) := by decide +kernel
theorem d_Law_law_252 : decode b_Law_law 252 = .ok (.invokevirtual 88, 3) := by decide +kernel
theorem d_Law_law_255 : decode b_Law_law 255 = .ok (.istore 6, 2) := by decide +kernel
theorem d_Law_law_257 : decode b_Law_law 257 = .ok (.aload_n 2, 1) := by decide +kernel
theorem d_Law_law_258 : decode b_Law_law 258 = .ok (.invokevirtual 89, 3) := by decide +kernel
theorem d_Law_law_261 : decode b_Law_law 261 = .ok (.iload 5, 2) := by decide +kernel
theorem d_Law_law_263 : decode b_Law_law 263 = .ok (.if_icmp .eq 5, 3) := by decide +kernel
theorem d_Law_law_266 : decode b_Law_law 266 = .ok (.iconst 0, 1) := by decide +kernel
theorem d_Law_law_267 : decode b_Law_law 267 = .ok (.ireturn, 1) := by decide +kernel
theorem d_Law_law_268 : decode b_Law_law 268 = .ok (.iload 5, 2) := by decide +kernel
theorem d_Law_law_270 : decode b_Law_law 270 = .ok (.ifCond .ne 15, 3) := by decide +kernel
theorem d_Law_law_273 : decode b_Law_law 273 = .ok (.aload_n 3, 1) := by decide +kernel
theorem d_Law_law_274 : decode b_Law_law 274 = .ok (.iconst 0, 1) := by decide +kernel
theorem d_Law_law_275 : decode b_Law_law 275 = .ok (.laload, 1) := by decide +kernel
theorem d_Law_law_276 : decode b_Law_law 276 = .ok (.iload 6, 2) := by decide +kernel
theorem d_Law_law_278 : decode b_Law_law 278 = .ok (.i2l, 1) := by decide +kernel
theorem d_Law_law_279 : decode b_Law_law 279 = .ok (.lcmp, 1) := by decide +kernel
theorem d_Law_law_280 : decode b_Law_law 280 = .ok (.ifCond .eq 5, 3) := by decide +kernel
theorem d_Law_law_283 : decode b_Law_law 283 = .ok (.iconst 0, 1) := by decide +kernel
theorem d_Law_law_284 : decode b_Law_law 284 = .ok (.ireturn, 1) := by decide +kernel
theorem d_Law_law_285 : decode b_Law_law 285 = .ok (.goto 1318, 3) := by decide +kernel
theorem d_Law_law_288 : decode b_Law_law 288 = .ok (.aload_n 1, 1) := by decide +kernel
theorem d_Law_law_289 : decode b_Law_law 289 = .ok (.aload_n 0, 1) := by decide +kernel
theorem d_Law_law_290 : decode b_Law_law 290 = .ok (.iload 4, 2) := by decide +kernel
theorem d_Law_law_292 : decode b_Law_law 292 = .ok (.iconst 1, 1) := by decide +kernel
theorem d_Law_law_293 : decode b_Law_law 293 = .ok (.iadd, 1) := by decide +kernel
theorem d_Law_law_294 : decode b_Law_law 294 = .ok (.iaload, 1) := by decide +kernel
theorem d_Law_law_295 : decode b_Law_law 295 = .ok (.aload_n 0, 1) := by decide +kernel
theorem d_Law_law_296 : decode b_Law_law 296 = .ok (.iload 4, 2) := by decide +kernel
theorem d_Law_law_298 : decode b_Law_law 298 = .ok (.iconst 2, 1) := by decide +kernel
theorem d_Law_law_299 : decode b_Law_law 299 = .ok (.iadd, 1) := by decide +kernel
theorem d_Law_law_300 : decode b_Law_law 300 = .ok (.iaload, 1) := by decide +kernel
theorem d_Law_law_301 : decode b_Law_law 301 = .ok (.ifCond .eq 7, 3) := by decide +kernel
theorem d_Law_law_304 : decode b_Law_law 304 = .ok (.iconst 1, 1) := by decide +kernel
theorem d_Law_law_305 : decode b_Law_law 305 = .ok (.goto 4, 3) := by decide +kernel
theorem d_Law_law_308 : decode b_Law_law 308 = .ok (.iconst 0, 1) := by decide +kernel
theorem d_Law_law_309 : decode b_Law_law 309 = .ok (.aload_n 3, 1) := by decide +kernel
theorem d_Law_law_310 : decode b_Law_law 310 = .ok (.invokestatic 93, 3) := by decide +kernel
theorem d_Law_law_313 : decode b_Law_law 313 = .ok (.istore 5, 2) := by decide +kernel
theorem d_Law_law_315 : decode b_Law_law 315 = .ok (.aload_n 2, 1) := by decide +kernel
theorem d_Law_law_316 : decode b_Law_law 316 = .ok (.aload_n 0, 1) := by decide +kernel
theorem d_Law_law_317 : decode b_Law_law 317 = .ok (.iload 4, 2) := by decide +kernel
theorem d_Law_law_319 : decode b_Law_law 319 = .ok (.iconst 1, 1) := by decide +kernel
theorem d_Law_law_320 : decode b_Law_law 320 = .ok (.iadd, 1) := by decide +kernel
theorem d_Law_law_321 : decode b_Law_law 321 = .ok (.iaload, 1) := by decide +kernel
theorem d_Law_law_322 : decode b_Law_law 322 = .ok (.aload_n 0, 1) := by decide +kernel
theorem d_Law_law_323 : decode b_Law_law 323 = .ok (.iload 4, 2) := by decide +kernel
theorem d_Law_law_325 : decode b_Law_law 325 = .ok (.iconst 2, 1) := by decide +kernel
theorem d_Law_law_326 : decode b_Law_law 326 = .ok (.iadd, 1) := by decide +kernel
theorem d_Law_law_327 : decode b_Law_law 327 = .ok (.iaload, 1) := by decide +kernel
theorem d_Law_law_328 : decode b_Law_law 328 = .ok (.ifCond .eq 7, 3) := by decide +kernel
theorem d_Law_law_331 : decode b_Law_law 331 = .ok (.iconst 1, 1) := by decide +kernel
theorem d_Law_law_332 : decode b_Law_law 332 = .ok (.goto 4, 3) := by decide +kernel
theorem d_Law_law_335 : decode b_Law_law 335 = .ok (.iconst 0, 1) := by decide +kernel
theorem d_Law_law_336 : decode b_Law_law 336 = .ok (.invokevirtual 96, 3) := by decide +kernel
theorem d_Law_law_339 : decode b_Law_law 339 = .ok (.istore 6, 2) := by decide +kernel
theorem d_Law_law_341 : decode b_Law_law 341 = .ok (.aload_n 2, 1) := by decide +kernel
theorem d_Law_law_342 : decode b_Law_law 342 = .ok (.invokevirtual 89, 3) := by decide +kernel
theorem d_Law_law_345 : decode b_Law_law 345 = .ok (.iload 5, 2) := by decide +kernel
theorem d_Law_law_347 : decode b_Law_law 347 = .ok (.if_icmp .eq 5, 3) := by decide +kernel
theorem d_Law_law_350 : decode b_Law_law 350 = .ok (.iconst 0, 1) := by decide +kernel
theorem d_Law_law_351 : decode b_Law_law 351 = .ok (.ireturn, 1) := by decide +kernel
theorem d_Law_law_352 : decode b_Law_law 352 = .ok (.iload 5, 2) := by decide +kernel
theorem d_Law_law_354 : decode b_Law_law 354 = .ok (.ifCond .ne 15, 3) := by decide +kernel
theorem d_Law_law_357 : decode b_Law_law 357 = .ok (.aload_n 3, 1) := by decide +kernel
theorem d_Law_law_358 : decode b_Law_law 358 = .ok (.iconst 0, 1) := by decide +kernel
theorem d_Law_law_359 : decode b_Law_law 359 = .ok (.laload, 1) := by decide +kernel
theorem d_Law_law_360 : decode b_Law_law 360 = .ok (.iload 6, 2) := by decide +kernel
theorem d_Law_law_362 : decode b_Law_law 362 = .ok (.i2l, 1) := by decide +kernel
theorem d_Law_law_363 : decode b_Law_law 363 = .ok (.lcmp, 1) := by decide +kernel
theorem d_Law_law_364 : decode b_Law_law 364 = .ok (.ifCond .eq 5, 3) := by decide +kernel
theorem d_Law_law_367 : decode b_Law_law 367 = .ok (.iconst 0, 1) := by decide +kernel
theorem d_Law_law_368 : decode b_Law_law 368 = .ok (.ireturn, 1) := by decide +kernel
theorem d_Law_law_369 : decode b_Law_law 369 = .ok (.goto 1234, 3) := by decide +kernel
theorem d_Law_law_372 : decode b_Law_law 372 = .ok (.aload_n 1, 1) := by decide +kernel
theorem d_Law_law_373 : decode b_Law_law 373 = .ok (.aload_n 0, 1) := by decide +kernel
theorem d_Law_law_374 : decode b_Law_law 374 = .ok (.iload 4, 2) := by decide +kernel
theorem d_Law_law_376 : decode b_Law_law 376 = .ok (.iconst 1, 1) := by decide +kernel
theorem d_Law_law_377 : decode b_Law_law 377 = .ok (.iadd, 1) := by decide +kernel
theorem d_Law_law_378 : decode b_Law_law 378 = .ok (.iaload, 1) := by decide +kernel
theorem d_Law_law_379 : decode b_Law_law 379 = .ok (.aload_n 0, 1) := by decide +kernel
theorem d_Law_law_380 : decode b_Law_law 380 = .ok (.iload 4, 2) := by decide +kernel
theorem d_Law_law_382 : decode b_Law_law 382 = .ok (.iconst 2, 1) := by decide +kernel
theorem d_Law_law_383 : decode b_Law_law 383 = .ok (.iadd, 1) := by decide +kernel
theorem d_Law_law_384 : decode b_Law_law 384 = .ok (.iaload, 1) := by decide +kernel
theorem d_Law_law_385 : decode b_Law_law 385 = .ok (.aload_n 0, 1) := by decide +kernel
theorem d_Law_law_386 : decode b_Law_law 386 = .ok (.iload 4, 2) := by decide +kernel
theorem d_Law_law_388 : decode b_Law_law 388 = .ok (.iconst 3, 1) := by decide +kernel
theorem d_Law_law_389 : decode b_Law_law 389 = .ok (.iadd, 1) := by decide +kernel
theorem d_Law_law_390 : decode b_Law_law 390 = .ok (.iaload, 1) := by decide +kernel
theorem d_Law_law_391 : decode b_Law_law 391 = .ok (.aload_n 3, 1) := by decide +kernel
theorem d_Law_law_392 : decode b_Law_law 392 = .ok (.invokestatic 97, 3) := by decide +kernel
theorem d_Law_law_395 : decode b_Law_law 395 = .ok (.istore 5, 2) := by decide +kernel
theorem d_Law_law_397 : decode b_Law_law 397 = .ok (.aload_n 2, 1) := by decide +kernel
theorem d_Law_law_398 : decode b_Law_law 398 = .ok (.aload_n 0, 1) := by decide +kernel
theorem d_Law_law_399 : decode b_Law_law 399 = .ok (.iload 4, 2) := by decide +kernel
theorem d_Law_law_401 : decode b_Law_law 401 = .ok (.iconst 1, 1) := by decide +kernel
theorem d_Law_law_402 : decode b_Law_law 402 = .ok (.iadd, 1) := by decide +kernel
theorem d_Law_law_403 : decode b_Law_law 403 = .ok (.iaload, 1) := by decide +kernel
theorem d_Law_law_404 : decode b_Law_law 404 = .ok (.aload_n 0, 1) := by decide +kernel
theorem d_Law_law_405 : decode b_Law_law 405 = .ok (.iload 4, 2) := by decide +kernel
theorem d_Law_law_407 : decode b_Law_law 407 = .ok (.iconst 2, 1) := by decide +kernel
theorem d_Law_law_408 : decode b_Law_law 408 = .ok (.iadd, 1) := by decide +kernel
theorem d_Law_law_409 : decode b_Law_law 409 = .ok (.iaload, 1) := by decide +kernel
theorem d_Law_law_410 : decode b_Law_law 410 = .ok (.aload_n 0, 1) := by decide +kernel
theorem d_Law_law_411 : decode b_Law_law 411 = .ok (.iload 4, 2) := by decide +kernel
theorem d_Law_law_413 : decode b_Law_law 413 = .ok (.iconst 3, 1) := by decide +kernel
theorem d_Law_law_414 : decode b_Law_law 414 = .ok (.iadd, 1) := by decide +kernel
theorem d_Law_law_415 : decode b_Law_law 415 = .ok (.iaload, 1) := by decide +kernel
theorem d_Law_law_416 : decode b_Law_law 416 = .ok (.invokevirtual 100, 3) := by decide +kernel
theorem d_Law_law_419 : decode b_Law_law 419 = .ok (.istore 6, 2) := by decide +kernel
theorem d_Law_law_421 : decode b_Law_law 421 = .ok (.aload_n 2, 1) := by decide +kernel
theorem d_Law_law_422 : decode b_Law_law 422 = .ok (.invokevirtual 89, 3) := by decide +kernel
theorem d_Law_law_425 : decode b_Law_law 425 = .ok (.iload 5, 2) := by decide +kernel
theorem d_Law_law_427 : decode b_Law_law 427 = .ok (.if_icmp .eq 5, 3) := by decide +kernel
theorem d_Law_law_430 : decode b_Law_law 430 = .ok (.iconst 0, 1) := by decide +kernel
theorem d_Law_law_431 : decode b_Law_law 431 = .ok (.ireturn, 1) := by decide +kernel
theorem d_Law_law_432 : decode b_Law_law 432 = .ok (.iload 5, 2) := by decide +kernel
theorem d_Law_law_434 : decode b_Law_law 434 = .ok (.ifCond .ne 15, 3) := by decide +kernel
theorem d_Law_law_437 : decode b_Law_law 437 = .ok (.aload_n 3, 1) := by decide +kernel
theorem d_Law_law_438 : decode b_Law_law 438 = .ok (.iconst 0, 1) := by decide +kernel
theorem d_Law_law_439 : decode b_Law_law 439 = .ok (.laload, 1) := by decide +kernel
theorem d_Law_law_440 : decode b_Law_law 440 = .ok (.iload 6, 2) := by decide +kernel
theorem d_Law_law_442 : decode b_Law_law 442 = .ok (.i2l, 1) := by decide +kernel
theorem d_Law_law_443 : decode b_Law_law 443 = .ok (.lcmp, 1) := by decide +kernel
theorem d_Law_law_444 : decode b_Law_law 444 = .ok (.ifCond .eq 5, 3) := by decide +kernel
theorem d_Law_law_447 : decode b_Law_law 447 = .ok (.iconst 0, 1) := by decide +kernel
theorem d_Law_law_448 : decode b_Law_law 448 = .ok (.ireturn, 1) := by decide +kernel
theorem d_Law_law_449 : decode b_Law_law 449 = .ok (.goto 1154, 3) := by decide +kernel
theorem d_Law_law_452 : decode b_Law_law 452 = .ok (.aload_n 1, 1) := by decide +kernel
theorem d_Law_law_453 : decode b_Law_law 453 = .ok (.aload_n 0, 1) := by decide +kernel
theorem d_Law_law_454 : decode b_Law_law 454 = .ok (.iload 4, 2) := by decide +kernel
theorem d_Law_law_456 : decode b_Law_law 456 = .ok (.iconst 1, 1) := by decide +kernel
theorem d_Law_law_457 : decode b_Law_law 457 = .ok (.iadd, 1) := by decide +kernel
theorem d_Law_law_458 : decode b_Law_law 458 = .ok (.iaload, 1) := by decide +kernel
theorem d_Law_law_459 : decode b_Law_law 459 = .ok (.aload_n 0, 1) := by decide +kernel
theorem d_Law_law_460 : decode b_Law_law 460 = .ok (.iload 4, 2) := by decide +kernel
theorem d_Law_law_462 : decode b_Law_law 462 = .ok (.iconst 2, 1) := by decide +kernel
theorem d_Law_law_463 : decode b_Law_law 463 = .ok (.iadd, 1) := by decide +kernel
theorem d_Law_law_464 : decode b_Law_law 464 = .ok (.iaload, 1) := by decide +kernel
theorem d_Law_law_465 : decode b_Law_law 465 = .ok (.aload_n 0, 1) := by decide +kernel
theorem d_Law_law_466 : decode b_Law_law 466 = .ok (.iload 4, 2) := by decide +kernel
theorem d_Law_law_468 : decode b_Law_law 468 = .ok (.iconst 3, 1) := by decide +kernel
theorem d_Law_law_469 : decode b_Law_law 469 = .ok (.iadd, 1) := by decide +kernel
theorem d_Law_law_470 : decode b_Law_law 470 = .ok (.iaload, 1) := by decide +kernel
theorem d_Law_law_471 : decode b_Law_law 471 = .ok (.aload_n 0, 1) := by decide +kernel
theorem d_Law_law_472 : decode b_Law_law 472 = .ok (.iload 4, 2) := by decide +kernel
theorem d_Law_law_474 : decode b_Law_law 474 = .ok (.iconst 4, 1) := by decide +kernel
theorem d_Law_law_475 : decode b_Law_law 475 = .ok (.iadd, 1) := by decide +kernel
theorem d_Law_law_476 : decode b_Law_law 476 = .ok (.iaload, 1) := by decide +kernel
theorem d_Law_law_477 : decode b_Law_law 477 = .ok (.aload_n 0, 1) := by decide +kernel
theorem d_Law_law_478 : decode b_Law_law 478 = .ok (.iload 4, 2) := by decide +kernel
theorem d_Law_law_480 : decode b_Law_law 480 = .ok (.iconst 5, 1) := by decide +kernel
theorem d_Law_law_481 : decode b_Law_law 481 = .ok (.iadd, 1) := by decide +kernel
theorem d_Law_law_482 : decode b_Law_law 482 = .ok (.iaload, 1) := by decide +kernel
theorem d_Law_law_483 : decode b_Law_law 483 = .ok (.ifCond .eq 7, 3) := by decide +kernel
theorem d_Law_law_486 : decode b_Law_law 486 = .ok (.iconst 1, 1) := by decide +kernel
theorem d_Law_law_487 : decode b_Law_law 487 = .ok (.goto 4, 3) := by decide +kernel
theorem d_Law_law_490 : decode b_Law_law 490 = .ok (.iconst 0, 1) := by decide +kernel
theorem d_Law_law_491 : decode b_Law_law 491 = .ok (.aload_n 3, 1) := by decide +kernel
theorem d_Law_law_492 : decode b_Law_law 492 = .ok (.invokestatic 101, 3) := by decide +kernel
theorem d_Law_law_495 : decode b_Law_law 495 = .ok (.istore 5, 2) := by decide +kernel
theorem d_Law_law_497 : decode b_Law_law 497 = .ok (.aload_n 2, 1) := by decide +kernel
theorem d_Law_law_498 : decode b_Law_law 498 = .ok (.aload_n 0, 1) := by decide +kernel
theorem d_Law_law_499 : decode b_Law_law 499 = .ok (.iload 4, 2) := by decide +kernel
theorem d_Law_law_501 : decode b_Law_law 501 = .ok (.iconst 1, 1) := by decide +kernel
theorem d_Law_law_502 : decode b_Law_law 502 = .ok (.iadd, 1) := by decide +kernel
theorem d_Law_law_503 : decode b_Law_law 503 = .ok (.iaload, 1) := by decide +kernel
theorem d_Law_law_504 : decode b_Law_law 504 = .ok (.aload_n 0, 1) := by decide +kernel
theorem d_Law_law_505 : decode b_Law_law 505 = .ok (.iload 4, 2) := by decide +kernel
theorem d_Law_law_507 : decode b_Law_law 507 = .ok (.iconst 2, 1) := by decide +kernel
theorem d_Law_law_508 : decode b_Law_law 508 = .ok (.iadd, 1) := by decide +kernel
theorem d_Law_law_509 : decode b_Law_law 509 = .ok (.iaload, 1) := by decide +kernel
theorem d_Law_law_510 : decode b_Law_law 510 = .ok (.aload_n 0, 1) := by decide +kernel
theorem d_Law_law_511 : decode b_Law_law 511 = .ok (.iload 4, 2) := by decide +kernel
theorem d_Law_law_513 : decode b_Law_law 513 = .ok (.iconst 3, 1) := by decide +kernel
theorem d_Law_law_514 : decode b_Law_law 514 = .ok (.iadd, 1) := by decide +kernel
theorem d_Law_law_515 : decode b_Law_law 515 = .ok (.iaload, 1) := by decide +kernel
theorem d_Law_law_516 : decode b_Law_law 516 = .ok (.aload_n 0, 1) := by decide +kernel
theorem d_Law_law_517 : decode b_Law_law 517 = .ok (.iload 4, 2) := by decide +kernel
theorem d_Law_law_519 : decode b_Law_law 519 = .ok (.iconst 4, 1) := by decide +kernel
theorem d_Law_law_520 : decode b_Law_law 520 = .ok (.iadd, 1) := by decide +kernel
theorem d_Law_law_521 : decode b_Law_law 521 = .ok (.iaload, 1) := by decide +kernel
theorem d_Law_law_522 : decode b_Law_law 522 = .ok (.aload_n 0, 1) := by decide +kernel
theorem d_Law_law_523 : decode b_Law_law 523 = .ok (.iload 4, 2) := by decide +kernel
theorem d_Law_law_525 : decode b_Law_law 525 = .ok (.iconst 5, 1) := by decide +kernel
theorem d_Law_law_526 : decode b_Law_law 526 = .ok (.iadd, 1) := by decide +kernel
theorem d_Law_law_527 : decode b_Law_law 527 = .ok (.iaload, 1) := by decide +kernel
theorem d_Law_law_528 : decode b_Law_law 528 = .ok (.ifCond .eq 7, 3) := by decide +kernel
theorem d_Law_law_531 : decode b_Law_law 531 = .ok (.iconst 1, 1) := by decide +kernel
theorem d_Law_law_532 : decode b_Law_law 532 = .ok (.goto 4, 3) := by decide +kernel
theorem d_Law_law_535 : decode b_Law_law 535 = .ok (.iconst 0, 1) := by decide +kernel
theorem d_Law_law_536 : decode b_Law_law 536 = .ok (.invokevirtual 104, 3) := by decide +kernel
theorem d_Law_law_539 : decode b_Law_law 539 = .ok (.istore 6, 2) := by decide +kernel
theorem d_Law_law_541 : decode b_Law_law 541 = .ok (.aload_n 2, 1) := by decide +kernel
theorem d_Law_law_542 : decode b_Law_law 542 = .ok (.invokevirtual 89, 3) := by decide +kernel
theorem d_Law_law_545 : decode b_Law_law 545 = .ok (.iload 5, 2) := by decide +kernel
theorem d_Law_law_547 : decode b_Law_law 547 = .ok (.if_icmp .eq 5, 3) := by decide +kernel
theorem d_Law_law_550 : decode b_Law_law 550 = .ok (.iconst 0, 1) := by decide +kernel
theorem d_Law_law_551 : decode b_Law_law 551 = .ok (.ireturn, 1) := by decide +kernel
theorem d_Law_law_552 : decode b_Law_law 552 = .ok (.iload 5, 2) := by decide +kernel
theorem d_Law_law_554 : decode b_Law_law 554 = .ok (.ifCond .ne 15, 3) := by decide +kernel
theorem d_Law_law_557 : decode b_Law_law 557 = .ok (.aload_n 3, 1) := by decide +kernel
theorem d_Law_law_558 : decode b_Law_law 558 = .ok (.iconst 0, 1) := by decide +kernel
theorem d_Law_law_559 : decode b_Law_law 559 = .ok (.laload, 1) := by decide +kernel
theorem d_Law_law_560 : decode b_Law_law 560 = .ok (.iload 6, 2) := by decide +kernel
theorem d_Law_law_562 : decode b_Law_law 562 = .ok (.i2l, 1) := by decide +kernel
theorem d_Law_law_563 : decode b_Law_law 563 = .ok (.lcmp, 1) := by decide +kernel
theorem d_Law_law_564 : decode b_Law_law 564 = .ok (.ifCond .eq 5, 3) := by decide +kernel
theorem d_Law_law_567 : decode b_Law_law 567 = .ok (.iconst 0, 1) := by decide +kernel
theorem d_Law_law_568 : decode b_Law_law 568 = .ok (.ireturn, 1) := by decide +kernel
theorem d_Law_law_569 : decode b_Law_law 569 = .ok (.goto 1034, 3) := by decide +kernel
theorem d_Law_law_572 : decode b_Law_law 572 = .ok (.aload_n 1, 1) := by decide +kernel
theorem d_Law_law_573 : decode b_Law_law 573 = .ok (.aload_n 0, 1) := by decide +kernel
theorem d_Law_law_574 : decode b_Law_law 574 = .ok (.iload 4, 2) := by decide +kernel
theorem d_Law_law_576 : decode b_Law_law 576 = .ok (.iconst 1, 1) := by decide +kernel
theorem d_Law_law_577 : decode b_Law_law 577 = .ok (.iadd, 1) := by decide +kernel
theorem d_Law_law_578 : decode b_Law_law 578 = .ok (.iaload, 1) := by decide +kernel
theorem d_Law_law_579 : decode b_Law_law 579 = .ok (.aload_n 3, 1) := by decide +kernel
theorem d_Law_law_580 : decode b_Law_law 580 = .ok (.invokestatic 105, 3) := by decide +kernel
theorem d_Law_law_583 : decode b_Law_law 583 = .ok (.istore 5, 2) := by decide +kernel
theorem d_Law_law_585 : decode b_Law_law 585 = .ok (.aload_n 2, 1) := by decide +kernel
theorem d_Law_law_586 : decode b_Law_law 586 = .ok (.aload_n 0, 1) := by decide +kernel
theorem d_Law_law_587 : decode b_Law_law 587 = .ok (.iload 4, 2) := by decide +kernel
theorem d_Law_law_589 : decode b_Law_law 589 = .ok (.iconst 1, 1) := by decide +kernel
theorem d_Law_law_590 : decode b_Law_law 590 = .ok (.iadd, 1) := by decide +kernel
theorem d_Law_law_591 : decode b_Law_law 591 = .ok (.iaload, 1) := by decide +kernel
theorem d_Law_law_592 : decode b_Law_law 592 = .ok (.invokevirtual 108, 3) := by decide +kernel
theorem d_Law_law_595 : decode b_Law_law 595 = .ok (.istore 6, 2) := by decide +kernel
theorem d_Law_law_597 : decode b_Law_law 597 = .ok (.aload_n 2, 1) := by decide +kernel
theorem d_Law_law_598 : decode b_Law_law 598 = .ok (.invokevirtual 89, 3) := by decide +kernel
theorem d_Law_law_601 : decode b_Law_law 601 = .ok (.iload 5, 2) := by decide +kernel
theorem d_Law_law_603 : decode b_Law_law 603 = .ok (.if_icmp .eq 5, 3) := by decide +kernel
theorem d_Law_law_606 : decode b_Law_law 606 = .ok (.iconst 0, 1) := by decide +kernel
theorem d_Law_law_607 : decode b_Law_law 607 = .ok (.ireturn, 1) := by decide +kernel
theorem d_Law_law_608 : decode b_Law_law 608 = .ok (.iload 5, 2) := by decide +kernel
theorem d_Law_law_610 : decode b_Law_law 610 = .ok (.ifCond .ne 15, 3) := by decide +kernel
theorem d_Law_law_613 : decode b_Law_law 613 = .ok (.aload_n 3, 1) := by decide +kernel
theorem d_Law_law_614 : decode b_Law_law 614 = .ok (.iconst 0, 1) := by decide +kernel
theorem d_Law_law_615 : decode b_Law_law 615 = .ok (.laload, 1) := by decide +kernel
theorem d_Law_law_616 : decode b_Law_law 616 = .ok (.iload 6, 2) := by decide +kernel
theorem d_Law_law_618 : decode b_Law_law 618 = .ok (.i2l, 1) := by decide +kernel
theorem d_Law_law_619 : decode b_Law_law 619 = .ok (.lcmp, 1) := by decide +kernel
theorem d_Law_law_620 : decode b_Law_law 620 = .ok (.ifCond .eq 5, 3) := by decide +kernel
theorem d_Law_law_623 : decode b_Law_law 623 = .ok (.iconst 0, 1) := by decide +kernel
theorem d_Law_law_624 : decode b_Law_law 624 = .ok (.ireturn, 1) := by decide +kernel
theorem d_Law_law_625 : decode b_Law_law 625 = .ok (.goto 978, 3) := by decide +kernel
theorem d_Law_law_628 : decode b_Law_law 628 = .ok (.aload_n 1, 1) := by decide +kernel
theorem d_Law_law_629 : decode b_Law_law 629 = .ok (.aload_n 0, 1) := by decide +kernel
theorem d_Law_law_630 : decode b_Law_law 630 = .ok (.iload 4, 2) := by decide +kernel
theorem d_Law_law_632 : decode b_Law_law 632 = .ok (.iconst 1, 1) := by decide +kernel
theorem d_Law_law_633 : decode b_Law_law 633 = .ok (.iadd, 1) := by decide +kernel
theorem d_Law_law_634 : decode b_Law_law 634 = .ok (.iaload, 1) := by decide +kernel
theorem d_Law_law_635 : decode b_Law_law 635 = .ok (.ifCond .eq 7, 3) := by decide +kernel
theorem d_Law_law_638 : decode b_Law_law 638 = .ok (.iconst 1, 1) := by decide +kernel
theorem d_Law_law_639 : decode b_Law_law 639 = .ok (.goto 4, 3) := by decide +kernel
theorem d_Law_law_642 : decode b_Law_law 642 = .ok (.iconst 0, 1) := by decide +kernel
theorem d_Law_law_643 : decode b_Law_law 643 = .ok (.aload_n 3, 1) := by decide +kernel
theorem d_Law_law_644 : decode b_Law_law 644 = .ok (.invokestatic 109, 3) := by decide +kernel
theorem d_Law_law_647 : decode b_Law_law 647 = .ok (.istore 5, 2) := by decide +kernel
theorem d_Law_law_649 : decode b_Law_law 649 = .ok (.aload_n 2, 1) := by decide +kernel
theorem d_Law_law_650 : decode b_Law_law 650 = .ok (.aload_n 0, 1) := by decide +kernel
theorem d_Law_law_651 : decode b_Law_law 651 = .ok (.iload 4, 2) := by decide +kernel
theorem d_Law_law_653 : decode b_Law_law 653 = .ok (.iconst 1, 1) := by decide +kernel
theorem d_Law_law_654 : decode b_Law_law 654 = .ok (.iadd, 1) := by decide +kernel
theorem d_Law_law_655 : decode b_Law_law 655 = .ok (.iaload, 1) := by decide +kernel
theorem d_Law_law_656 : decode b_Law_law 656 = .ok (.ifCond .eq 7, 3) := by decide +kernel
theorem d_Law_law_659 : decode b_Law_law 659 = .ok (.iconst 1, 1) := by decide +kernel
theorem d_Law_law_660 : decode b_Law_law 660 = .ok (.goto 4, 3) := by decide +kernel
theorem d_Law_law_663 : decode b_Law_law 663 = .ok (.iconst 0, 1) := by decide +kernel
theorem d_Law_law_664 : decode b_Law_law 664 = .ok (.invokevirtual 112, 3) := by decide +kernel
theorem d_Law_law_667 : decode b_Law_law 667 = .ok (.istore 6, 2) := by decide +kernel
theorem d_Law_law_669 : decode b_Law_law 669 = .ok (.aload_n 2, 1) := by decide +kernel
theorem d_Law_law_670 : decode b_Law_law 670 = .ok (.invokevirtual 89, 3) := by decide +kernel
theorem d_Law_law_673 : decode b_Law_law 673 = .ok (.iload 5, 2) := by decide +kernel
theorem d_Law_law_675 : decode b_Law_law 675 = .ok (.if_icmp .eq 5, 3) := by decide +kernel
theorem d_Law_law_678 : decode b_Law_law 678 = .ok (.iconst 0, 1) := by decide +kernel
theorem d_Law_law_679 : decode b_Law_law 679 = .ok (.ireturn, 1) := by decide +kernel
theorem d_Law_law_680 : decode b_Law_law 680 = .ok (.iload 5, 2) := by decide +kernel
theorem d_Law_law_682 : decode b_Law_law 682 = .ok (.ifCond .ne 15, 3) := by decide +kernel
theorem d_Law_law_685 : decode b_Law_law 685 = .ok (.aload_n 3, 1) := by decide +kernel
theorem d_Law_law_686 : decode b_Law_law 686 = .ok (.iconst 0, 1) := by decide +kernel
theorem d_Law_law_687 : decode b_Law_law 687 = .ok (.laload, 1) := by decide +kernel
theorem d_Law_law_688 : decode b_Law_law 688 = .ok (.iload 6, 2) := by decide +kernel
theorem d_Law_law_690 : decode b_Law_law 690 = .ok (.i2l, 1) := by decide +kernel
theorem d_Law_law_691 : decode b_Law_law 691 = .ok (.lcmp, 1) := by decide +kernel
theorem d_Law_law_692 : decode b_Law_law 692 = .ok (.ifCond .eq 5, 3) := by decide +kernel
theorem d_Law_law_695 : decode b_Law_law 695 = .ok (.iconst 0, 1) := by decide +kernel
theorem d_Law_law_696 : decode b_Law_law 696 = .ok (.ireturn, 1) := by decide +kernel
theorem d_Law_law_697 : decode b_Law_law 697 = .ok (.goto 906, 3) := by decide +kernel
theorem d_Law_law_700 : decode b_Law_law 700 = .ok (.aload_n 1, 1) := by decide +kernel
theorem d_Law_law_701 : decode b_Law_law 701 = .ok (.aload_n 0, 1) := by decide +kernel
theorem d_Law_law_702 : decode b_Law_law 702 = .ok (.iload 4, 2) := by decide +kernel
theorem d_Law_law_704 : decode b_Law_law 704 = .ok (.iconst 1, 1) := by decide +kernel
theorem d_Law_law_705 : decode b_Law_law 705 = .ok (.iadd, 1) := by decide +kernel
theorem d_Law_law_706 : decode b_Law_law 706 = .ok (.iaload, 1) := by decide +kernel
theorem d_Law_law_707 : decode b_Law_law 707 = .ok (.aload_n 0, 1) := by decide +kernel
theorem d_Law_law_708 : decode b_Law_law 708 = .ok (.iload 4, 2) := by decide +kernel
theorem d_Law_law_710 : decode b_Law_law 710 = .ok (.iconst 2, 1) := by decide +kernel
theorem d_Law_law_711 : decode b_Law_law 711 = .ok (.iadd, 1) := by decide +kernel
theorem d_Law_law_712 : decode b_Law_law 712 = .ok (.iaload, 1) := by decide +kernel
theorem d_Law_law_713 : decode b_Law_law 713 = .ok (.aload_n 3, 1) := by decide +kernel
theorem d_Law_law_714 : decode b_Law_law 714 = .ok (.invokestatic 113, 3) := by decide +kernel
theorem d_Law_law_717 : decode b_Law_law 717 = .ok (.istore 5, 2) := by decide +kernel
theorem d_Law_law_719 : decode b_Law_law 719 = .ok (.aload_n 2, 1) := by decide +kernel
theorem d_Law_law_720 : decode b_Law_law 720 = .ok (.aload_n 0, 1) := by decide +kernel
theorem d_Law_law_721 : decode b_Law_law 721 = .ok (.iload 4, 2) := by decide +kernel
theorem d_Law_law_723 : decode b_Law_law 723 = .ok (.iconst 1, 1) := by decide +kernel
theorem d_Law_law_724 : decode b_Law_law 724 = .ok (.iadd, 1) := by decide +kernel
theorem d_Law_law_725 : decode b_Law_law 725 = .ok (.iaload, 1) := by decide +kernel
theorem d_Law_law_726 : decode b_Law_law 726 = .ok (.aload_n 0, 1) := by decide +kernel
theorem d_Law_law_727 : decode b_Law_law 727 = .ok (.iload 4, 2) := by decide +kernel
theorem d_Law_law_729 : decode b_Law_law 729 = .ok (.iconst 2, 1) := by decide +kernel
theorem d_Law_law_730 : decode b_Law_law 730 = .ok (.iadd, 1) := by decide +kernel
theorem d_Law_law_731 : decode b_Law_law 731 = .ok (.iaload, 1) := by decide +kernel
theorem d_Law_law_732 : decode b_Law_law 732 = .ok (.invokevirtual 116, 3) := by decide +kernel
theorem d_Law_law_735 : decode b_Law_law 735 = .ok (.istore 6, 2) := by decide +kernel
theorem d_Law_law_737 : decode b_Law_law 737 = .ok (.aload_n 2, 1) := by decide +kernel
theorem d_Law_law_738 : decode b_Law_law 738 = .ok (.invokevirtual 89, 3) := by decide +kernel
theorem d_Law_law_741 : decode b_Law_law 741 = .ok (.iload 5, 2) := by decide +kernel
theorem d_Law_law_743 : decode b_Law_law 743 = .ok (.if_icmp .eq 5, 3) := by decide +kernel
theorem d_Law_law_746 : decode b_Law_law 746 = .ok (.iconst 0, 1) := by decide +kernel
theorem d_Law_law_747 : decode b_Law_law 747 = .ok (.ireturn, 1) := by decide +kernel
theorem d_Law_law_748 : decode b_Law_law 748 = .ok (.iload 5, 2) := by decide +kernel
theorem d_Law_law_750 : decode b_Law_law 750 = .ok (.ifCond .ne 15, 3) := by decide +kernel
theorem d_Law_law_753 : decode b_Law_law 753 = .ok (.aload_n 3, 1) := by decide +kernel
theorem d_Law_law_754 : decode b_Law_law 754 = .ok (.iconst 0, 1) := by decide +kernel
theorem d_Law_law_755 : decode b_Law_law 755 = .ok (.laload, 1) := by decide +kernel
theorem d_Law_law_756 : decode b_Law_law 756 = .ok (.iload 6, 2) := by decide +kernel
theorem d_Law_law_758 : decode b_Law_law 758 = .ok (.i2l, 1) := by decide +kernel
theorem d_Law_law_759 : decode b_Law_law 759 = .ok (.lcmp, 1) := by decide +kernel
theorem d_Law_law_760 : decode b_Law_law 760 = .ok (.ifCond .eq 5, 3) := by decide +kernel
theorem d_Law_law_763 : decode b_Law_law 763 = .ok (.iconst 0, 1) := by decide +kernel
theorem d_Law_law_764 : decode b_Law_law 764 = .ok (.ireturn, 1) := by decide +kernel
theorem d_Law_law_765 : decode b_Law_law 765 = .ok (.goto 838, 3) := by decide +kernel
theorem d_Law_law_768 : decode b_Law_law 768 = .ok (.aload_n 1, 1) := by decide +kernel
theorem d_Law_law_769 : decode b_Law_law 769 = .ok (.aload_n 0, 1) := by decide +kernel
theorem d_Law_law_770 : decode b_Law_law 770 = .ok (.iload 4, 2) := by decide +kernel
theorem d_Law_law_772 : decode b_Law_law 772 = .ok (.iconst 1, 1) := by decide +kernel
theorem d_Law_law_773 : decode b_Law_law 773 = .ok (.iadd, 1) := by decide +kernel
theorem d_Law_law_774 : decode b_Law_law 774 = .ok (.iaload, 1) := by decide +kernel
theorem d_Law_law_775 : decode b_Law_law 775 = .ok (.aload_n 0, 1) := by decide +kernel
theorem d_Law_law_776 : decode b_Law_law 776 = .ok (.iload 4, 2) := by decide +kernel
theorem d_Law_law_778 : decode b_Law_law 778 = .ok (.iconst 2, 1) := by decide +kernel
theorem d_Law_law_779 : decode b_Law_law 779 = .ok (.iadd, 1) := by decide +kernel
theorem d_Law_law_780 : decode b_Law_law 780 = .ok (.iaload, 1) := by decide +kernel
theorem d_Law_law_781 : decode b_Law_law 781 = .ok (.aload_n 3, 1) := by decide +kernel
theorem d_Law_law_782 : decode b_Law_law 782 = .ok (.invokestatic 117, 3) := by decide +kernel
theorem d_Law_law_785 : decode b_Law_law 785 = .ok (.istore 5, 2) := by decide +kernel
theorem d_Law_law_787 : decode b_Law_law 787 = .ok (.aload_n 2, 1) := by decide +kernel
theorem d_Law_law_788 : decode b_Law_law 788 = .ok (.aload_n 0, 1) := by decide +kernel
theorem d_Law_law_789 : decode b_Law_law 789 = .ok (.iload 4, 2) := by decide +kernel
theorem d_Law_law_791 : decode b_Law_law 791 = .ok (.iconst 1, 1) := by decide +kernel
theorem d_Law_law_792 : decode b_Law_law 792 = .ok (.iadd, 1) := by decide +kernel
theorem d_Law_law_793 : decode b_Law_law 793 = .ok (.iaload, 1) := by decide +kernel
theorem d_Law_law_794 : decode b_Law_law 794 = .ok (.aload_n 0, 1) := by decide +kernel
theorem d_Law_law_795 : decode b_Law_law 795 = .ok (.iload 4, 2) := by decide +kernel
theorem d_Law_law_797 : decode b_Law_law 797 = .ok (.iconst 2, 1) := by decide +kernel
theorem d_Law_law_798 : decode b_Law_law 798 = .ok (.iadd, 1) := by decide +kernel
theorem d_Law_law_799 : decode b_Law_law 799 = .ok (.iaload, 1) := by decide +kernel
theorem d_Law_law_800 : decode b_Law_law 800 = .ok (.invokevirtual 119, 3) := by decide +kernel
theorem d_Law_law_803 : decode b_Law_law 803 = .ok (.istore 6, 2) := by decide +kernel
theorem d_Law_law_805 : decode b_Law_law 805 = .ok (.aload_n 2, 1) := by decide +kernel
theorem d_Law_law_806 : decode b_Law_law 806 = .ok (.invokevirtual 89, 3) := by decide +kernel
theorem d_Law_law_809 : decode b_Law_law 809 = .ok (.iload 5, 2) := by decide +kernel
theorem d_Law_law_811 : decode b_Law_law 811 = .ok (.if_icmp .eq 5, 3) := by decide +kernel
theorem d_Law_law_814 : decode b_Law_law 814 = .ok (.iconst 0, 1) := by decide +kernel
theorem d_Law_law_815 : decode b_Law_law 815 = .ok (.ireturn, 1) := by decide +kernel
theorem d_Law_law_816 : decode b_Law_law 816 = .ok (.iload 5, 2) := by decide +kernel
theorem d_Law_law_818 : decode b_Law_law 818 = .ok (.ifCond .ne 15, 3) := by decide +kernel
theorem d_Law_law_821 : decode b_Law_law 821 = .ok (.aload_n 3, 1) := by decide +kernel
theorem d_Law_law_822 : decode b_Law_law 822 = .ok (.iconst 0, 1) := by decide +kernel
theorem d_Law_law_823 : decode b_Law_law 823 = .ok (.laload, 1) := by decide +kernel
theorem d_Law_law_824 : decode b_Law_law 824 = .ok (.iload 6, 2) := by decide +kernel
theorem d_Law_law_826 : decode b_Law_law 826 = .ok (.i2l, 1) := by decide +kernel
theorem d_Law_law_827 : decode b_Law_law 827 = .ok (.lcmp, 1) := by decide +kernel
theorem d_Law_law_828 : decode b_Law_law 828 = .ok (.ifCond .eq 5, 3) := by decide +kernel
theorem d_Law_law_831 : decode b_Law_law 831 = .ok (.iconst 0, 1) := by decide +kernel
theorem d_Law_law_832 : decode b_Law_law 832 = .ok (.ireturn, 1) := by decide +kernel
theorem d_Law_law_833 : decode b_Law_law 833 = .ok (.goto 770, 3) := by decide +kernel
theorem d_Law_law_836 : decode b_Law_law 836 = .ok (.aload_n 1, 1) := by decide +kernel
theorem d_Law_law_837 : decode b_Law_law 837 = .ok (.aload_n 0, 1) := by decide +kernel
theorem d_Law_law_838 : decode b_Law_law 838 = .ok (.iload 4, 2) := by decide +kernel
theorem d_Law_law_840 : decode b_Law_law 840 = .ok (.iconst 1, 1) := by decide +kernel
theorem d_Law_law_841 : decode b_Law_law 841 = .ok (.iadd, 1) := by decide +kernel
theorem d_Law_law_842 : decode b_Law_law 842 = .ok (.iaload, 1) := by decide +kernel
theorem d_Law_law_843 : decode b_Law_law 843 = .ok (.aload_n 3, 1) := by decide +kernel
theorem d_Law_law_844 : decode b_Law_law 844 = .ok (.invokestatic 120, 3) := by decide +kernel
theorem d_Law_law_847 : decode b_Law_law 847 = .ok (.istore 5, 2) := by decide +kernel
theorem d_Law_law_849 : decode b_Law_law 849 = .ok (.aload_n 2, 1) := by decide +kernel
theorem d_Law_law_850 : decode b_Law_law 850 = .ok (.aload_n 0, 1) := by decide +kernel
theorem d_Law_law_851 : decode b_Law_law 851 = .ok (.iload 4, 2) := by decide +kernel
theorem d_Law_law_853 : decode b_Law_law 853 = .ok (.iconst 1, 1) := by decide +kernel
theorem d_Law_law_854 : decode b_Law_law 854 = .ok (.iadd, 1) := by decide +kernel
theorem d_Law_law_855 : decode b_Law_law 855 = .ok (.iaload, 1) := by decide +kernel
theorem d_Law_law_856 : decode b_Law_law 856 = .ok (.invokevirtual 122, 3) := by decide +kernel
theorem d_Law_law_859 : decode b_Law_law 859 = .ok (.istore 6, 2) := by decide +kernel
theorem d_Law_law_861 : decode b_Law_law 861 = .ok (.aload_n 2, 1) := by decide +kernel
theorem d_Law_law_862 : decode b_Law_law 862 = .ok (.invokevirtual 89, 3) := by decide +kernel
theorem d_Law_law_865 : decode b_Law_law 865 = .ok (.iload 5, 2) := by decide +kernel
theorem d_Law_law_867 : decode b_Law_law 867 = .ok (.if_icmp .eq 5, 3) := by decide +kernel
theorem d_Law_law_870 : decode b_Law_law 870 = .ok (.iconst 0, 1) := by decide +kernel
theorem d_Law_law_871 : decode b_Law_law 871 = .ok (.ireturn, 1) := by decide +kernel
theorem d_Law_law_872 : decode b_Law_law 872 = .ok (.iload 5, 2) := by decide +kernel
theorem d_Law_law_874 : decode b_Law_law 874 = .ok (.ifCond .ne 15, 3) := by decide +kernel
theorem d_Law_law_877 : decode b_Law_law 877 = .ok (.aload_n 3, 1) := by decide +kernel
theorem d_Law_law_878 : decode b_Law_law 878 = .ok (.iconst 0, 1) := by decide +kernel
theorem d_Law_law_879 : decode b_Law_law 879 = .ok (.laload, 1) := by decide +kernel
theorem d_Law_law_880 : decode b_Law_law 880 = .ok (.iload 6, 2) := by decide +kernel
theorem d_Law_law_882 : decode b_Law_law 882 = .ok (.i2l, 1) := by decide +kernel
theorem d_Law_law_883 : decode b_Law_law 883 = .ok (.lcmp, 1) := by decide +kernel
theorem d_Law_law_884 : decode b_Law_law 884 = .ok (.ifCond .eq 5, 3) := by decide +kernel
theorem d_Law_law_887 : decode b_Law_law 887 = .ok (.iconst 0, 1) := by decide +kernel
theorem d_Law_law_888 : decode b_Law_law 888 = .ok (.ireturn, 1) := by decide +kernel
theorem d_Law_law_889 : decode b_Law_law 889 = .ok (.goto 714, 3) := by decide +kernel
theorem d_Law_law_892 : decode b_Law_law 892 = .ok (.aload_n 1, 1) := by decide +kernel
theorem d_Law_law_893 : decode b_Law_law 893 = .ok (.aload_n 0, 1) := by decide +kernel
theorem d_Law_law_894 : decode b_Law_law 894 = .ok (.iload 4, 2) := by decide +kernel
theorem d_Law_law_896 : decode b_Law_law 896 = .ok (.iconst 1, 1) := by decide +kernel
theorem d_Law_law_897 : decode b_Law_law 897 = .ok (.iadd, 1) := by decide +kernel
theorem d_Law_law_898 : decode b_Law_law 898 = .ok (.iaload, 1) := by decide +kernel
theorem d_Law_law_899 : decode b_Law_law 899 = .ok (.aload_n 3, 1) := by decide +kernel
theorem d_Law_law_900 : decode b_Law_law 900 = .ok (.invokestatic 123, 3) := by decide +kernel
theorem d_Law_law_903 : decode b_Law_law 903 = .ok (.istore 5, 2) := by decide +kernel
theorem d_Law_law_905 : decode b_Law_law 905 = .ok (.aload_n 2, 1) := by decide +kernel
theorem d_Law_law_906 : decode b_Law_law 906 = .ok (.aload_n 0, 1) := by decide +kernel
theorem d_Law_law_907 : decode b_Law_law 907 = .ok (.iload 4, 2) := by decide +kernel
theorem d_Law_law_909 : decode b_Law_law 909 = .ok (.iconst 1, 1) := by decide +kernel
theorem d_Law_law_910 : decode b_Law_law 910 = .ok (.iadd, 1) := by decide +kernel
theorem d_Law_law_911 : decode b_Law_law 911 = .ok (.iaload, 1) := by decide +kernel
theorem d_Law_law_912 : decode b_Law_law 912 = .ok (.invokevirtual 125, 3) := by decide +kernel
theorem d_Law_law_915 : decode b_Law_law 915 = .ok (.istore 6, 2) := by decide +kernel
theorem d_Law_law_917 : decode b_Law_law 917 = .ok (.aload_n 2, 1) := by decide +kernel
theorem d_Law_law_918 : decode b_Law_law 918 = .ok (.invokevirtual 89, 3) := by decide +kernel
theorem d_Law_law_921 : decode b_Law_law 921 = .ok (.iload 5, 2) := by decide +kernel
theorem d_Law_law_923 : decode b_Law_law 923 = .ok (.if_icmp .eq 5, 3) := by decide +kernel
theorem d_Law_law_926 : decode b_Law_law 926 = .ok (.iconst 0, 1) := by decide +kernel
theorem d_Law_law_927 : decode b_Law_law 927 = .ok (.ireturn, 1) := by decide +kernel
theorem d_Law_law_928 : decode b_Law_law 928 = .ok (.iload 5, 2) := by decide +kernel
theorem d_Law_law_930 : decode b_Law_law 930 = .ok (.ifCond .ne 15, 3) := by decide +kernel
theorem d_Law_law_933 : decode b_Law_law 933 = .ok (.aload_n 3, 1) := by decide +kernel
theorem d_Law_law_934 : decode b_Law_law 934 = .ok (.iconst 0, 1) := by decide +kernel
theorem d_Law_law_935 : decode b_Law_law 935 = .ok (.laload, 1) := by decide +kernel
theorem d_Law_law_936 : decode b_Law_law 936 = .ok (.iload 6, 2) := by decide +kernel
theorem d_Law_law_938 : decode b_Law_law 938 = .ok (.i2l, 1) := by decide +kernel
theorem d_Law_law_939 : decode b_Law_law 939 = .ok (.lcmp, 1) := by decide +kernel
theorem d_Law_law_940 : decode b_Law_law 940 = .ok (.ifCond .eq 5, 3) := by decide +kernel
theorem d_Law_law_943 : decode b_Law_law 943 = .ok (.iconst 0, 1) := by decide +kernel
theorem d_Law_law_944 : decode b_Law_law 944 = .ok (.ireturn, 1) := by decide +kernel
theorem d_Law_law_945 : decode b_Law_law 945 = .ok (.goto 658, 3) := by decide +kernel
theorem d_Law_law_948 : decode b_Law_law 948 = .ok (.aload_n 1, 1) := by decide +kernel
theorem d_Law_law_949 : decode b_Law_law 949 = .ok (.aload_n 0, 1) := by decide +kernel
theorem d_Law_law_950 : decode b_Law_law 950 = .ok (.iload 4, 2) := by decide +kernel
theorem d_Law_law_952 : decode b_Law_law 952 = .ok (.iconst 1, 1) := by decide +kernel
theorem d_Law_law_953 : decode b_Law_law 953 = .ok (.iadd, 1) := by decide +kernel
theorem d_Law_law_954 : decode b_Law_law 954 = .ok (.iaload, 1) := by decide +kernel
theorem d_Law_law_955 : decode b_Law_law 955 = .ok (.aload_n 0, 1) := by decide +kernel
theorem d_Law_law_956 : decode b_Law_law 956 = .ok (.iload 4, 2) := by decide +kernel
theorem d_Law_law_958 : decode b_Law_law 958 = .ok (.iconst 2, 1) := by decide +kernel
theorem d_Law_law_959 : decode b_Law_law 959 = .ok (.iadd, 1) := by decide +kernel
theorem d_Law_law_960 : decode b_Law_law 960 = .ok (.iaload, 1) := by decide +kernel
theorem d_Law_law_961 : decode b_Law_law 961 = .ok (.aload_n 3, 1) := by decide +kernel
theorem d_Law_law_962 : decode b_Law_law 962 = .ok (.invokestatic 126, 3) := by decide +kernel
theorem d_Law_law_965 : decode b_Law_law 965 = .ok (.istore 5, 2) := by decide +kernel
theorem d_Law_law_967 : decode b_Law_law 967 = .ok (.aload_n 2, 1) := by decide +kernel
theorem d_Law_law_968 : decode b_Law_law 968 = .ok (.aload_n 0, 1) := by decide +kernel
theorem d_Law_law_969 : decode b_Law_law 969 = .ok (.iload 4, 2) := by decide +kernel
theorem d_Law_law_971 : decode b_Law_law 971 = .ok (.iconst 1, 1) := by decide +kernel
theorem d_Law_law_972 : decode b_Law_law 972 = .ok (.iadd, 1) := by decide +kernel
theorem d_Law_law_973 : decode b_Law_law 973 = .ok (.iaload, 1) := by decide +kernel
theorem d_Law_law_974 : decode b_Law_law 974 = .ok (.aload_n 0, 1) := by decide +kernel
theorem d_Law_law_975 : decode b_Law_law 975 = .ok (.iload 4, 2) := by decide +kernel
theorem d_Law_law_977 : decode b_Law_law 977 = .ok (.iconst 2, 1) := by decide +kernel
theorem d_Law_law_978 : decode b_Law_law 978 = .ok (.iadd, 1) := by decide +kernel
theorem d_Law_law_979 : decode b_Law_law 979 = .ok (.iaload, 1) := by decide +kernel
theorem d_Law_law_980 : decode b_Law_law 980 = .ok (.invokevirtual 128, 3) := by decide +kernel
theorem d_Law_law_983 : decode b_Law_law 983 = .ok (.istore 6, 2) := by decide +kernel
theorem d_Law_law_985 : decode b_Law_law 985 = .ok (.aload_n 2, 1) := by decide +kernel
theorem d_Law_law_986 : decode b_Law_law 986 = .ok (.invokevirtual 89, 3) := by decide +kernel
theorem d_Law_law_989 : decode b_Law_law 989 = .ok (.iload 5, 2) := by decide +kernel
theorem d_Law_law_991 : decode b_Law_law 991 = .ok (.if_icmp .eq 5, 3) := by decide +kernel
theorem d_Law_law_994 : decode b_Law_law 994 = .ok (.iconst 0, 1) := by decide +kernel
theorem d_Law_law_995 : decode b_Law_law 995 = .ok (.ireturn, 1) := by decide +kernel
theorem d_Law_law_996 : decode b_Law_law 996 = .ok (.iload 5, 2) := by decide +kernel
theorem d_Law_law_998 : decode b_Law_law 998 = .ok (.ifCond .ne 15, 3) := by decide +kernel
theorem d_Law_law_1001 : decode b_Law_law 1001 = .ok (.aload_n 3, 1) := by decide +kernel
theorem d_Law_law_1002 : decode b_Law_law 1002 = .ok (.iconst 0, 1) := by decide +kernel
theorem d_Law_law_1003 : decode b_Law_law 1003 = .ok (.laload, 1) := by decide +kernel
theorem d_Law_law_1004 : decode b_Law_law 1004 = .ok (.iload 6, 2) := by decide +kernel
theorem d_Law_law_1006 : decode b_Law_law 1006 = .ok (.i2l, 1) := by decide +kernel
theorem d_Law_law_1007 : decode b_Law_law 1007 = .ok (.lcmp, 1) := by decide +kernel
theorem d_Law_law_1008 : decode b_Law_law 1008 = .ok (.ifCond .eq 5, 3) := by decide +kernel
theorem d_Law_law_1011 : decode b_Law_law 1011 = .ok (.iconst 0, 1) := by decide +kernel
theorem d_Law_law_1012 : decode b_Law_law 1012 = .ok (.ireturn, 1) := by decide +kernel
theorem d_Law_law_1013 : decode b_Law_law 1013 = .ok (.goto 590, 3) := by decide +kernel
theorem d_Law_law_1016 : decode b_Law_law 1016 = .ok (.aload_n 1, 1) := by decide +kernel
theorem d_Law_law_1017 : decode b_Law_law 1017 = .ok (.aload_n 0, 1) := by decide +kernel
theorem d_Law_law_1018 : decode b_Law_law 1018 = .ok (.iload 4, 2) := by decide +kernel
theorem d_Law_law_1020 : decode b_Law_law 1020 = .ok (.iconst 1, 1) := by decide +kernel
theorem d_Law_law_1021 : decode b_Law_law 1021 = .ok (.iadd, 1) := by decide +kernel
theorem d_Law_law_1022 : decode b_Law_law 1022 = .ok (.iaload, 1) := by decide +kernel
theorem d_Law_law_1023 : decode b_Law_law 1023 = .ok (.aload_n 0, 1) := by decide +kernel
theorem d_Law_law_1024 : decode b_Law_law 1024 = .ok (.iload 4, 2) := by decide +kernel
theorem d_Law_law_1026 : decode b_Law_law 1026 = .ok (.iconst 2, 1) := by decide +kernel
theorem d_Law_law_1027 : decode b_Law_law 1027 = .ok (.iadd, 1) := by decide +kernel
theorem d_Law_law_1028 : decode b_Law_law 1028 = .ok (.iaload, 1) := by decide +kernel
theorem d_Law_law_1029 : decode b_Law_law 1029 = .ok (.aload_n 3, 1) := by decide +kernel
theorem d_Law_law_1030 : decode b_Law_law 1030 = .ok (.invokestatic 129, 3) := by decide +kernel
theorem d_Law_law_1033 : decode b_Law_law 1033 = .ok (.istore 5, 2) := by decide +kernel
theorem d_Law_law_1035 : decode b_Law_law 1035 = .ok (.aload_n 2, 1) := by decide +kernel
theorem d_Law_law_1036 : decode b_Law_law 1036 = .ok (.aload_n 0, 1) := by decide +kernel
theorem d_Law_law_1037 : decode b_Law_law 1037 = .ok (.iload 4, 2) := by decide +kernel
theorem d_Law_law_1039 : decode b_Law_law 1039 = .ok (.iconst 1, 1) := by decide +kernel
theorem d_Law_law_1040 : decode b_Law_law 1040 = .ok (.iadd, 1) := by decide +kernel
theorem d_Law_law_1041 : decode b_Law_law 1041 = .ok (.iaload, 1) := by decide +kernel
theorem d_Law_law_1042 : decode b_Law_law 1042 = .ok (.aload_n 0, 1) := by decide +kernel
theorem d_Law_law_1043 : decode b_Law_law 1043 = .ok (.iload 4, 2) := by decide +kernel
theorem d_Law_law_1045 : decode b_Law_law 1045 = .ok (.iconst 2, 1) := by decide +kernel
theorem d_Law_law_1046 : decode b_Law_law 1046 = .ok (.iadd, 1) := by decide +kernel
theorem d_Law_law_1047 : decode b_Law_law 1047 = .ok (.iaload, 1) := by decide +kernel
theorem d_Law_law_1048 : decode b_Law_law 1048 = .ok (.invokevirtual 131, 3) := by decide +kernel
theorem d_Law_law_1051 : decode b_Law_law 1051 = .ok (.istore 6, 2) := by decide +kernel
theorem d_Law_law_1053 : decode b_Law_law 1053 = .ok (.aload_n 2, 1) := by decide +kernel
theorem d_Law_law_1054 : decode b_Law_law 1054 = .ok (.invokevirtual 89, 3) := by decide +kernel
theorem d_Law_law_1057 : decode b_Law_law 1057 = .ok (.iload 5, 2) := by decide +kernel
theorem d_Law_law_1059 : decode b_Law_law 1059 = .ok (.if_icmp .eq 5, 3) := by decide +kernel
theorem d_Law_law_1062 : decode b_Law_law 1062 = .ok (.iconst 0, 1) := by decide +kernel
theorem d_Law_law_1063 : decode b_Law_law 1063 = .ok (.ireturn, 1) := by decide +kernel
theorem d_Law_law_1064 : decode b_Law_law 1064 = .ok (.iload 5, 2) := by decide +kernel
theorem d_Law_law_1066 : decode b_Law_law 1066 = .ok (.ifCond .ne 15, 3) := by decide +kernel
theorem d_Law_law_1069 : decode b_Law_law 1069 = .ok (.aload_n 3, 1) := by decide +kernel
theorem d_Law_law_1070 : decode b_Law_law 1070 = .ok (.iconst 0, 1) := by decide +kernel
theorem d_Law_law_1071 : decode b_Law_law 1071 = .ok (.laload, 1) := by decide +kernel
theorem d_Law_law_1072 : decode b_Law_law 1072 = .ok (.iload 6, 2) := by decide +kernel
theorem d_Law_law_1074 : decode b_Law_law 1074 = .ok (.i2l, 1) := by decide +kernel
theorem d_Law_law_1075 : decode b_Law_law 1075 = .ok (.lcmp, 1) := by decide +kernel
theorem d_Law_law_1076 : decode b_Law_law 1076 = .ok (.ifCond .eq 5, 3) := by decide +kernel
theorem d_Law_law_1079 : decode b_Law_law 1079 = .ok (.iconst 0, 1) := by decide +kernel
theorem d_Law_law_1080 : decode b_Law_law 1080 = .ok (.ireturn, 1) := by decide +kernel
theorem d_Law_law_1081 : decode b_Law_law 1081 = .ok (.goto 522, 3) := by decide +kernel
theorem d_Law_law_1084 : decode b_Law_law 1084 = .ok (.aload_n 1, 1) := by decide +kernel
theorem d_Law_law_1085 : decode b_Law_law 1085 = .ok (.aload_n 0, 1) := by decide +kernel
theorem d_Law_law_1086 : decode b_Law_law 1086 = .ok (.iload 4, 2) := by decide +kernel
theorem d_Law_law_1088 : decode b_Law_law 1088 = .ok (.iconst 1, 1) := by decide +kernel
theorem d_Law_law_1089 : decode b_Law_law 1089 = .ok (.iadd, 1) := by decide +kernel
theorem d_Law_law_1090 : decode b_Law_law 1090 = .ok (.iaload, 1) := by decide +kernel
theorem d_Law_law_1091 : decode b_Law_law 1091 = .ok (.aload_n 0, 1) := by decide +kernel
theorem d_Law_law_1092 : decode b_Law_law 1092 = .ok (.iload 4, 2) := by decide +kernel
theorem d_Law_law_1094 : decode b_Law_law 1094 = .ok (.iconst 2, 1) := by decide +kernel
theorem d_Law_law_1095 : decode b_Law_law 1095 = .ok (.iadd, 1) := by decide +kernel
theorem d_Law_law_1096 : decode b_Law_law 1096 = .ok (.iaload, 1) := by decide +kernel
theorem d_Law_law_1097 : decode b_Law_law 1097 = .ok (.aload_n 3, 1) := by decide +kernel
theorem d_Law_law_1098 : decode b_Law_law 1098 = .ok (.invokestatic 132, 3) := by decide +kernel
theorem d_Law_law_1101 : decode b_Law_law 1101 = .ok (.istore 5, 2) := by decide +kernel
theorem d_Law_law_1103 : decode b_Law_law 1103 = .ok (.aload_n 2, 1) := by decide +kernel
theorem d_Law_law_1104 : decode b_Law_law 1104 = .ok (.aload_n 0, 1) := by decide +kernel
theorem d_Law_law_1105 : decode b_Law_law 1105 = .ok (.iload 4, 2) := by decide +kernel
theorem d_Law_law_1107 : decode b_Law_law 1107 = .ok (.iconst 1, 1) := by decide +kernel
theorem d_Law_law_1108 : decode b_Law_law 1108 = .ok (.iadd, 1) := by decide +kernel
theorem d_Law_law_1109 : decode b_Law_law 1109 = .ok (.iaload, 1) := by decide +kernel
theorem d_Law_law_1110 : decode b_Law_law 1110 = .ok (.aload_n 0, 1) := by decide +kernel
theorem d_Law_law_1111 : decode b_Law_law 1111 = .ok (.iload 4, 2) := by decide +kernel
theorem d_Law_law_1113 : decode b_Law_law 1113 = .ok (.iconst 2, 1) := by decide +kernel
theorem d_Law_law_1114 : decode b_Law_law 1114 = .ok (.iadd, 1) := by decide +kernel
theorem d_Law_law_1115 : decode b_Law_law 1115 = .ok (.iaload, 1) := by decide +kernel
theorem d_Law_law_1116 : decode b_Law_law 1116 = .ok (.invokevirtual 134, 3) := by decide +kernel
theorem d_Law_law_1119 : decode b_Law_law 1119 = .ok (.istore 6, 2) := by decide +kernel
theorem d_Law_law_1121 : decode b_Law_law 1121 = .ok (.aload_n 2, 1) := by decide +kernel
theorem d_Law_law_1122 : decode b_Law_law 1122 = .ok (.invokevirtual 89, 3) := by decide +kernel
theorem d_Law_law_1125 : decode b_Law_law 1125 = .ok (.iload 5, 2) := by decide +kernel
theorem d_Law_law_1127 : decode b_Law_law 1127 = .ok (.if_icmp .eq 5, 3) := by decide +kernel
theorem d_Law_law_1130 : decode b_Law_law 1130 = .ok (.iconst 0, 1) := by decide +kernel
theorem d_Law_law_1131 : decode b_Law_law 1131 = .ok (.ireturn, 1) := by decide +kernel
theorem d_Law_law_1132 : decode b_Law_law 1132 = .ok (.iload 5, 2) := by decide +kernel
theorem d_Law_law_1134 : decode b_Law_law 1134 = .ok (.ifCond .ne 15, 3) := by decide +kernel
theorem d_Law_law_1137 : decode b_Law_law 1137 = .ok (.aload_n 3, 1) := by decide +kernel
theorem d_Law_law_1138 : decode b_Law_law 1138 = .ok (.iconst 0, 1) := by decide +kernel
theorem d_Law_law_1139 : decode b_Law_law 1139 = .ok (.laload, 1) := by decide +kernel
theorem d_Law_law_1140 : decode b_Law_law 1140 = .ok (.iload 6, 2) := by decide +kernel
theorem d_Law_law_1142 : decode b_Law_law 1142 = .ok (.i2l, 1) := by decide +kernel
theorem d_Law_law_1143 : decode b_Law_law 1143 = .ok (.lcmp, 1) := by decide +kernel
theorem d_Law_law_1144 : decode b_Law_law 1144 = .ok (.ifCond .eq 5, 3) := by decide +kernel
theorem d_Law_law_1147 : decode b_Law_law 1147 = .ok (.iconst 0, 1) := by decide +kernel
theorem d_Law_law_1148 : decode b_Law_law 1148 = .ok (.ireturn, 1) := by decide +kernel
theorem d_Law_law_1149 : decode b_Law_law 1149 = .ok (.goto 454, 3) := by decide +kernel
theorem d_Law_law_1152 : decode b_Law_law 1152 = .ok (.aload_n 1, 1) := by decide +kernel
theorem d_Law_law_1153 : decode b_Law_law 1153 = .ok (.aload_n 0, 1) := by decide +kernel
theorem d_Law_law_1154 : decode b_Law_law 1154 = .ok (.iload 4, 2) := by decide +kernel
theorem d_Law_law_1156 : decode b_Law_law 1156 = .ok (.iconst 1, 1) := by decide +kernel
theorem d_Law_law_1157 : decode b_Law_law 1157 = .ok (.iadd, 1) := by decide +kernel
theorem d_Law_law_1158 : decode b_Law_law 1158 = .ok (.iaload, 1) := by decide +kernel
theorem d_Law_law_1159 : decode b_Law_law 1159 = .ok (.aload_n 0, 1) := by decide +kernel
theorem d_Law_law_1160 : decode b_Law_law 1160 = .ok (.iload 4, 2) := by decide +kernel
theorem d_Law_law_1162 : decode b_Law_law 1162 = .ok (.iconst 2, 1) := by decide +kernel
theorem d_Law_law_1163 : decode b_Law_law 1163 = .ok (.iadd, 1) := by decide +kernel
theorem d_Law_law_1164 : decode b_Law_law 1164 = .ok (.iaload, 1) := by decide +kernel
theorem d_Law_law_1165 : decode b_Law_law 1165 = .ok (.aload_n 3, 1) := by decide +kernel
theorem d_Law_law_1166 : decode b_Law_law 1166 = .ok (.invokestatic 135, 3) := by decide +kernel
theorem d_Law_law_1169 : decode b_Law_law 1169 = .ok (.istore 5, 2) := by decide +kernel
theorem d_Law_law_1171 : decode b_Law_law 1171 = .ok (.aload_n 2, 1) := by decide +kernel
theorem d_Law_law_1172 : decode b_Law_law 1172 = .ok (.aload_n 0, 1) := by decide +kernel
theorem d_Law_law_1173 : decode b_Law_law 1173 = .ok (.iload 4, 2) := by decide +kernel
theorem d_Law_law_1175 : decode b_Law_law 1175 = .ok (.iconst 1, 1) := by decide +kernel
theorem d_Law_law_1176 : decode b_Law_law 1176 = .ok (.iadd, 1) := by decide +kernel
theorem d_Law_law_1177 : decode b_Law_law 1177 = .ok (.iaload, 1) := by decide +kernel
theorem d_Law_law_1178 : decode b_Law_law 1178 = .ok (.aload_n 0, 1) := by decide +kernel
theorem d_Law_law_1179 : decode b_Law_law 1179 = .ok (.iload 4, 2) := by decide +kernel
theorem d_Law_law_1181 : decode b_Law_law 1181 = .ok (.iconst 2, 1) := by decide +kernel
theorem d_Law_law_1182 : decode b_Law_law 1182 = .ok (.iadd, 1) := by decide +kernel
theorem d_Law_law_1183 : decode b_Law_law 1183 = .ok (.iaload, 1) := by decide +kernel
theorem d_Law_law_1184 : decode b_Law_law 1184 = .ok (.invokevirtual 137, 3) := by decide +kernel
theorem d_Law_law_1187 : decode b_Law_law 1187 = .ok (.istore 6, 2) := by decide +kernel
theorem d_Law_law_1189 : decode b_Law_law 1189 = .ok (.aload_n 2, 1) := by decide +kernel
theorem d_Law_law_1190 : decode b_Law_law 1190 = .ok (.invokevirtual 89, 3) := by decide +kernel
theorem d_Law_law_1193 : decode b_Law_law 1193 = .ok (.iload 5, 2) := by decide +kernel
theorem d_Law_law_1195 : decode b_Law_law 1195 = .ok (.if_icmp .eq 5, 3) := by decide +kernel
theorem d_Law_law_1198 : decode b_Law_law 1198 = .ok (.iconst 0, 1) := by decide +kernel
theorem d_Law_law_1199 : decode b_Law_law 1199 = .ok (.ireturn, 1) := by decide +kernel
theorem d_Law_law_1200 : decode b_Law_law 1200 = .ok (.iload 5, 2) := by decide +kernel
theorem d_Law_law_1202 : decode b_Law_law 1202 = .ok (.ifCond .ne 15, 3) := by decide +kernel
theorem d_Law_law_1205 : decode b_Law_law 1205 = .ok (.aload_n 3, 1) := by decide +kernel
theorem d_Law_law_1206 : decode b_Law_law 1206 = .ok (.iconst 0, 1) := by decide +kernel
theorem d_Law_law_1207 : decode b_Law_law 1207 = .ok (.laload, 1) := by decide +kernel
theorem d_Law_law_1208 : decode b_Law_law 1208 = .ok (.iload 6, 2) := by decide +kernel
theorem d_Law_law_1210 : decode b_Law_law 1210 = .ok (.i2l, 1) := by decide +kernel
theorem d_Law_law_1211 : decode b_Law_law 1211 = .ok (.lcmp, 1) := by decide +kernel
theorem d_Law_law_1212 : decode b_Law_law 1212 = .ok (.ifCond .eq 5, 3) := by decide +kernel
theorem d_Law_law_1215 : decode b_Law_law 1215 = .ok (.iconst 0, 1) := by decide +kernel
theorem d_Law_law_1216 : decode b_Law_law 1216 = .ok (.ireturn, 1) := by decide +kernel
theorem d_Law_law_1217 : decode b_Law_law 1217 = .ok (.goto 386, 3) := by decide +kernel
theorem d_Law_law_1220 : decode b_Law_law 1220 = .ok (.aload_n 1, 1) := by decide +kernel
theorem d_Law_law_1221 : decode b_Law_law 1221 = .ok (.aload_n 0, 1) := by decide +kernel
theorem d_Law_law_1222 : decode b_Law_law 1222 = .ok (.iload 4, 2) := by decide +kernel
theorem d_Law_law_1224 : decode b_Law_law 1224 = .ok (.iconst 1, 1) := by decide +kernel
theorem d_Law_law_1225 : decode b_Law_law 1225 = .ok (.iadd, 1) := by decide +kernel
theorem d_Law_law_1226 : decode b_Law_law 1226 = .ok (.iaload, 1) := by decide +kernel
theorem d_Law_law_1227 : decode b_Law_law 1227 = .ok (.aload_n 3, 1) := by decide +kernel
theorem d_Law_law_1228 : decode b_Law_law 1228 = .ok (.invokestatic 138, 3) := by decide +kernel
theorem d_Law_law_1231 : decode b_Law_law 1231 = .ok (.istore 5, 2) := by decide +kernel
theorem d_Law_law_1233 : decode b_Law_law 1233 = .ok (.aload_n 2, 1) := by decide +kernel
theorem d_Law_law_1234 : decode b_Law_law 1234 = .ok (.aload_n 0, 1) := by decide +kernel
theorem d_Law_law_1235 : decode b_Law_law 1235 = .ok (.iload 4, 2) := by decide +kernel
theorem d_Law_law_1237 : decode b_Law_law 1237 = .ok (.iconst 1, 1) := by decide +kernel
theorem d_Law_law_1238 : decode b_Law_law 1238 = .ok (.iadd, 1) := by decide +kernel
theorem d_Law_law_1239 : decode b_Law_law 1239 = .ok (.iaload, 1) := by decide +kernel
theorem d_Law_law_1240 : decode b_Law_law 1240 = .ok (.invokevirtual 140, 3) := by decide +kernel
theorem d_Law_law_1243 : decode b_Law_law 1243 = .ok (.istore 6, 2) := by decide +kernel
theorem d_Law_law_1245 : decode b_Law_law 1245 = .ok (.aload_n 2, 1) := by decide +kernel
theorem d_Law_law_1246 : decode b_Law_law 1246 = .ok (.invokevirtual 89, 3) := by decide +kernel
theorem d_Law_law_1249 : decode b_Law_law 1249 = .ok (.iload 5, 2) := by decide +kernel
theorem d_Law_law_1251 : decode b_Law_law 1251 = .ok (.if_icmp .eq 5, 3) := by decide +kernel
theorem d_Law_law_1254 : decode b_Law_law 1254 = .ok (.iconst 0, 1) := by decide +kernel
theorem d_Law_law_1255 : decode b_Law_law 1255 = .ok (.ireturn, 1) := by decide +kernel
theorem d_Law_law_1256 : decode b_Law_law 1256 = .ok (.iload 5, 2) := by decide +kernel
theorem d_Law_law_1258 : decode b_Law_law 1258 = .ok (.ifCond .ne 15, 3) := by decide +kernel
theorem d_Law_law_1261 : decode b_Law_law 1261 = .ok (.aload_n 3, 1) := by decide +kernel
theorem d_Law_law_1262 : decode b_Law_law 1262 = .ok (.iconst 0, 1) := by decide +kernel
theorem d_Law_law_1263 : decode b_Law_law 1263 = .ok (.laload, 1) := by decide +kernel
theorem d_Law_law_1264 : decode b_Law_law 1264 = .ok (.iload 6, 2) := by decide +kernel
theorem d_Law_law_1266 : decode b_Law_law 1266 = .ok (.i2l, 1) := by decide +kernel
theorem d_Law_law_1267 : decode b_Law_law 1267 = .ok (.lcmp, 1) := by decide +kernel
theorem d_Law_law_1268 : decode b_Law_law 1268 = .ok (.ifCond .eq 5, 3) := by decide +kernel
theorem d_Law_law_1271 : decode b_Law_law 1271 = .ok (.iconst 0, 1) := by decide +kernel
theorem d_Law_law_1272 : decode b_Law_law 1272 = .ok (.ireturn, 1) := by decide +kernel
theorem d_Law_law_1273 : decode b_Law_law 1273 = .ok (.goto 330, 3) := by decide +kernel
theorem d_Law_law_1276 : decode b_Law_law 1276 = .ok (.aload_n 1, 1) := by decide +kernel
theorem d_Law_law_1277 : decode b_Law_law 1277 = .ok (.aload_n 0, 1) := by decide +kernel
theorem d_Law_law_1278 : decode b_Law_law 1278 = .ok (.iload 4, 2) := by decide +kernel
theorem d_Law_law_1280 : decode b_Law_law 1280 = .ok (.iconst 1, 1) := by decide +kernel
theorem d_Law_law_1281 : decode b_Law_law 1281 = .ok (.iadd, 1) := by decide +kernel
theorem d_Law_law_1282 : decode b_Law_law 1282 = .ok (.iaload, 1) := by decide +kernel
theorem d_Law_law_1283 : decode b_Law_law 1283 = .ok (.aload_n 0, 1) := by decide +kernel
theorem d_Law_law_1284 : decode b_Law_law 1284 = .ok (.iload 4, 2) := by decide +kernel
theorem d_Law_law_1286 : decode b_Law_law 1286 = .ok (.iconst 2, 1) := by decide +kernel
theorem d_Law_law_1287 : decode b_Law_law 1287 = .ok (.iadd, 1) := by decide +kernel
theorem d_Law_law_1288 : decode b_Law_law 1288 = .ok (.iaload, 1) := by decide +kernel
theorem d_Law_law_1289 : decode b_Law_law 1289 = .ok (.aload_n 3, 1) := by decide +kernel
theorem d_Law_law_1290 : decode b_Law_law 1290 = .ok (.invokestatic 141, 3) := by decide +kernel
theorem d_Law_law_1293 : decode b_Law_law 1293 = .ok (.istore 5, 2) := by decide +kernel
theorem d_Law_law_1295 : decode b_Law_law 1295 = .ok (.aload_n 2, 1) := by decide +kernel
theorem d_Law_law_1296 : decode b_Law_law 1296 = .ok (.aload_n 0, 1) := by decide +kernel
theorem d_Law_law_1297 : decode b_Law_law 1297 = .ok (.iload 4, 2) := by decide +kernel
theorem d_Law_law_1299 : decode b_Law_law 1299 = .ok (.iconst 1, 1) := by decide +kernel
theorem d_Law_law_1300 : decode b_Law_law 1300 = .ok (.iadd, 1) := by decide +kernel
theorem d_Law_law_1301 : decode b_Law_law 1301 = .ok (.iaload, 1) := by decide +kernel
theorem d_Law_law_1302 : decode b_Law_law 1302 = .ok (.aload_n 0, 1) := by decide +kernel
theorem d_Law_law_1303 : decode b_Law_law 1303 = .ok (.iload 4, 2) := by decide +kernel
theorem d_Law_law_1305 : decode b_Law_law 1305 = .ok (.iconst 2, 1) := by decide +kernel
theorem d_Law_law_1306 : decode b_Law_law 1306 = .ok (.iadd, 1) := by decide +kernel
theorem d_Law_law_1307 : decode b_Law_law 1307 = .ok (.iaload, 1) := by decide +kernel
theorem d_Law_law_1308 : decode b_Law_law 1308 = .ok (.invokevirtual 143, 3) := by decide +kernel
theorem d_Law_law_1311 : decode b_Law_law 1311 = .ok (.istore 6, 2) := by decide +kernel
theorem d_Law_law_1313 : decode b_Law_law 1313 = .ok (.aload_n 2, 1) := by decide +kernel
theorem d_Law_law_1314 : decode b_Law_law 1314 = .ok (.invokevirtual 89, 3) := by decide +kernel
theorem d_Law_law_1317 : decode b_Law_law 1317 = .ok (.iload 5, 2) := by decide +kernel
theorem d_Law_law_1319 : decode b_Law_law 1319 = .ok (.if_icmp .eq 5, 3) := by decide +kernel
theorem d_Law_law_1322 : decode b_Law_law 1322 = .ok (.iconst 0, 1) := by decide +kernel
theorem d_Law_law_1323 : decode b_Law_law 1323 = .ok (.ireturn, 1) := by decide +kernel
theorem d_Law_law_1324 : decode b_Law_law 1324 = .ok (.iload 5, 2) := by decide +kernel
theorem d_Law_law_1326 : decode b_Law_law 1326 = .ok (.ifCond .ne 15, 3) := by decide +kernel
theorem d_Law_law_1329 : decode b_Law_law 1329 = .ok (.aload_n 3, 1) := by decide +kernel
theorem d_Law_law_1330 : decode b_Law_law 1330 = .ok (.iconst 0, 1) := by decide +kernel
theorem d_Law_law_1331 : decode b_Law_law 1331 = .ok (.laload, 1) := by decide +kernel
theorem d_Law_law_1332 : decode b_Law_law 1332 = .ok (.iload 6, 2) := by decide +kernel
theorem d_Law_law_1334 : decode b_Law_law 1334 = .ok (.i2l, 1) := by decide +kernel
theorem d_Law_law_1335 : decode b_Law_law 1335 = .ok (.lcmp, 1) := by decide +kernel
theorem d_Law_law_1336 : decode b_Law_law 1336 = .ok (.ifCond .eq 5, 3) := by decide +kernel
theorem d_Law_law_1339 : decode b_Law_law 1339 = .ok (.iconst 0, 1) := by decide +kernel
theorem d_Law_law_1340 : decode b_Law_law 1340 = .ok (.ireturn, 1) := by decide +kernel
theorem d_Law_law_1341 : decode b_Law_law 1341 = .ok (.goto 262, 3) := by decide +kernel
theorem d_Law_law_1344 : decode b_Law_law 1344 = .ok (.aload_n 1, 1) := by decide +kernel
theorem d_Law_law_1345 : decode b_Law_law 1345 = .ok (.invokevirtual 144, 3) := by decide +kernel
theorem d_Law_law_1348 : decode b_Law_law 1348 = .ok (.dstore 5, 2) := by decide +kernel
theorem d_Law_law_1350 : decode b_Law_law 1350 = .ok (.aload_n 2, 1) := by decide +kernel
theorem d_Law_law_1351 : decode b_Law_law 1351 = .ok (.invokevirtual 148, 3) := by decide +kernel
theorem d_Law_law_1354 : decode b_Law_law 1354 = .ok (.dstore 7, 2) := by decide +kernel
theorem d_Law_law_1356 : decode b_Law_law 1356 = .ok (.dload 5, 2) := by decide +kernel
theorem d_Law_law_1358 : decode b_Law_law 1358 = .ok (.dload 7, 2) := by decide +kernel
theorem d_Law_law_1360 : decode b_Law_law 1360 = .ok (.dcmp .l, 1) := by decide +kernel
theorem d_Law_law_1361 : decode b_Law_law 1361 = .ok (.ifCond .eq 21, 3) := by decide +kernel
theorem d_Law_law_1364 : decode b_Law_law 1364 = .ok (.dload 5, 2) := by decide +kernel
theorem d_Law_law_1366 : decode b_Law_law 1366 = .ok (.dload 5, 2) := by decide +kernel
theorem d_Law_law_1368 : decode b_Law_law 1368 = .ok (.dcmp .l, 1) := by decide +kernel
theorem d_Law_law_1369 : decode b_Law_law 1369 = .ok (.ifCond .eq 11, 3) := by decide +kernel
theorem d_Law_law_1372 : decode b_Law_law 1372 = .ok (.dload 7, 2) := by decide +kernel
theorem d_Law_law_1374 : decode b_Law_law 1374 = .ok (.dload 7, 2) := by decide +kernel
theorem d_Law_law_1376 : decode b_Law_law 1376 = .ok (.dcmp .l, 1) := by decide +kernel
theorem d_Law_law_1377 : decode b_Law_law 1377 = .ok (.ifCond .ne 5, 3) := by decide +kernel
theorem d_Law_law_1380 : decode b_Law_law 1380 = .ok (.iconst 0, 1) := by decide +kernel
theorem d_Law_law_1381 : decode b_Law_law 1381 = .ok (.ireturn, 1) := by decide +kernel
theorem d_Law_law_1382 : decode b_Law_law 1382 = .ok (.goto 221, 3) := by decide +kernel
theorem d_Law_law_1385 : decode b_Law_law 1385 = .ok (.aload_n 1, 1) := by decide +kernel
theorem d_Law_law_1386 : decode b_Law_law 1386 = .ok (.aload_n 0, 1) := by decide +kernel
theorem d_Law_law_1387 : decode b_Law_law 1387 = .ok (.iload 4, 2) := by decide +kernel
theorem d_Law_law_1389 : decode b_Law_law 1389 = .ok (.iconst 1, 1) := by decide +kernel
theorem d_Law_law_1390 : decode b_Law_law 1390 = .ok (.iadd, 1) := by decide +kernel
theorem d_Law_law_1391 : decode b_Law_law 1391 = .ok (.iaload, 1) := by decide +kernel
theorem d_Law_law_1392 : decode b_Law_law 1392 = .ok (.aload_n 0, 1) := by decide +kernel
theorem d_Law_law_1393 : decode b_Law_law 1393 = .ok (.iload 4, 2) := by decide +kernel
theorem d_Law_law_1395 : decode b_Law_law 1395 = .ok (.iconst 2, 1) := by decide +kernel
theorem d_Law_law_1396 : decode b_Law_law 1396 = .ok (.iadd, 1) := by decide +kernel
theorem d_Law_law_1397 : decode b_Law_law 1397 = .ok (.iaload, 1) := by decide +kernel
theorem d_Law_law_1398 : decode b_Law_law 1398 = .ok (.aload_n 3, 1) := by decide +kernel
theorem d_Law_law_1399 : decode b_Law_law 1399 = .ok (.invokestatic 149, 3) := by decide +kernel
theorem d_Law_law_1402 : decode b_Law_law 1402 = .ok (.istore 5, 2) := by decide +kernel
theorem d_Law_law_1404 : decode b_Law_law 1404 = .ok (.aload_n 2, 1) := by decide +kernel
theorem d_Law_law_1405 : decode b_Law_law 1405 = .ok (.aload_n 0, 1) := by decide +kernel
theorem d_Law_law_1406 : decode b_Law_law 1406 = .ok (.iload 4, 2) := by decide +kernel
theorem d_Law_law_1408 : decode b_Law_law 1408 = .ok (.iconst 1, 1) := by decide +kernel
theorem d_Law_law_1409 : decode b_Law_law 1409 = .ok (.iadd, 1) := by decide +kernel
theorem d_Law_law_1410 : decode b_Law_law 1410 = .ok (.iaload, 1) := by decide +kernel
theorem d_Law_law_1411 : decode b_Law_law 1411 = .ok (.aload_n 0, 1) := by decide +kernel
theorem d_Law_law_1412 : decode b_Law_law 1412 = .ok (.iload 4, 2) := by decide +kernel
theorem d_Law_law_1414 : decode b_Law_law 1414 = .ok (.iconst 2, 1) := by decide +kernel
theorem d_Law_law_1415 : decode b_Law_law 1415 = .ok (.iadd, 1) := by decide +kernel
theorem d_Law_law_1416 : decode b_Law_law 1416 = .ok (.iaload, 1) := by decide +kernel
theorem d_Law_law_1417 : decode b_Law_law 1417 = .ok (.invokevirtual 151, 3) := by decide +kernel
theorem d_Law_law_1420 : decode b_Law_law 1420 = .ok (.istore 6, 2) := by decide +kernel
theorem d_Law_law_1422 : decode b_Law_law 1422 = .ok (.aload_n 2, 1) := by decide +kernel
theorem d_Law_law_1423 : decode b_Law_law 1423 = .ok (.invokevirtual 89, 3) := by decide +kernel
theorem d_Law_law_1426 : decode b_Law_law 1426 = .ok (.iload 5, 2) := by decide +kernel
theorem d_Law_law_1428 : decode b_Law_law 1428 = .ok (.if_icmp .eq 5, 3) := by decide +kernel
theorem d_Law_law_1431 : decode b_Law_law 1431 = .ok (.iconst 0, 1) := by decide +kernel
theorem d_Law_law_1432 : decode b_Law_law 1432 = .ok (.ireturn, 1) := by decide +kernel
theorem d_Law_law_1433 : decode b_Law_law 1433 = .ok (.iload 5, 2) := by decide +kernel
theorem d_Law_law_1435 : decode b_Law_law 1435 = .ok (.ifCond .ne 15, 3) := by decide +kernel
theorem d_Law_law_1438 : decode b_Law_law 1438 = .ok (.aload_n 3, 1) := by decide +kernel
theorem d_Law_law_1439 : decode b_Law_law 1439 = .ok (.iconst 0, 1) := by decide +kernel
theorem d_Law_law_1440 : decode b_Law_law 1440 = .ok (.laload, 1) := by decide +kernel
theorem d_Law_law_1441 : decode b_Law_law 1441 = .ok (.iload 6, 2) := by decide +kernel
theorem d_Law_law_1443 : decode b_Law_law 1443 = .ok (.i2l, 1) := by decide +kernel
theorem d_Law_law_1444 : decode b_Law_law 1444 = .ok (.lcmp, 1) := by decide +kernel
theorem d_Law_law_1445 : decode b_Law_law 1445 = .ok (.ifCond .eq 5, 3) := by decide +kernel
theorem d_Law_law_1448 : decode b_Law_law 1448 = .ok (.iconst 0, 1) := by decide +kernel
theorem d_Law_law_1449 : decode b_Law_law 1449 = .ok (.ireturn, 1) := by decide +kernel
theorem d_Law_law_1450 : decode b_Law_law 1450 = .ok (.goto 153, 3) := by decide +kernel
theorem d_Law_law_1453 : decode b_Law_law 1453 = .ok (.aload_n 1, 1) := by decide +kernel
theorem d_Law_law_1454 : decode b_Law_law 1454 = .ok (.aload_n 0, 1) := by decide +kernel
theorem d_Law_law_1455 : decode b_Law_law 1455 = .ok (.iload 4, 2) := by decide +kernel
theorem d_Law_law_1457 : decode b_Law_law 1457 = .ok (.iconst 1, 1) := by decide +kernel
theorem d_Law_law_1458 : decode b_Law_law 1458 = .ok (.iadd, 1) := by decide +kernel
theorem d_Law_law_1459 : decode b_Law_law 1459 = .ok (.iaload, 1) := by decide +kernel
theorem d_Law_law_1460 : decode b_Law_law 1460 = .ok (.aload_n 0, 1) := by decide +kernel
theorem d_Law_law_1461 : decode b_Law_law 1461 = .ok (.iload 4, 2) := by decide +kernel
theorem d_Law_law_1463 : decode b_Law_law 1463 = .ok (.iconst 2, 1) := by decide +kernel
theorem d_Law_law_1464 : decode b_Law_law 1464 = .ok (.iadd, 1) := by decide +kernel
theorem d_Law_law_1465 : decode b_Law_law 1465 = .ok (.iaload, 1) := by decide +kernel
theorem d_Law_law_1466 : decode b_Law_law 1466 = .ok (.aload_n 3, 1) := by decide +kernel
theorem d_Law_law_1467 : decode b_Law_law 1467 = .ok (.invokestatic 152, 3) := by decide +kernel
theorem d_Law_law_1470 : decode b_Law_law 1470 = .ok (.istore 5, 2) := by decide +kernel
theorem d_Law_law_1472 : decode b_Law_law 1472 = .ok (.aload_n 2, 1) := by decide +kernel
theorem d_Law_law_1473 : decode b_Law_law 1473 = .ok (.aload_n 0, 1) := by decide +kernel
theorem d_Law_law_1474 : decode b_Law_law 1474 = .ok (.iload 4, 2) := by decide +kernel
theorem d_Law_law_1476 : decode b_Law_law 1476 = .ok (.iconst 1, 1) := by decide +kernel
theorem d_Law_law_1477 : decode b_Law_law 1477 = .ok (.iadd, 1) := by decide +kernel
theorem d_Law_law_1478 : decode b_Law_law 1478 = .ok (.iaload, 1) := by decide +kernel
theorem d_Law_law_1479 : decode b_Law_law 1479 = .ok (.aload_n 0, 1) := by decide +kernel
theorem d_Law_law_1480 : decode b_Law_law 1480 = .ok (.iload 4, 2) := by decide +kernel
theorem d_Law_law_1482 : decode b_Law_law 1482 = .ok (.iconst 2, 1) := by decide +kernel
theorem d_Law_law_1483 : decode b_Law_law 1483 = .ok (.iadd, 1) := by decide +kernel
theorem d_Law_law_1484 : decode b_Law_law 1484 = .ok (.iaload, 1) := by decide +kernel
theorem d_Law_law_1485 : decode b_Law_law 1485 = .ok (.invokevirtual 154, 3) := by decide +kernel
theorem d_Law_law_1488 : decode b_Law_law 1488 = .ok (.istore 6, 2) := by decide +kernel
theorem d_Law_law_1490 : decode b_Law_law 1490 = .ok (.aload_n 2, 1) := by decide +kernel
theorem d_Law_law_1491 : decode b_Law_law 1491 = .ok (.invokevirtual 89, 3) := by decide +kernel
theorem d_Law_law_1494 : decode b_Law_law 1494 = .ok (.iload 5, 2) := by decide +kernel
theorem d_Law_law_1496 : decode b_Law_law 1496 = .ok (.if_icmp .eq 5, 3) := by decide +kernel
theorem d_Law_law_1499 : decode b_Law_law 1499 = .ok (.iconst 0, 1) := by decide +kernel
theorem d_Law_law_1500 : decode b_Law_law 1500 = .ok (.ireturn, 1) := by decide +kernel
theorem d_Law_law_1501 : decode b_Law_law 1501 = .ok (.iload 5, 2) := by decide +kernel
theorem d_Law_law_1503 : decode b_Law_law 1503 = .ok (.ifCond .ne 15, 3) := by decide +kernel
theorem d_Law_law_1506 : decode b_Law_law 1506 = .ok (.aload_n 3, 1) := by decide +kernel
theorem d_Law_law_1507 : decode b_Law_law 1507 = .ok (.iconst 0, 1) := by decide +kernel
theorem d_Law_law_1508 : decode b_Law_law 1508 = .ok (.laload, 1) := by decide +kernel
theorem d_Law_law_1509 : decode b_Law_law 1509 = .ok (.iload 6, 2) := by decide +kernel
theorem d_Law_law_1511 : decode b_Law_law 1511 = .ok (.i2l, 1) := by decide +kernel
theorem d_Law_law_1512 : decode b_Law_law 1512 = .ok (.lcmp, 1) := by decide +kernel
theorem d_Law_law_1513 : decode b_Law_law 1513 = .ok (.ifCond .eq 5, 3) := by decide +kernel
theorem d_Law_law_1516 : decode b_Law_law 1516 = .ok (.iconst 0, 1) := by decide +kernel
theorem d_Law_law_1517 : decode b_Law_law 1517 = .ok (.ireturn, 1) := by decide +kernel
theorem d_Law_law_1518 : decode b_Law_law 1518 = .ok (.goto 85, 3) := by decide +kernel
theorem d_Law_law_1521 : decode b_Law_law 1521 = .ok (.aload_n 1, 1) := by decide +kernel
theorem d_Law_law_1522 : decode b_Law_law 1522 = .ok (.aload_n 0, 1) := by decide +kernel
theorem d_Law_law_1523 : decode b_Law_law 1523 = .ok (.iload 4, 2) := by decide +kernel
theorem d_Law_law_1525 : decode b_Law_law 1525 = .ok (.iconst 1, 1) := by decide +kernel
theorem d_Law_law_1526 : decode b_Law_law 1526 = .ok (.iadd, 1) := by decide +kernel
theorem d_Law_law_1527 : decode b_Law_law 1527 = .ok (.iaload, 1) := by decide +kernel
theorem d_Law_law_1528 : decode b_Law_law 1528 = .ok (.aload_n 0, 1) := by decide +kernel
theorem d_Law_law_1529 : decode b_Law_law 1529 = .ok (.iload 4, 2) := by decide +kernel
theorem d_Law_law_1531 : decode b_Law_law 1531 = .ok (.iconst 2, 1) := by decide +kernel
theorem d_Law_law_1532 : decode b_Law_law 1532 = .ok (.iadd, 1) := by decide +kernel
theorem d_Law_law_1533 : decode b_Law_law 1533 = .ok (.iaload, 1) := by decide +kernel
theorem d_Law_law_1534 : decode b_Law_law 1534 = .ok (.aload_n 3, 1) := by decide +kernel
theorem d_Law_law_1535 : decode b_Law_law 1535 = .ok (.invokestatic 155, 3) := by decide +kernel
theorem d_Law_law_1538 : decode b_Law_law 1538 = .ok (.istore 5, 2) := by decide +kernel
theorem d_Law_law_1540 : decode b_Law_law 1540 = .ok (.aload_n 2, 1) := by decide +kernel
theorem d_Law_law_1541 : decode b_Law_law 1541 = .ok (.aload_n 0, 1) := by decide +kernel
theorem d_Law_law_1542 : decode b_Law_law 1542 = .ok (.iload 4, 2) := by decide +kernel
theorem d_Law_law_1544 : decode b_Law_law 1544 = .ok (.iconst 1, 1) := by decide +kernel
theorem d_Law_law_1545 : decode b_Law_law 1545 = .ok (.iadd, 1) := by decide +kernel
theorem d_Law_law_1546 : decode b_Law_law 1546 = .ok (.iaload, 1) := by decide +kernel
theorem d_Law_law_1547 : decode b_Law_law 1547 = .ok (.aload_n 0, 1) := by decide +kernel
theorem d_Law_law_1548 : decode b_Law_law 1548 = .ok (.iload 4, 2) := by decide +kernel
theorem d_Law_law_1550 : decode b_Law_law 1550 = .ok (.iconst 2, 1) := by decide +kernel
theorem d_Law_law_1551 : decode b_Law_law 1551 = .ok (.iadd, 1) := by decide +kernel
theorem d_Law_law_1552 : decode b_Law_law 1552 = .ok (.iaload, 1) := by decide +kernel
theorem d_Law_law_1553 : decode b_Law_law 1553 = .ok (.invokevirtual 157, 3) := by decide +kernel
theorem d_Law_law_1556 : decode b_Law_law 1556 = .ok (.istore 6, 2) := by decide +kernel
theorem d_Law_law_1558 : decode b_Law_law 1558 = .ok (.aload_n 2, 1) := by decide +kernel
theorem d_Law_law_1559 : decode b_Law_law 1559 = .ok (.invokevirtual 89, 3) := by decide +kernel
theorem d_Law_law_1562 : decode b_Law_law 1562 = .ok (.iload 5, 2) := by decide +kernel
theorem d_Law_law_1564 : decode b_Law_law 1564 = .ok (.if_icmp .eq 5, 3) := by decide +kernel
theorem d_Law_law_1567 : decode b_Law_law 1567 = .ok (.iconst 0, 1) := by decide +kernel
theorem d_Law_law_1568 : decode b_Law_law 1568 = .ok (.ireturn, 1) := by decide +kernel
theorem d_Law_law_1569 : decode b_Law_law 1569 = .ok (.iload 5, 2) := by decide +kernel
theorem d_Law_law_1571 : decode b_Law_law 1571 = .ok (.ifCond .ne 15, 3) := by decide +kernel
theorem d_Law_law_1574 : decode b_Law_law 1574 = .ok (.aload_n 3, 1) := by decide +kernel
theorem d_Law_law_1575 : decode b_Law_law 1575 = .ok (.iconst 0, 1) := by decide +kernel
theorem d_Law_law_1576 : decode b_Law_law 1576 = .ok (.laload, 1) := by decide +kernel
theorem d_Law_law_1577 : decode b_Law_law 1577 = .ok (.iload 6, 2) := by decide +kernel
theorem d_Law_law_1579 : decode b_Law_law 1579 = .ok (.i2l, 1) := by decide +kernel
theorem d_Law_law_1580 : decode b_Law_law 1580 = .ok (.lcmp, 1) := by decide +kernel
theorem d_Law_law_1581 : decode b_Law_law 1581 = .ok (.ifCond .eq 5, 3) := by decide +kernel
theorem d_Law_law_1584 : decode b_Law_law 1584 = .ok (.iconst 0, 1) := by decide +kernel
theorem d_Law_law_1585 : decode b_Law_law 1585 = .ok (.ireturn, 1) := by decide +kernel
theorem d_Law_law_1586 : decode b_Law_law 1586 = .ok (.goto 17, 3) := by decide +kernel
theorem d_Law_law_1589 : decode b_Law_law 1589 = .ok (.aload_n 1, 1) := by decide +kernel
theorem d_Law_law_1590 : decode b_Law_law 1590 = .ok (.invokevirtual 158, 3) := by decide +kernel
theorem d_Law_law_1593 : decode b_Law_law 1593 = .ok (.aload_n 2, 1) := by decide +kernel
theorem d_Law_law_1594 : decode b_Law_law 1594 = .ok (.invokevirtual 162, 3) := by decide +kernel
theorem d_Law_law_1597 : decode b_Law_law 1597 = .ok (.lcmp, 1) := by decide +kernel
theorem d_Law_law_1598 : decode b_Law_law 1598 = .ok (.ifCond .eq 5, 3) := by decide +kernel
theorem d_Law_law_1601 : decode b_Law_law 1601 = .ok (.iconst 0, 1) := by decide +kernel
theorem d_Law_law_1602 : decode b_Law_law 1602 = .ok (.ireturn, 1) := by decide +kernel
theorem d_Law_law_1603 : decode b_Law_law 1603 = .ok (.iinc 4 8, 3) := by decide +kernel
theorem d_Law_law_1606 : decode b_Law_law 1606 = .ok (.goto (-1583), 3) := by decide +kernel
theorem d_Law_law_1609 : decode b_Law_law 1609 = .ok (.iconst 1, 1) := by decide +kernel
theorem d_Law_law_1610 : decode b_Law_law 1610 = .ok (.ireturn, 1) := by decide +kernel
