theorem dX8_itemOf_48 : decode cX8_itemOf 48 = .ok (.aload_n 3, 1) := by decide +kernel
theorem dX8_itemOf_49 : decode cX8_itemOf 49 = .ok (.getfield 207, 3) := by decide +kernel
theorem dX8_itemOf_52 : decode cX8_itemOf 52 = .ok (.getfield 150, 3) := by decide +kernel
theorem dX8_itemOf_55 : decode cX8_itemOf 55 = .ok (.ireturn, 1) := by decide +kernel
theorem dX8_itemOf_56 : decode cX8_itemOf 56 = .ok (.aload_n 3, 1) := by decide +kernel
theorem dX8_itemOf_57 : decode cX8_itemOf 57 = .ok (.getfield 305, 3) := by decide +kernel
theorem dX8_itemOf_60 : decode cX8_itemOf 60 = .ok (.getfield 309, 3) := by decide +kernel
theorem dX8_itemOf_63 : decode cX8_itemOf 63 = .ok (.ireturn, 1) := by decide +kernel
theorem dX8_itemOf_64 : decode cX8_itemOf 64 = .ok (.aload_n 3, 1) := by decide +kernel
theorem dX8_itemOf_65 : decode cX8_itemOf 65 = .ok (.getfield 204, 3) := by decide +kernel
theorem dX8_itemOf_68 : decode cX8_itemOf 68 = .ok (.ireturn, 1) := by decide +kernel
theorem dX8_itemOf_69 : decode cX8_itemOf 69 = .ok (.aload_n 3, 1) := by decide +kernel
theorem dX8_itemOf_70 : decode cX8_itemOf 70 = .ok (.getfield 210, 3) := by decide +kernel
theorem dX8_itemOf_73 : decode cX8_itemOf 73 = .ok (.getfield 214, 3) := by decide +kernel
theorem dX8_itemOf_76 : decode cX8_itemOf 76 = .ok (.invokevirtual 59, 3) := by decide +kernel
theorem dX8_itemOf_79 : decode cX8_itemOf 79 = .ok (.ireturn, 1) := by decide +kernel
theorem dX8_itemOf_80 : decode cX8_itemOf 80 = .ok (.aload_n 3, 1) := by decide +kernel
theorem dX8_itemOf_81 : decode cX8_itemOf 81 = .ok (.getfield 210, 3) := by decide +kernel
theorem dX8_itemOf_84 : decode cX8_itemOf 84 = .ok (.invokevirtual 310, 3) := by decide +kernel
theorem dX8_itemOf_87 : decode cX8_itemOf 87 = .ok (.invokestatic 167, 3) := by decide +kernel
theorem dX8_itemOf_90 : decode cX8_itemOf 90 = .ok (.ireturn, 1) := by decide +kernel
theorem dX8_itemOf_91 : decode cX8_itemOf 91 = .ok (.bipush (-9), 2) := by decide +kernel
theorem dX8_itemOf_93 : decode cX8_itemOf 93 = .ok (.ireturn, 1) := by decide +kernel
theorem dX8_status_0 : decode cX8_status 0 = .ok (.iload_n 1, 1) := by decide +kernel
theorem dX8_status_1 : decode cX8_status 1 = .ok (.bipush 10, 2) := by decide +kernel
theorem dX8_status_3 : decode cX8_status 3 = .ok (.isub, 1) := by decide +kernel
theorem dX8_status_4 : decode cX8_status 4 = .ok (.istore_n 2, 1) := by decide +kernel
theorem dX8_status_5 : decode cX8_status 5 = .ok (.iload_n 2, 1) := by decide +kernel
theorem dX8_status_6 : decode cX8_status 6 = .ok (.iconst 1, 1) := by decide +kernel
theorem dX8_status_7 : decode cX8_status 7 = .ok (.bipush 9, 2) := by decide +kernel
theorem dX8_status_9 : decode cX8_status 9 = .ok (.invokestatic 51, 3) := by decide +kernel
theorem dX8_status_12 : decode cX8_status 12 = .ok (.ifCond .eq 10, 3) := by decide +kernel
theorem dX8_status_15 : decode cX8_status 15 = .ok (.aload_n 0, 1) := by decide +kernel
theorem dX8_status_16 : decode cX8_status 16 = .ok (.getfield 31, 3) := by decide +kernel
theorem dX8_status_19 : decode cX8_status 19 = .ok (.iload_n 2, 1) := by decide +kernel
theorem dX8_status_20 : decode cX8_status 20 = .ok (.iaload, 1) := by decide +kernel
theorem dX8_status_21 : decode cX8_status 21 = .ok (.ireturn, 1) := by decide +kernel
theorem dX8_status_22 : decode cX8_status 22 = .ok (.iload_n 1, 1) := by decide +kernel
theorem dX8_status_23 : decode cX8_status 23 = .ok (.tableswitch 86 0 6 #[41, 46, 54, 62, 67, 73, 78], 41) := by decide +kernel
theorem dX8_status_64 : decode cX8_status 64 = .ok (.aload_n 0, 1) := by decide +kernel
theorem dX8_status_65 : decode cX8_status 65 = .ok (.getfield 35, 3) := by decide +kernel
theorem dX8_status_68 : decode cX8_status 68 = .ok (.ireturn, 1) := by decide +kernel
theorem dX8_status_69 : decode cX8_status 69 = .ok (.aload_n 0, 1) := by decide +kernel
theorem dX8_status_70 : decode cX8_status 70 = .ok (.getfield 10, 3) := by decide +kernel
theorem dX8_status_73 : decode cX8_status 73 = .ok (.invokevirtual 59, 3) := by decide +kernel
theorem dX8_status_76 : decode cX8_status 76 = .ok (.ireturn, 1) := by decide +kernel
theorem dX8_status_77 : decode cX8_status 77 = .ok (.aload_n 0, 1) := by decide +kernel
theorem dX8_status_78 : decode cX8_status 78 = .ok (.getfield 16, 3) := by decide +kernel
theorem dX8_status_81 : decode cX8_status 81 = .ok (.invokevirtual 59, 3) := by decide +kernel
theorem dX8_status_84 : decode cX8_status 84 = .ok (.ireturn, 1) := by decide +kernel
theorem dX8_status_85 : decode cX8_status 85 = .ok (.aload_n 0, 1) := by decide +kernel
theorem dX8_status_86 : decode cX8_status 86 = .ok (.invokevirtual 313, 3) := by decide +kernel
theorem dX8_status_89 : decode cX8_status 89 = .ok (.ireturn, 1) := by decide +kernel
theorem dX8_status_90 : decode cX8_status 90 = .ok (.aload_n 0, 1) := by decide +kernel
theorem dX8_status_91 : decode cX8_status 91 = .ok (.aconst_null, 1) := by decide +kernel
theorem dX8_status_92 : decode cX8_status 92 = .ok (.invokevirtual 221, 3) := by decide +kernel
theorem dX8_status_95 : decode cX8_status 95 = .ok (.ireturn, 1) := by decide +kernel
theorem dX8_status_96 : decode cX8_status 96 = .ok (.aload_n 0, 1) := by decide +kernel
theorem dX8_status_97 : decode cX8_status 97 = .ok (.invokevirtual 316, 3) := by decide +kernel
theorem dX8_status_100 : decode cX8_status 100 = .ok (.ireturn, 1) := by decide +kernel
theorem dX8_status_101 : decode cX8_status 101 = .ok (.aload_n 0, 1) := by decide +kernel
theorem dX8_status_102 : decode cX8_status 102 = .ok (.getfield 28, 3) := by decide +kernel
theorem dX8_status_105 : decode cX8_status 105 = .ok (.invokevirtual 59, 3) := by decide +kernel
theorem dX8_status_108 : decode cX8_status 108 = .ok (.ireturn, 1) := by decide +kernel
theorem dX8_status_109 : decode cX8_status 109 = .ok (.bipush (-9), 2) := by decide +kernel
theorem dX8_status_111 : decode cX8_status 111 = .ok (.ireturn, 1) := by decide +kernel
theorem dX8_isWithin_0 : decode cX8_isWithin 0 = .ok (.iload_n 0, 1) := by decide +kernel
theorem dX8_isWithin_1 : decode cX8_isWithin 1 = .ok (.iload_n 1, 1) := by decide +kernel
theorem dX8_isWithin_2 : decode cX8_isWithin 2 = .ok (.if_icmp .lt 12, 3) := by decide +kernel
theorem dX8_isWithin_5 : decode cX8_isWithin 5 = .ok (.iload_n 0, 1) := by decide +kernel
theorem dX8_isWithin_6 : decode cX8_isWithin 6 = .ok (.iload_n 2, 1) := by decide +kernel
theorem dX8_isWithin_7 : decode cX8_isWithin 7 = .ok (.if_icmp .gt 7, 3) := by decide +kernel
theorem dX8_isWithin_10 : decode cX8_isWithin 10 = .ok (.iconst 1, 1) := by decide +kernel
theorem dX8_isWithin_11 : decode cX8_isWithin 11 = .ok (.goto 4, 3) := by decide +kernel
theorem dX8_isWithin_14 : decode cX8_isWithin 14 = .ok (.iconst 0, 1) := by decide +kernel
theorem dX8_isWithin_15 : decode cX8_isWithin 15 = .ok (.ireturn, 1) := by decide +kernel
theorem dX8_isMultiple_0 : decode cX8_isMultiple 0 = .ok (.iload_n 1, 1) := by decide +kernel
theorem dX8_isMultiple_1 : decode cX8_isMultiple 1 = .ok (.ifCond .le 13, 3) := by decide +kernel
theorem dX8_isMultiple_4 : decode cX8_isMultiple 4 = .ok (.iload_n 0, 1) := by decide +kernel
theorem dX8_isMultiple_5 : decode cX8_isMultiple 5 = .ok (.iload_n 1, 1) := by decide +kernel
theorem dX8_isMultiple_6 : decode cX8_isMultiple 6 = .ok (.irem, 1) := by decide +kernel
theorem dX8_isMultiple_7 : decode cX8_isMultiple 7 = .ok (.ifCond .ne 7, 3) := by decide +kernel
theorem dX8_isMultiple_10 : decode cX8_isMultiple 10 = .ok (.iconst 1, 1) := by decide +kernel
theorem dX8_isMultiple_11 : decode cX8_isMultiple 11 = .ok (.goto 4, 3) := by decide +kernel
theorem dX8_isMultiple_14 : decode cX8_isMultiple 14 = .ok (.iconst 0, 1) := by decide +kernel
theorem dX8_isMultiple_15 : decode cX8_isMultiple 15 = .ok (.ireturn, 1) := by decide +kernel
theorem dX8_asNumber_0 : decode cX8_asNumber 0 = .ok (.iload_n 0, 1) := by decide +kernel
theorem dX8_asNumber_1 : decode cX8_asNumber 1 = .ok (.ifCond .eq 7, 3) := by decide +kernel
theorem dX8_asNumber_4 : decode cX8_asNumber 4 = .ok (.iconst 1, 1) := by decide +kernel
theorem dX8_asNumber_5 : decode cX8_asNumber 5 = .ok (.goto 4, 3) := by decide +kernel
theorem dX8_asNumber_8 : decode cX8_asNumber 8 = .ok (.iconst 0, 1) := by decide +kernel
theorem dX8_asNumber_9 : decode cX8_asNumber 9 = .ok (.ireturn, 1) := by decide +kernel
theorem dX8_refuse_0 : decode cX8_refuse 0 = .ok (.iload_n 1, 1) := by decide +kernel
theorem dX8_refuse_1 : decode cX8_refuse 1 = .ok (.ineg, 1) := by decide +kernel
theorem dX8_refuse_2 : decode cX8_refuse 2 = .ok (.istore_n 2, 1) := by decide +kernel
theorem dX8_refuse_3 : decode cX8_refuse 3 = .ok (.iload_n 2, 1) := by decide +kernel
theorem dX8_refuse_4 : decode cX8_refuse 4 = .ok (.iconst 1, 1) := by decide +kernel
theorem dX8_refuse_5 : decode cX8_refuse 5 = .ok (.bipush 9, 2) := by decide +kernel
theorem dX8_refuse_7 : decode cX8_refuse 7 = .ok (.invokestatic 51, 3) := by decide +kernel
theorem dX8_refuse_10 : decode cX8_refuse 10 = .ok (.ifCond .eq 13, 3) := by decide +kernel
theorem dX8_refuse_13 : decode cX8_refuse 13 = .ok (.aload_n 0, 1) := by decide +kernel
theorem dX8_refuse_14 : decode cX8_refuse 14 = .ok (.getfield 31, 3) := by decide +kernel
theorem dX8_refuse_17 : decode cX8_refuse 17 = .ok (.iload_n 2, 1) := by decide +kernel
theorem dX8_refuse_18 : decode cX8_refuse 18 = .ok (.dup2, 1) := by decide +kernel
theorem dX8_refuse_19 : decode cX8_refuse 19 = .ok (.iaload, 1) := by decide +kernel
theorem dX8_refuse_20 : decode cX8_refuse 20 = .ok (.iconst 1, 1) := by decide +kernel
theorem dX8_refuse_21 : decode cX8_refuse 21 = .ok (.iadd, 1) := by decide +kernel
theorem dX8_refuse_22 : decode cX8_refuse 22 = .ok (.iastore, 1) := by decide +kernel
theorem dX8_refuse_23 : decode cX8_refuse 23 = .ok (.iload_n 1, 1) := by decide +kernel
theorem dX8_refuse_24 : decode cX8_refuse 24 = .ok (.ireturn, 1) := by decide +kernel
theorem dX8_refuseSession_0 : decode cX8_refuseSession 0 = .ok (.aload_n 0, 1) := by decide +kernel
theorem dX8_refuseSession_1 : decode cX8_refuseSession 1 = .ok (.iload_n 1, 1) := by decide +kernel
theorem dX8_refuseSession_2 : decode cX8_refuseSession 2 = .ok (.invokevirtual 98, 3) := by decide +kernel
theorem dX8_refuseSession_5 : decode cX8_refuseSession 5 = .ok (.astore_n 2, 1) := by decide +kernel
theorem dX8_refuseSession_6 : decode cX8_refuseSession 6 = .ok (.aload_n 2, 1) := by decide +kernel
theorem dX8_refuseSession_7 : decode cX8_refuseSession 7 = .ok (.ifnonnull 9, 3) := by decide +kernel
theorem dX8_refuseSession_10 : decode cX8_refuseSession 10 = .ok (.aload_n 0, 1) := by decide +kernel
theorem dX8_refuseSession_11 : decode cX8_refuseSession 11 = .ok (.iconst (-1), 1) := by decide +kernel
theorem dX8_refuseSession_12 : decode cX8_refuseSession 12 = .ok (.invokevirtual 55, 3) := by decide +kernel
theorem dX8_refuseSession_15 : decode cX8_refuseSession 15 = .ok (.ireturn, 1) := by decide +kernel
theorem dX8_refuseSession_16 : decode cX8_refuseSession 16 = .ok (.aload_n 0, 1) := by decide +kernel
theorem dX8_refuseSession_17 : decode cX8_refuseSession 17 = .ok (.aload_n 2, 1) := by decide +kernel
theorem dX8_refuseSession_18 : decode cX8_refuseSession 18 = .ok (.getfield 102, 3) := by decide +kernel
theorem dX8_refuseSession_21 : decode cX8_refuseSession 21 = .ok (.iconst 2, 1) := by decide +kernel
theorem dX8_refuseSession_22 : decode cX8_refuseSession 22 = .ok (.if_icmp .ne 8, 3) := by decide +kernel
theorem dX8_refuseSession_25 : decode cX8_refuseSession 25 = .ok (.bipush (-2), 2) := by decide +kernel
theorem dX8_refuseSession_27 : decode cX8_refuseSession 27 = .ok (.goto 5, 3) := by decide +kernel
theorem dX8_refuseSession_30 : decode cX8_refuseSession 30 = .ok (.bipush (-3), 2) := by decide +kernel
theorem dX8_refuseSession_32 : decode cX8_refuseSession 32 = .ok (.invokevirtual 55, 3) := by decide +kernel
theorem dX8_refuseSession_35 : decode cX8_refuseSession 35 = .ok (.ireturn, 1) := by decide +kernel
theorem dX8_enter_0 : decode cX8_enter 0 = .ok (.aload_n 0, 1) := by decide +kernel
theorem dX8_enter_1 : decode cX8_enter 1 = .ok (.iload_n 1, 1) := by decide +kernel
theorem dX8_enter_2 : decode cX8_enter 2 = .ok (.invokevirtual 98, 3) := by decide +kernel
theorem dX8_enter_5 : decode cX8_enter 5 = .ok (.astore_n 2, 1) := by decide +kernel
theorem dX8_enter_6 : decode cX8_enter 6 = .ok (.aload_n 2, 1) := by decide +kernel
theorem dX8_enter_7 : decode cX8_enter 7 = .ok (.ifnull 11, 3) := by decide +kernel
theorem dX8_enter_10 : decode cX8_enter 10 = .ok (.aload_n 2, 1) := by decide +kernel
theorem dX8_enter_11 : decode cX8_enter 11 = .ok (.getfield 102, 3) := by decide +kernel
theorem dX8_enter_14 : decode cX8_enter 14 = .ok (.iconst 1, 1) := by decide +kernel
theorem dX8_enter_15 : decode cX8_enter 15 = .ok (.if_icmp .eq 5, 3) := by decide +kernel
theorem dX8_enter_18 : decode cX8_enter 18 = .ok (.aconst_null, 1) := by decide +kernel
theorem dX8_enter_19 : decode cX8_enter 19 = .ok (.areturn, 1) := by decide +kernel
theorem dX8_enter_20 : decode cX8_enter 20 = .ok (.aload_n 2, 1) := by decide +kernel
theorem dX8_enter_21 : decode cX8_enter 21 = .ok (.aload_n 0, 1) := by decide +kernel
theorem dX8_enter_22 : decode cX8_enter 22 = .ok (.getfield 35, 3) := by decide +kernel
theorem dX8_enter_25 : decode cX8_enter 25 = .ok (.invokevirtual 108, 3) := by decide +kernel
theorem dX8_enter_28 : decode cX8_enter 28 = .ok (.aload_n 2, 1) := by decide +kernel
theorem dX8_enter_29 : decode cX8_enter 29 = .ok (.areturn, 1) := by decide +kernel
theorem dX8_nodeAt_0 : decode cX8_nodeAt 0 = .ok (.iload_n 1, 1) := by decide +kernel
theorem dX8_nodeAt_1 : decode cX8_nodeAt 1 = .ok (.ifCond .lt 28, 3) := by decide +kernel
theorem dX8_nodeAt_4 : decode cX8_nodeAt 4 = .ok (.iload_n 1, 1) := by decide +kernel
theorem dX8_nodeAt_5 : decode cX8_nodeAt 5 = .ok (.aload_n 0, 1) := by decide +kernel
theorem dX8_nodeAt_6 : decode cX8_nodeAt 6 = .ok (.getfield 10, 3) := by decide +kernel
theorem dX8_nodeAt_9 : decode cX8_nodeAt 9 = .ok (.invokevirtual 59, 3) := by decide +kernel
theorem dX8_nodeAt_12 : decode cX8_nodeAt 12 = .ok (.if_icmp .ge 17, 3) := by decide +kernel
theorem dX8_nodeAt_15 : decode cX8_nodeAt 15 = .ok (.aload_n 0, 1) := by decide +kernel
theorem dX8_nodeAt_16 : decode cX8_nodeAt 16 = .ok (.getfield 10, 3) := by decide +kernel
theorem dX8_nodeAt_19 : decode cX8_nodeAt 19 = .ok (.iload_n 1, 1) := by decide +kernel
theorem dX8_nodeAt_20 : decode cX8_nodeAt 20 = .ok (.invokevirtual 119, 3) := by decide +kernel
theorem dX8_nodeAt_23 : decode cX8_nodeAt 23 = .ok (.checkcast 49, 3) := by decide +kernel
theorem dX8_nodeAt_26 : decode cX8_nodeAt 26 = .ok (.goto 4, 3) := by decide +kernel
theorem dX8_nodeAt_29 : decode cX8_nodeAt 29 = .ok (.aconst_null, 1) := by decide +kernel
theorem dX8_nodeAt_30 : decode cX8_nodeAt 30 = .ok (.areturn, 1) := by decide +kernel
theorem dX8_variableAt_0 : decode cX8_variableAt 0 = .ok (.aload_n 0, 1) := by decide +kernel
theorem dX8_variableAt_1 : decode cX8_variableAt 1 = .ok (.iload_n 1, 1) := by decide +kernel
theorem dX8_variableAt_2 : decode cX8_variableAt 2 = .ok (.invokevirtual 70, 3) := by decide +kernel
theorem dX8_variableAt_5 : decode cX8_variableAt 5 = .ok (.astore_n 2, 1) := by decide +kernel
theorem dX8_variableAt_6 : decode cX8_variableAt 6 = .ok (.aload_n 2, 1) := by decide +kernel
theorem dX8_variableAt_7 : decode cX8_variableAt 7 = .ok (.ifnull 10, 3) := by decide +kernel
theorem dX8_variableAt_10 : decode cX8_variableAt 10 = .ok (.aload_n 2, 1) := by decide +kernel
theorem dX8_variableAt_11 : decode cX8_variableAt 11 = .ok (.getfield 134, 3) := by decide +kernel
theorem dX8_variableAt_14 : decode cX8_variableAt 14 = .ok (.ifCond .ne 7, 3) := by decide +kernel
theorem dX8_variableAt_17 : decode cX8_variableAt 17 = .ok (.aconst_null, 1) := by decide +kernel
theorem dX8_variableAt_18 : decode cX8_variableAt 18 = .ok (.goto 4, 3) := by decide +kernel
theorem dX8_variableAt_21 : decode cX8_variableAt 21 = .ok (.aload_n 2, 1) := by decide +kernel
theorem dX8_variableAt_22 : decode cX8_variableAt 22 = .ok (.areturn, 1) := by decide +kernel
theorem dX8_sessionAt_0 : decode cX8_sessionAt 0 = .ok (.iload_n 1, 1) := by decide +kernel
theorem dX8_sessionAt_1 : decode cX8_sessionAt 1 = .ok (.ifCond .lt 28, 3) := by decide +kernel
theorem dX8_sessionAt_4 : decode cX8_sessionAt 4 = .ok (.iload_n 1, 1) := by decide +kernel
theorem dX8_sessionAt_5 : decode cX8_sessionAt 5 = .ok (.aload_n 0, 1) := by decide +kernel
theorem dX8_sessionAt_6 : decode cX8_sessionAt 6 = .ok (.getfield 19, 3) := by decide +kernel
theorem dX8_sessionAt_9 : decode cX8_sessionAt 9 = .ok (.invokevirtual 59, 3) := by decide +kernel
theorem dX8_sessionAt_12 : decode cX8_sessionAt 12 = .ok (.if_icmp .ge 17, 3) := by decide +kernel
theorem dX8_sessionAt_15 : decode cX8_sessionAt 15 = .ok (.aload_n 0, 1) := by decide +kernel
theorem dX8_sessionAt_16 : decode cX8_sessionAt 16 = .ok (.getfield 19, 3) := by decide +kernel
theorem dX8_sessionAt_19 : decode cX8_sessionAt 19 = .ok (.iload_n 1, 1) := by decide +kernel
theorem dX8_sessionAt_20 : decode cX8_sessionAt 20 = .ok (.invokevirtual 119, 3) := by decide +kernel
theorem dX8_sessionAt_23 : decode cX8_sessionAt 23 = .ok (.checkcast 95, 3) := by decide +kernel
theorem dX8_sessionAt_26 : decode cX8_sessionAt 26 = .ok (.goto 4, 3) := by decide +kernel
theorem dX8_sessionAt_29 : decode cX8_sessionAt 29 = .ok (.aconst_null, 1) := by decide +kernel
theorem dX8_sessionAt_30 : decode cX8_sessionAt 30 = .ok (.areturn, 1) := by decide +kernel
theorem dX8_messageAt_0 : decode cX8_messageAt 0 = .ok (.iload_n 1, 1) := by decide +kernel
theorem dX8_messageAt_1 : decode cX8_messageAt 1 = .ok (.ifCond .lt 28, 3) := by decide +kernel
theorem dX8_messageAt_4 : decode cX8_messageAt 4 = .ok (.iload_n 1, 1) := by decide +kernel
theorem dX8_messageAt_5 : decode cX8_messageAt 5 = .ok (.aload_n 0, 1) := by decide +kernel
theorem dX8_messageAt_6 : decode cX8_messageAt 6 = .ok (.getfield 28, 3) := by decide +kernel
theorem dX8_messageAt_9 : decode cX8_messageAt 9 = .ok (.invokevirtual 59, 3) := by decide +kernel
theorem dX8_messageAt_12 : decode cX8_messageAt 12 = .ok (.if_icmp .ge 17, 3) := by decide +kernel
theorem dX8_messageAt_15 : decode cX8_messageAt 15 = .ok (.aload_n 0, 1) := by decide +kernel
theorem dX8_messageAt_16 : decode cX8_messageAt 16 = .ok (.getfield 28, 3) := by decide +kernel
theorem dX8_messageAt_19 : decode cX8_messageAt 19 = .ok (.iload_n 1, 1) := by decide +kernel
theorem dX8_messageAt_20 : decode cX8_messageAt 20 = .ok (.invokevirtual 119, 3) := by decide +kernel
theorem dX8_messageAt_23 : decode cX8_messageAt 23 = .ok (.checkcast 250, 3) := by decide +kernel
theorem dX8_messageAt_26 : decode cX8_messageAt 26 = .ok (.goto 4, 3) := by decide +kernel
theorem dX8_messageAt_29 : decode cX8_messageAt 29 = .ok (.aconst_null, 1) := by decide +kernel
theorem dX8_messageAt_30 : decode cX8_messageAt 30 = .ok (.areturn, 1) := by decide +kernel
theorem dX8_subscriptionAt_0 : decode cX8_subscriptionAt 0 = .ok (.iload_n 1, 1) := by decide +kernel
theorem dX8_subscriptionAt_1 : decode cX8_subscriptionAt 1 = .ok (.ifCond .lt 14, 3) := by decide +kernel
theorem dX8_subscriptionAt_4 : decode cX8_subscriptionAt 4 = .ok (.iload_n 1, 1) := by decide +kernel
theorem dX8_subscriptionAt_5 : decode cX8_subscriptionAt 5 = .ok (.aload_n 0, 1) := by decide +kernel
theorem dX8_subscriptionAt_6 : decode cX8_subscriptionAt 6 = .ok (.getfield 22, 3) := by decide +kernel
theorem dX8_subscriptionAt_9 : decode cX8_subscriptionAt 9 = .ok (.invokevirtual 59, 3) := by decide +kernel
theorem dX8_subscriptionAt_12 : decode cX8_subscriptionAt 12 = .ok (.if_icmp .lt 5, 3) := by decide +kernel
theorem dX8_subscriptionAt_15 : decode cX8_subscriptionAt 15 = .ok (.aconst_null, 1) := by decide +kernel
theorem dX8_subscriptionAt_16 : decode cX8_subscriptionAt 16 = .ok (.areturn, 1) := by decide +kernel
theorem dX8_subscriptionAt_17 : decode cX8_subscriptionAt 17 = .ok (.aload_n 0, 1) := by decide +kernel
theorem dX8_subscriptionAt_18 : decode cX8_subscriptionAt 18 = .ok (.getfield 22, 3) := by decide +kernel
theorem dX8_subscriptionAt_21 : decode cX8_subscriptionAt 21 = .ok (.iload_n 1, 1) := by decide +kernel
theorem dX8_subscriptionAt_22 : decode cX8_subscriptionAt 22 = .ok (.invokevirtual 119, 3) := by decide +kernel
theorem dX8_subscriptionAt_25 : decode cX8_subscriptionAt 25 = .ok (.checkcast 138, 3) := by decide +kernel
theorem dX8_subscriptionAt_28 : decode cX8_subscriptionAt 28 = .ok (.astore_n 2, 1) := by decide +kernel
theorem dX8_subscriptionAt_29 : decode cX8_subscriptionAt 29 = .ok (.aload_n 2, 1) := by decide +kernel
theorem dX8_subscriptionAt_30 : decode cX8_subscriptionAt 30 = .ok (.getfield 319, 3) := by decide +kernel
theorem dX8_subscriptionAt_33 : decode cX8_subscriptionAt 33 = .ok (.ifCond .eq 7, 3) := by decide +kernel
theorem dX8_subscriptionAt_36 : decode cX8_subscriptionAt 36 = .ok (.aconst_null, 1) := by decide +kernel
theorem dX8_subscriptionAt_37 : decode cX8_subscriptionAt 37 = .ok (.goto 4, 3) := by decide +kernel
theorem dX8_subscriptionAt_40 : decode cX8_subscriptionAt 40 = .ok (.aload_n 2, 1) := by decide +kernel
theorem dX8_subscriptionAt_41 : decode cX8_subscriptionAt 41 = .ok (.areturn, 1) := by decide +kernel
theorem dX8_subscriptionOf_0 : decode cX8_subscriptionOf 0 = .ok (.aload_n 0, 1) := by decide +kernel
theorem dX8_subscriptionOf_1 : decode cX8_subscriptionOf 1 = .ok (.iload_n 2, 1) := by decide +kernel
theorem dX8_subscriptionOf_2 : decode cX8_subscriptionOf 2 = .ok (.invokevirtual 171, 3) := by decide +kernel
theorem dX8_subscriptionOf_5 : decode cX8_subscriptionOf 5 = .ok (.astore_n 3, 1) := by decide +kernel
theorem dX8_subscriptionOf_6 : decode cX8_subscriptionOf 6 = .ok (.aload_n 3, 1) := by decide +kernel
theorem dX8_subscriptionOf_7 : decode cX8_subscriptionOf 7 = .ok (.ifnull 11, 3) := by decide +kernel
theorem dX8_subscriptionOf_10 : decode cX8_subscriptionOf 10 = .ok (.aload_n 3, 1) := by decide +kernel
theorem dX8_subscriptionOf_11 : decode cX8_subscriptionOf 11 = .ok (.getfield 175, 3) := by decide +kernel
theorem dX8_subscriptionOf_14 : decode cX8_subscriptionOf 14 = .ok (.aload_n 1, 1) := by decide +kernel
theorem dX8_subscriptionOf_15 : decode cX8_subscriptionOf 15 = .ok (.if_acmp .eq 7, 3) := by decide +kernel
theorem dX8_subscriptionOf_18 : decode cX8_subscriptionOf 18 = .ok (.aconst_null, 1) := by decide +kernel
theorem dX8_subscriptionOf_19 : decode cX8_subscriptionOf 19 = .ok (.goto 4, 3) := by decide +kernel
theorem dX8_subscriptionOf_22 : decode cX8_subscriptionOf 22 = .ok (.aload_n 3, 1) := by decide +kernel
theorem dX8_subscriptionOf_23 : decode cX8_subscriptionOf 23 = .ok (.areturn, 1) := by decide +kernel
theorem dX8_itemAt_0 : decode cX8_itemAt 0 = .ok (.iload_n 1, 1) := by decide +kernel
theorem dX8_itemAt_1 : decode cX8_itemAt 1 = .ok (.ifCond .lt 14, 3) := by decide +kernel
theorem dX8_itemAt_4 : decode cX8_itemAt 4 = .ok (.iload_n 1, 1) := by decide +kernel
theorem dX8_itemAt_5 : decode cX8_itemAt 5 = .ok (.aload_n 0, 1) := by decide +kernel
theorem dX8_itemAt_6 : decode cX8_itemAt 6 = .ok (.getfield 25, 3) := by decide +kernel
theorem dX8_itemAt_9 : decode cX8_itemAt 9 = .ok (.invokevirtual 59, 3) := by decide +kernel
theorem dX8_itemAt_12 : decode cX8_itemAt 12 = .ok (.if_icmp .lt 5, 3) := by decide +kernel
theorem dX8_itemAt_15 : decode cX8_itemAt 15 = .ok (.aconst_null, 1) := by decide +kernel
theorem dX8_itemAt_16 : decode cX8_itemAt 16 = .ok (.areturn, 1) := by decide +kernel
theorem dX8_itemAt_17 : decode cX8_itemAt 17 = .ok (.aload_n 0, 1) := by decide +kernel
theorem dX8_itemAt_18 : decode cX8_itemAt 18 = .ok (.getfield 25, 3) := by decide +kernel
theorem dX8_itemAt_21 : decode cX8_itemAt 21 = .ok (.iload_n 1, 1) := by decide +kernel
theorem dX8_itemAt_22 : decode cX8_itemAt 22 = .ok (.invokevirtual 119, 3) := by decide +kernel
theorem dX8_itemAt_25 : decode cX8_itemAt 25 = .ok (.checkcast 183, 3) := by decide +kernel
theorem dX8_itemAt_28 : decode cX8_itemAt 28 = .ok (.astore_n 2, 1) := by decide +kernel
theorem dX8_itemAt_29 : decode cX8_itemAt 29 = .ok (.aload_n 2, 1) := by decide +kernel
theorem dX8_itemAt_30 : decode cX8_itemAt 30 = .ok (.getfield 322, 3) := by decide +kernel
theorem dX8_itemAt_33 : decode cX8_itemAt 33 = .ok (.ifCond .eq 7, 3) := by decide +kernel
theorem dX8_itemAt_36 : decode cX8_itemAt 36 = .ok (.aconst_null, 1) := by decide +kernel
theorem dX8_itemAt_37 : decode cX8_itemAt 37 = .ok (.goto 4, 3) := by decide +kernel
theorem dX8_itemAt_40 : decode cX8_itemAt 40 = .ok (.aload_n 2, 1) := by decide +kernel
theorem dX8_itemAt_41 : decode cX8_itemAt 41 = .ok (.areturn, 1) := by decide +kernel
theorem dX8_itemOfClient_0 : decode cX8_itemOfClient 0 = .ok (.aload_n 0, 1) := by decide +kernel
theorem dX8_itemOfClient_1 : decode cX8_itemOfClient 1 = .ok (.iload_n 2, 1) := by decide +kernel
theorem dX8_itemOfClient_2 : decode cX8_itemOfClient 2 = .ok (.invokevirtual 301, 3) := by decide +kernel
theorem dX8_itemOfClient_5 : decode cX8_itemOfClient 5 = .ok (.astore_n 3, 1) := by decide +kernel
theorem dX8_itemOfClient_6 : decode cX8_itemOfClient 6 = .ok (.aload_n 3, 1) := by decide +kernel
theorem dX8_itemOfClient_7 : decode cX8_itemOfClient 7 = .ok (.ifnull 14, 3) := by decide +kernel
theorem dX8_itemOfClient_10 : decode cX8_itemOfClient 10 = .ok (.aload_n 3, 1) := by decide +kernel
theorem dX8_itemOfClient_11 : decode cX8_itemOfClient 11 = .ok (.getfield 207, 3) := by decide +kernel
theorem dX8_itemOfClient_14 : decode cX8_itemOfClient 14 = .ok (.getfield 175, 3) := by decide +kernel
theorem dX8_itemOfClient_17 : decode cX8_itemOfClient 17 = .ok (.aload_n 1, 1) := by decide +kernel
theorem dX8_itemOfClient_18 : decode cX8_itemOfClient 18 = .ok (.if_acmp .eq 7, 3) := by decide +kernel
theorem dX8_itemOfClient_21 : decode cX8_itemOfClient 21 = .ok (.aconst_null, 1) := by decide +kernel
theorem dX8_itemOfClient_22 : decode cX8_itemOfClient 22 = .ok (.goto 4, 3) := by decide +kernel
theorem dX8_itemOfClient_25 : decode cX8_itemOfClient 25 = .ok (.aload_n 3, 1) := by decide +kernel
theorem dX8_itemOfClient_26 : decode cX8_itemOfClient 26 = .ok (.areturn, 1) := by decide +kernel
theorem dX8_countOpenSessions_0 : decode cX8_countOpenSessions 0 = .ok (.iconst 0, 1) := by decide +kernel
theorem dX8_countOpenSessions_1 : decode cX8_countOpenSessions 1 = .ok (.istore_n 1, 1) := by decide +kernel
theorem dX8_countOpenSessions_2 : decode cX8_countOpenSessions 2 = .ok (.iconst 0, 1) := by decide +kernel
theorem dX8_countOpenSessions_3 : decode cX8_countOpenSessions 3 = .ok (.istore_n 2, 1) := by decide +kernel
theorem dX8_countOpenSessions_4 : decode cX8_countOpenSessions 4 = .ok (.iload_n 2, 1) := by decide +kernel
theorem dX8_countOpenSessions_5 : decode cX8_countOpenSessions 5 = .ok (.aload_n 0, 1) := by decide +kernel
theorem dX8_countOpenSessions_6 : decode cX8_countOpenSessions 6 = .ok (.getfield 19, 3) := by decide +kernel
theorem dX8_countOpenSessions_9 : decode cX8_countOpenSessions 9 = .ok (.invokevirtual 59, 3) := by decide +kernel
theorem dX8_countOpenSessions_12 : decode cX8_countOpenSessions 12 = .ok (.if_icmp .ge 30, 3) := by decide +kernel
theorem dX8_countOpenSessions_15 : decode cX8_countOpenSessions 15 = .ok (.aload_n 0, 1) := by decide +kernel
theorem dX8_countOpenSessions_16 : decode cX8_countOpenSessions 16 = .ok (.getfield 19, 3) := by decide +kernel
theorem dX8_countOpenSessions_19 : decode cX8_countOpenSessions 19 = .ok (.iload_n 2, 1) := by decide +kernel
theorem dX8_countOpenSessions_20 : decode cX8_countOpenSessions 20 = .ok (.invokevirtual 119, 3) := by decide +kernel
theorem dX8_countOpenSessions_23 : decode cX8_countOpenSessions 23 = .ok (.checkcast 95, 3) := by decide +kernel
theorem dX8_countOpenSessions_26 : decode cX8_countOpenSessions 26 = .ok (.getfield 102, 3) := by decide +kernel
theorem dX8_countOpenSessions_29 : decode cX8_countOpenSessions 29 = .ok (.iconst 2, 1) := by decide +kernel
theorem dX8_countOpenSessions_30 : decode cX8_countOpenSessions 30 = .ok (.if_icmp .eq 6, 3) := by decide +kernel
theorem dX8_countOpenSessions_33 : decode cX8_countOpenSessions 33 = .ok (.iinc 1 1, 3) := by decide +kernel
theorem dX8_countOpenSessions_36 : decode cX8_countOpenSessions 36 = .ok (.iinc 2 1, 3) := by decide +kernel
theorem dX8_countOpenSessions_39 : decode cX8_countOpenSessions 39 = .ok (.goto (-35), 3) := by decide +kernel
theorem dX8_countOpenSessions_42 : decode cX8_countOpenSessions 42 = .ok (.iload_n 1, 1) := by decide +kernel
theorem dX8_countOpenSessions_43 : decode cX8_countOpenSessions 43 = .ok (.ireturn, 1) := by decide +kernel
theorem dX8_countSubscriptions_0 : decode cX8_countSubscriptions 0 = .ok (.iconst 0, 1) := by decide +kernel
theorem dX8_countSubscriptions_1 : decode cX8_countSubscriptions 1 = .ok (.istore_n 2, 1) := by decide +kernel
theorem dX8_countSubscriptions_2 : decode cX8_countSubscriptions 2 = .ok (.iconst 0, 1) := by decide +kernel
theorem dX8_countSubscriptions_3 : decode cX8_countSubscriptions 3 = .ok (.istore_n 3, 1) := by decide +kernel
theorem dX8_countSubscriptions_4 : decode cX8_countSubscriptions 4 = .ok (.iload_n 3, 1) := by decide +kernel
theorem dX8_countSubscriptions_5 : decode cX8_countSubscriptions 5 = .ok (.aload_n 0, 1) := by decide +kernel
theorem dX8_countSubscriptions_6 : decode cX8_countSubscriptions 6 = .ok (.getfield 22, 3) := by decide +kernel
theorem dX8_countSubscriptions_9 : decode cX8_countSubscriptions 9 = .ok (.invokevirtual 59, 3) := by decide +kernel
theorem dX8_countSubscriptions_12 : decode cX8_countSubscriptions 12 = .ok (.if_icmp .ge 46, 3) := by decide +kernel
theorem dX8_countSubscriptions_15 : decode cX8_countSubscriptions 15 = .ok (.aload_n 0, 1) := by decide +kernel
theorem dX8_countSubscriptions_16 : decode cX8_countSubscriptions 16 = .ok (.getfield 22, 3) := by decide +kernel
theorem dX8_countSubscriptions_19 : decode cX8_countSubscriptions 19 = .ok (.iload_n 3, 1) := by decide +kernel
theorem dX8_countSubscriptions_20 : decode cX8_countSubscriptions 20 = .ok (.invokevirtual 119, 3) := by decide +kernel
theorem dX8_countSubscriptions_23 : decode cX8_countSubscriptions 23 = .ok (.checkcast 138, 3) := by decide +kernel
theorem dX8_countSubscriptions_26 : decode cX8_countSubscriptions 26 = .ok (.astore 4, 2) := by decide +kernel
theorem dX8_countSubscriptions_28 : decode cX8_countSubscriptions 28 = .ok (.aload 4, 2) := by decide +kernel
theorem dX8_countSubscriptions_30 : decode cX8_countSubscriptions 30 = .ok (.getfield 319, 3) := by decide +kernel
theorem dX8_countSubscriptions_33 : decode cX8_countSubscriptions 33 = .ok (.ifCond .ne 19, 3) := by decide +kernel
theorem dX8_countSubscriptions_36 : decode cX8_countSubscriptions 36 = .ok (.aload_n 1, 1) := by decide +kernel
theorem dX8_countSubscriptions_37 : decode cX8_countSubscriptions 37 = .ok (.ifnull 12, 3) := by decide +kernel
theorem dX8_countSubscriptions_40 : decode cX8_countSubscriptions 40 = .ok (.aload 4, 2) := by decide +kernel
theorem dX8_countSubscriptions_42 : decode cX8_countSubscriptions 42 = .ok (.getfield 175, 3) := by decide +kernel
theorem dX8_countSubscriptions_45 : decode cX8_countSubscriptions 45 = .ok (.aload_n 1, 1) := by decide +kernel
theorem dX8_countSubscriptions_46 : decode cX8_countSubscriptions 46 = .ok (.if_acmp .ne 6, 3) := by decide +kernel
theorem dX8_countSubscriptions_49 : decode cX8_countSubscriptions 49 = .ok (.iinc 2 1, 3) := by decide +kernel
theorem dX8_countSubscriptions_52 : decode cX8_countSubscriptions 52 = .ok (.iinc 3 1, 3) := by decide +kernel
theorem dX8_countSubscriptions_55 : decode cX8_countSubscriptions 55 = .ok (.goto (-51), 3) := by decide +kernel
theorem dX8_countSubscriptions_58 : decode cX8_countSubscriptions 58 = .ok (.iload_n 2, 1) := by decide +kernel
theorem dX8_countSubscriptions_59 : decode cX8_countSubscriptions 59 = .ok (.ireturn, 1) := by decide +kernel
theorem dX8_countItems_0 : decode cX8_countItems 0 = .ok (.iconst 0, 1) := by decide +kernel
theorem dX8_countItems_1 : decode cX8_countItems 1 = .ok (.istore_n 1, 1) := by decide +kernel
theorem dX8_countItems_2 : decode cX8_countItems 2 = .ok (.iconst 0, 1) := by decide +kernel
theorem dX8_countItems_3 : decode cX8_countItems 3 = .ok (.istore_n 2, 1) := by decide +kernel
theorem dX8_countItems_4 : decode cX8_countItems 4 = .ok (.iload_n 2, 1) := by decide +kernel
theorem dX8_countItems_5 : decode cX8_countItems 5 = .ok (.aload_n 0, 1) := by decide +kernel
theorem dX8_countItems_6 : decode cX8_countItems 6 = .ok (.getfield 25, 3) := by decide +kernel
theorem dX8_countItems_9 : decode cX8_countItems 9 = .ok (.invokevirtual 59, 3) := by decide +kernel
theorem dX8_countItems_12 : decode cX8_countItems 12 = .ok (.if_icmp .ge 29, 3) := by decide +kernel
theorem dX8_countItems_15 : decode cX8_countItems 15 = .ok (.aload_n 0, 1) := by decide +kernel
theorem dX8_countItems_16 : decode cX8_countItems 16 = .ok (.getfield 25, 3) := by decide +kernel
theorem dX8_countItems_19 : decode cX8_countItems 19 = .ok (.iload_n 2, 1) := by decide +kernel
theorem dX8_countItems_20 : decode cX8_countItems 20 = .ok (.invokevirtual 119, 3) := by decide +kernel
theorem dX8_countItems_23 : decode cX8_countItems 23 = .ok (.checkcast 183, 3) := by decide +kernel
theorem dX8_countItems_26 : decode cX8_countItems 26 = .ok (.getfield 322, 3) := by decide +kernel
theorem dX8_countItems_29 : decode cX8_countItems 29 = .ok (.ifCond .ne 6, 3) := by decide +kernel
theorem dX8_countItems_32 : decode cX8_countItems 32 = .ok (.iinc 1 1, 3) := by decide +kernel
theorem dX8_countItems_35 : decode cX8_countItems 35 = .ok (.iinc 2 1, 3) := by decide +kernel
theorem dX8_countItems_38 : decode cX8_countItems 38 = .ok (.goto (-34), 3) := by decide +kernel
theorem dX8_countItems_41 : decode cX8_countItems 41 = .ok (.iload_n 1, 1) := by decide +kernel
theorem dX8_countItems_42 : decode cX8_countItems 42 = .ok (.ireturn, 1) := by decide +kernel
theorem dX8_sampleItems_0 : decode cX8_sampleItems 0 = .ok (.iconst 0, 1) := by decide +kernel
theorem dX8_sampleItems_1 : decode cX8_sampleItems 1 = .ok (.istore_n 1, 1) := by decide +kernel
theorem dX8_sampleItems_2 : decode cX8_sampleItems 2 = .ok (.iload_n 1, 1) := by decide +kernel
theorem dX8_sampleItems_3 : decode cX8_sampleItems 3 = .ok (.aload_n 0, 1) := by decide +kernel
theorem dX8_sampleItems_4 : decode cX8_sampleItems 4 = .ok (.getfield 25, 3) := by decide +kernel
theorem dX8_sampleItems_7 : decode cX8_sampleItems 7 = .ok (.invokevirtual 59, 3) := by decide +kernel
theorem dX8_sampleItems_10 : decode cX8_sampleItems 10 = .ok (.if_icmp .ge 62, 3) := by decide +kernel
theorem dX8_sampleItems_13 : decode cX8_sampleItems 13 = .ok (.aload_n 0, 1) := by decide +kernel
theorem dX8_sampleItems_14 : decode cX8_sampleItems 14 = .ok (.getfield 25, 3) := by decide +kernel
theorem dX8_sampleItems_17 : decode cX8_sampleItems 17 = .ok (.iload_n 1, 1) := by decide +kernel
theorem dX8_sampleItems_18 : decode cX8_sampleItems 18 = .ok (.invokevirtual 119, 3) := by decide +kernel
theorem dX8_sampleItems_21 : decode cX8_sampleItems 21 = .ok (.checkcast 183, 3) := by decide +kernel
theorem dX8_sampleItems_24 : decode cX8_sampleItems 24 = .ok (.astore_n 2, 1) := by decide +kernel
theorem dX8_sampleItems_25 : decode cX8_sampleItems 25 = .ok (.aload_n 2, 1) := by decide +kernel
theorem dX8_sampleItems_26 : decode cX8_sampleItems 26 = .ok (.getfield 322, 3) := by decide +kernel
theorem dX8_sampleItems_29 : decode cX8_sampleItems 29 = .ok (.ifCond .ne 37, 3) := by decide +kernel
theorem dX8_sampleItems_32 : decode cX8_sampleItems 32 = .ok (.aload_n 2, 1) := by decide +kernel
theorem dX8_sampleItems_33 : decode cX8_sampleItems 33 = .ok (.getfield 204, 3) := by decide +kernel
theorem dX8_sampleItems_36 : decode cX8_sampleItems 36 = .ok (.ifCond .eq 30, 3) := by decide +kernel
theorem dX8_sampleItems_39 : decode cX8_sampleItems 39 = .ok (.aload_n 0, 1) := by decide +kernel
theorem dX8_sampleItems_40 : decode cX8_sampleItems 40 = .ok (.getfield 35, 3) := by decide +kernel
theorem dX8_sampleItems_43 : decode cX8_sampleItems 43 = .ok (.aload_n 2, 1) := by decide +kernel
theorem dX8_sampleItems_44 : decode cX8_sampleItems 44 = .ok (.getfield 323, 3) := by decide +kernel
theorem dX8_sampleItems_47 : decode cX8_sampleItems 47 = .ok (.isub, 1) := by decide +kernel
theorem dX8_sampleItems_48 : decode cX8_sampleItems 48 = .ok (.aload_n 2, 1) := by decide +kernel
theorem dX8_sampleItems_49 : decode cX8_sampleItems 49 = .ok (.getfield 326, 3) := by decide +kernel
theorem dX8_sampleItems_52 : decode cX8_sampleItems 52 = .ok (.invokestatic 329, 3) := by decide +kernel
theorem dX8_sampleItems_55 : decode cX8_sampleItems 55 = .ok (.ifCond .eq 11, 3) := by decide +kernel
theorem dX8_sampleItems_58 : decode cX8_sampleItems 58 = .ok (.aload_n 2, 1) := by decide +kernel
theorem dX8_sampleItems_59 : decode cX8_sampleItems 59 = .ok (.aload_n 0, 1) := by decide +kernel
theorem dX8_sampleItems_60 : decode cX8_sampleItems 60 = .ok (.getfield 35, 3) := by decide +kernel
theorem dX8_sampleItems_63 : decode cX8_sampleItems 63 = .ok (.invokevirtual 332, 3) := by decide +kernel
theorem dX8_sampleItems_66 : decode cX8_sampleItems 66 = .ok (.iinc 1 1, 3) := by decide +kernel
theorem dX8_sampleItems_69 : decode cX8_sampleItems 69 = .ok (.goto (-67), 3) := by decide +kernel
theorem dX8_sampleItems_72 : decode cX8_sampleItems 72 = .ok (.return_, 1) := by decide +kernel
theorem dX8_serveSubscriptions_0 : decode cX8_serveSubscriptions 0 = .ok (.iconst 0, 1) := by decide +kernel
theorem dX8_serveSubscriptions_1 : decode cX8_serveSubscriptions 1 = .ok (.istore_n 1, 1) := by decide +kernel
theorem dX8_serveSubscriptions_2 : decode cX8_serveSubscriptions 2 = .ok (.iload_n 1, 1) := by decide +kernel
theorem dX8_serveSubscriptions_3 : decode cX8_serveSubscriptions 3 = .ok (.aload_n 0, 1) := by decide +kernel
theorem dX8_serveSubscriptions_4 : decode cX8_serveSubscriptions 4 = .ok (.getfield 22, 3) := by decide +kernel
theorem dX8_serveSubscriptions_7 : decode cX8_serveSubscriptions 7 = .ok (.invokevirtual 59, 3) := by decide +kernel
theorem dX8_serveSubscriptions_10 : decode cX8_serveSubscriptions 10 = .ok (.if_icmp .ge 59, 3) := by decide +kernel
theorem dX8_serveSubscriptions_13 : decode cX8_serveSubscriptions 13 = .ok (.aload_n 0, 1) := by decide +kernel
theorem dX8_serveSubscriptions_14 : decode cX8_serveSubscriptions 14 = .ok (.getfield 22, 3) := by decide +kernel
theorem dX8_serveSubscriptions_17 : decode cX8_serveSubscriptions 17 = .ok (.iload_n 1, 1) := by decide +kernel
theorem dX8_serveSubscriptions_18 : decode cX8_serveSubscriptions 18 = .ok (.invokevirtual 119, 3) := by decide +kernel
theorem dX8_serveSubscriptions_21 : decode cX8_serveSubscriptions 21 = .ok (.checkcast 138, 3) := by decide +kernel
theorem dX8_serveSubscriptions_24 : decode cX8_serveSubscriptions 24 = .ok (.astore_n 2, 1) := by decide +kernel
theorem dX8_serveSubscriptions_25 : decode cX8_serveSubscriptions 25 = .ok (.aload_n 2, 1) := by decide +kernel
theorem dX8_serveSubscriptions_26 : decode cX8_serveSubscriptions 26 = .ok (.getfield 319, 3) := by decide +kernel
theorem dX8_serveSubscriptions_29 : decode cX8_serveSubscriptions 29 = .ok (.ifCond .ne 34, 3) := by decide +kernel
theorem dX8_serveSubscriptions_32 : decode cX8_serveSubscriptions 32 = .ok (.aload_n 0, 1) := by decide +kernel
theorem dX8_serveSubscriptions_33 : decode cX8_serveSubscriptions 33 = .ok (.getfield 35, 3) := by decide +kernel
theorem dX8_serveSubscriptions_36 : decode cX8_serveSubscriptions 36 = .ok (.aload_n 2, 1) := by decide +kernel
theorem dX8_serveSubscriptions_37 : decode cX8_serveSubscriptions 37 = .ok (.getfield 335, 3) := by decide +kernel
theorem dX8_serveSubscriptions_40 : decode cX8_serveSubscriptions 40 = .ok (.isub, 1) := by decide +kernel
theorem dX8_serveSubscriptions_41 : decode cX8_serveSubscriptions 41 = .ok (.aload_n 2, 1) := by decide +kernel
theorem dX8_serveSubscriptions_42 : decode cX8_serveSubscriptions 42 = .ok (.getfield 336, 3) := by decide +kernel
theorem dX8_serveSubscriptions_45 : decode cX8_serveSubscriptions 45 = .ok (.invokestatic 329, 3) := by decide +kernel
theorem dX8_serveSubscriptions_48 : decode cX8_serveSubscriptions 48 = .ok (.ifCond .eq 15, 3) := by decide +kernel
theorem dX8_serveSubscriptions_51 : decode cX8_serveSubscriptions 51 = .ok (.aload_n 2, 1) := by decide +kernel
theorem dX8_serveSubscriptions_52 : decode cX8_serveSubscriptions 52 = .ok (.invokevirtual 339, 3) := by decide +kernel
theorem dX8_serveSubscriptions_55 : decode cX8_serveSubscriptions 55 = .ok (.ifCond .eq 8, 3) := by decide +kernel
theorem dX8_serveSubscriptions_58 : decode cX8_serveSubscriptions 58 = .ok (.aload_n 0, 1) := by decide +kernel
theorem dX8_serveSubscriptions_59 : decode cX8_serveSubscriptions 59 = .ok (.aload_n 2, 1) := by decide +kernel
theorem dX8_serveSubscriptions_60 : decode cX8_serveSubscriptions 60 = .ok (.invokevirtual 342, 3) := by decide +kernel
theorem dX8_serveSubscriptions_63 : decode cX8_serveSubscriptions 63 = .ok (.iinc 1 1, 3) := by decide +kernel
theorem dX8_serveSubscriptions_66 : decode cX8_serveSubscriptions 66 = .ok (.goto (-64), 3) := by decide +kernel
theorem dX8_serveSubscriptions_69 : decode cX8_serveSubscriptions 69 = .ok (.return_, 1) := by decide +kernel
theorem dX8_answerRequests_0 : decode cX8_answerRequests 0 = .ok (.aload_n 1, 1) := by decide +kernel
theorem dX8_answerRequests_1 : decode cX8_answerRequests 1 = .ok (.getfield 175, 3) := by decide +kernel
theorem dX8_answerRequests_4 : decode cX8_answerRequests 4 = .ok (.getfield 224, 3) := by decide +kernel
theorem dX8_answerRequests_7 : decode cX8_answerRequests 7 = .ok (.istore_n 2, 1) := by decide +kernel
theorem dX8_answerRequests_8 : decode cX8_answerRequests 8 = .ok (.iload_n 2, 1) := by decide +kernel
theorem dX8_answerRequests_9 : decode cX8_answerRequests 9 = .ok (.ifCond .ne 9, 3) := by decide +kernel
theorem dX8_answerRequests_12 : decode cX8_answerRequests 12 = .ok (.aload_n 0, 1) := by decide +kernel
theorem dX8_answerRequests_13 : decode cX8_answerRequests 13 = .ok (.aload_n 1, 1) := by decide +kernel
theorem dX8_answerRequests_14 : decode cX8_answerRequests 14 = .ok (.invokevirtual 345, 3) := by decide +kernel
theorem dX8_answerRequests_17 : decode cX8_answerRequests 17 = .ok (.return_, 1) := by decide +kernel
theorem dX8_answerRequests_18 : decode cX8_answerRequests 18 = .ok (.iconst 0, 1) := by decide +kernel
theorem dX8_answerRequests_19 : decode cX8_answerRequests 19 = .ok (.istore_n 3, 1) := by decide +kernel
theorem dX8_answerRequests_20 : decode cX8_answerRequests 20 = .ok (.iload_n 3, 1) := by decide +kernel
theorem dX8_answerRequests_21 : decode cX8_answerRequests 21 = .ok (.iload_n 2, 1) := by decide +kernel
theorem dX8_answerRequests_22 : decode cX8_answerRequests 22 = .ok (.if_icmp .ge 41, 3) := by decide +kernel
theorem dX8_answerRequests_25 : decode cX8_answerRequests 25 = .ok (.aload_n 0, 1) := by decide +kernel
theorem dX8_answerRequests_26 : decode cX8_answerRequests 26 = .ok (.getfield 28, 3) := by decide +kernel
theorem dX8_answerRequests_29 : decode cX8_answerRequests 29 = .ok (.invokevirtual 59, 3) := by decide +kernel
theorem dX8_answerRequests_32 : decode cX8_answerRequests 32 = .ok (.sipush 900, 3) := by decide +kernel
theorem dX8_answerRequests_35 : decode cX8_answerRequests 35 = .ok (.if_icmp .lt 9, 3) := by decide +kernel
theorem dX8_answerRequests_38 : decode cX8_answerRequests 38 = .ok (.aload_n 0, 1) := by decide +kernel
theorem dX8_answerRequests_39 : decode cX8_answerRequests 39 = .ok (.aload_n 1, 1) := by decide +kernel
theorem dX8_answerRequests_40 : decode cX8_answerRequests 40 = .ok (.invokevirtual 345, 3) := by decide +kernel
theorem dX8_answerRequests_43 : decode cX8_answerRequests 43 = .ok (.return_, 1) := by decide +kernel
theorem dX8_answerRequests_44 : decode cX8_answerRequests 44 = .ok (.aload_n 0, 1) := by decide +kernel
theorem dX8_answerRequests_45 : decode cX8_answerRequests 45 = .ok (.aload_n 1, 1) := by decide +kernel
theorem dX8_answerRequests_46 : decode cX8_answerRequests 46 = .ok (.invokevirtual 238, 3) := by decide +kernel
theorem dX8_answerRequests_49 : decode cX8_answerRequests 49 = .ok (.aload_n 1, 1) := by decide +kernel
theorem dX8_answerRequests_50 : decode cX8_answerRequests 50 = .ok (.getfield 348, 3) := by decide +kernel
theorem dX8_answerRequests_53 : decode cX8_answerRequests 53 = .ok (.ifCond .ne 4, 3) := by decide +kernel
theorem dX8_answerRequests_56 : decode cX8_answerRequests 56 = .ok (.return_, 1) := by decide +kernel
theorem dX8_answerRequests_57 : decode cX8_answerRequests 57 = .ok (.iinc 3 1, 3) := by decide +kernel
theorem dX8_answerRequests_60 : decode cX8_answerRequests 60 = .ok (.goto (-40), 3) := by decide +kernel
theorem dX8_answerRequests_63 : decode cX8_answerRequests 63 = .ok (.return_, 1) := by decide +kernel
theorem dX8_fallShort_0 : decode cX8_fallShort 0 = .ok (.aload_n 1, 1) := by decide +kernel
theorem dX8_fallShort_1 : decode cX8_fallShort 1 = .ok (.getfield 292, 3) := by decide +kernel
theorem dX8_fallShort_4 : decode cX8_fallShort 4 = .ok (.ifCond .ne 26, 3) := by decide +kernel
theorem dX8_fallShort_7 : decode cX8_fallShort 7 = .ok (.aload_n 1, 1) := by decide +kernel
theorem dX8_fallShort_8 : decode cX8_fallShort 8 = .ok (.iconst 1, 1) := by decide +kernel
theorem dX8_fallShort_9 : decode cX8_fallShort 9 = .ok (.putfield 292, 3) := by decide +kernel
theorem dX8_fallShort_12 : decode cX8_fallShort 12 = .ok (.aload_n 1, 1) := by decide +kernel
theorem dX8_fallShort_13 : decode cX8_fallShort 13 = .ok (.aload_n 0, 1) := by decide +kernel
theorem dX8_fallShort_14 : decode cX8_fallShort 14 = .ok (.getfield 46, 3) := by decide +kernel
theorem dX8_fallShort_17 : decode cX8_fallShort 17 = .ok (.putfield 349, 3) := by decide +kernel
theorem dX8_fallShort_20 : decode cX8_fallShort 20 = .ok (.aload_n 0, 1) := by decide +kernel
theorem dX8_fallShort_21 : decode cX8_fallShort 21 = .ok (.dup, 1) := by decide +kernel
theorem dX8_fallShort_22 : decode cX8_fallShort 22 = .ok (.getfield 46, 3) := by decide +kernel
theorem dX8_fallShort_25 : decode cX8_fallShort 25 = .ok (.iconst 1, 1) := by decide +kernel
theorem dX8_fallShort_26 : decode cX8_fallShort 26 = .ok (.iadd, 1) := by decide +kernel
theorem dX8_fallShort_27 : decode cX8_fallShort 27 = .ok (.putfield 46, 3) := by decide +kernel
theorem dX8_fallShort_30 : decode cX8_fallShort 30 = .ok (.aload_n 1, 1) := by decide +kernel
theorem dX8_fallShort_31 : decode cX8_fallShort 31 = .ok (.dup, 1) := by decide +kernel
theorem dX8_fallShort_32 : decode cX8_fallShort 32 = .ok (.getfield 164, 3) := by decide +kernel
theorem dX8_fallShort_35 : decode cX8_fallShort 35 = .ok (.iconst 1, 1) := by decide +kernel
theorem dX8_fallShort_36 : decode cX8_fallShort 36 = .ok (.isub, 1) := by decide +kernel
theorem dX8_fallShort_37 : decode cX8_fallShort 37 = .ok (.putfield 164, 3) := by decide +kernel
theorem dX8_fallShort_40 : decode cX8_fallShort 40 = .ok (.aload_n 1, 1) := by decide +kernel
theorem dX8_fallShort_41 : decode cX8_fallShort 41 = .ok (.getfield 164, 3) := by decide +kernel
theorem dX8_fallShort_44 : decode cX8_fallShort 44 = .ok (.ifCond .gt 7, 3) := by decide +kernel
theorem dX8_fallShort_47 : decode cX8_fallShort 47 = .ok (.aload_n 1, 1) := by decide +kernel
theorem dX8_fallShort_48 : decode cX8_fallShort 48 = .ok (.invokevirtual 179, 3) := by decide +kernel
theorem dX8_fallShort_51 : decode cX8_fallShort 51 = .ok (.return_, 1) := by decide +kernel
theorem dX8_send_0 : decode cX8_send 0 = .ok (.aload_n 1, 1) := by decide +kernel
theorem dX8_send_1 : decode cX8_send 1 = .ok (.invokevirtual 297, 3) := by decide +kernel
theorem dX8_send_4 : decode cX8_send 4 = .ok (.istore_n 2, 1) := by decide +kernel
theorem dX8_send_5 : decode cX8_send 5 = .ok (.new 250, 3) := by decide +kernel
theorem dX8_send_8 : decode cX8_send 8 = .ok (.dup, 1) := by decide +kernel
theorem dX8_send_9 : decode cX8_send 9 = .ok (.aload_n 0, 1) := by decide +kernel
theorem dX8_send_10 : decode cX8_send 10 = .ok (.getfield 28, 3) := by decide +kernel
theorem dX8_send_13 : decode cX8_send 13 = .ok (.invokevirtual 59, 3) := by decide +kernel
theorem dX8_send_16 : decode cX8_send 16 = .ok (.aload_n 1, 1) := by decide +kernel
theorem dX8_send_17 : decode cX8_send 17 = .ok (.getfield 150, 3) := by decide +kernel
theorem dX8_send_20 : decode cX8_send 20 = .ok (.aload_n 1, 1) := by decide +kernel
theorem dX8_send_21 : decode cX8_send 21 = .ok (.getfield 286, 3) := by decide +kernel
theorem dX8_send_24 : decode cX8_send 24 = .ok (.aload_n 0, 1) := by decide +kernel
theorem dX8_send_25 : decode cX8_send 25 = .ok (.getfield 35, 3) := by decide +kernel
theorem dX8_send_28 : decode cX8_send 28 = .ok (.aload_n 1, 1) := by decide +kernel
theorem dX8_send_29 : decode cX8_send 29 = .ok (.invokevirtual 352, 3) := by decide +kernel
theorem dX8_send_32 : decode cX8_send 32 = .ok (.invokespecial 356, 3) := by decide +kernel
theorem dX8_send_35 : decode cX8_send 35 = .ok (.astore_n 3, 1) := by decide +kernel
theorem dX8_send_36 : decode cX8_send 36 = .ok (.iload_n 2, 1) := by decide +kernel
theorem dX8_send_37 : decode cX8_send 37 = .ok (.ifCond .eq 18, 3) := by decide +kernel
theorem dX8_send_40 : decode cX8_send 40 = .ok (.aload_n 1, 1) := by decide +kernel
theorem dX8_send_41 : decode cX8_send 41 = .ok (.dup, 1) := by decide +kernel
theorem dX8_send_42 : decode cX8_send 42 = .ok (.getfield 286, 3) := by decide +kernel
theorem dX8_send_45 : decode cX8_send 45 = .ok (.iconst 1, 1) := by decide +kernel
theorem dX8_send_46 : decode cX8_send 46 = .ok (.iadd, 1) := by decide +kernel
theorem dX8_send_47 : decode cX8_send 47 = .ok (.putfield 286, 3) := by decide +kernel
theorem dX8_send_50 : decode cX8_send 50 = .ok (.aload_n 1, 1) := by decide +kernel
theorem dX8_send_51 : decode cX8_send 51 = .ok (.aload_n 3, 1) := by decide +kernel
theorem dX8_send_52 : decode cX8_send 52 = .ok (.invokevirtual 359, 3) := by decide +kernel
theorem dX8_send_55 : decode cX8_send 55 = .ok (.aload_n 3, 1) := by decide +kernel
theorem dX8_send_56 : decode cX8_send 56 = .ok (.aload_n 1, 1) := by decide +kernel
theorem dX8_send_57 : decode cX8_send 57 = .ok (.invokevirtual 297, 3) := by decide +kernel
theorem dX8_send_60 : decode cX8_send 60 = .ok (.putfield 264, 3) := by decide +kernel
theorem dX8_send_63 : decode cX8_send 63 = .ok (.aload_n 1, 1) := by decide +kernel
theorem dX8_send_64 : decode cX8_send 64 = .ok (.aload_n 3, 1) := by decide +kernel
theorem dX8_send_65 : decode cX8_send 65 = .ok (.getfield 264, 3) := by decide +kernel
theorem dX8_send_68 : decode cX8_send 68 = .ok (.putfield 348, 3) := by decide +kernel
theorem dX8_send_71 : decode cX8_send 71 = .ok (.aload_n 1, 1) := by decide +kernel
theorem dX8_send_72 : decode cX8_send 72 = .ok (.iconst 1, 1) := by decide +kernel
theorem dX8_send_73 : decode cX8_send 73 = .ok (.putfield 363, 3) := by decide +kernel
theorem dX8_send_76 : decode cX8_send 76 = .ok (.aload_n 1, 1) := by decide +kernel
theorem dX8_send_77 : decode cX8_send 77 = .ok (.iconst 0, 1) := by decide +kernel
theorem dX8_send_78 : decode cX8_send 78 = .ok (.putfield 292, 3) := by decide +kernel
theorem dX8_send_81 : decode cX8_send 81 = .ok (.aload_n 1, 1) := by decide +kernel
theorem dX8_send_82 : decode cX8_send 82 = .ok (.aload_n 1, 1) := by decide +kernel
theorem dX8_send_83 : decode cX8_send 83 = .ok (.getfield 366, 3) := by decide +kernel
theorem dX8_send_86 : decode cX8_send 86 = .ok (.putfield 289, 3) := by decide +kernel
theorem dX8_send_89 : decode cX8_send 89 = .ok (.aload_n 1, 1) := by decide +kernel
theorem dX8_send_90 : decode cX8_send 90 = .ok (.aload_n 1, 1) := by decide +kernel
theorem dX8_send_91 : decode cX8_send 91 = .ok (.getfield 161, 3) := by decide +kernel
theorem dX8_send_94 : decode cX8_send 94 = .ok (.putfield 164, 3) := by decide +kernel
theorem dX8_send_97 : decode cX8_send 97 = .ok (.aload_n 1, 1) := by decide +kernel
theorem dX8_send_98 : decode cX8_send 98 = .ok (.getfield 175, 3) := by decide +kernel
theorem dX8_send_101 : decode cX8_send 101 = .ok (.dup, 1) := by decide +kernel
theorem dX8_send_102 : decode cX8_send 102 = .ok (.getfield 224, 3) := by decide +kernel
theorem dX8_send_105 : decode cX8_send 105 = .ok (.iconst 1, 1) := by decide +kernel
theorem dX8_send_106 : decode cX8_send 106 = .ok (.isub, 1) := by decide +kernel
theorem dX8_send_107 : decode cX8_send 107 = .ok (.putfield 224, 3) := by decide +kernel
theorem dX8_send_110 : decode cX8_send 110 = .ok (.aload_n 1, 1) := by decide +kernel
theorem dX8_send_111 : decode cX8_send 111 = .ok (.getfield 175, 3) := by decide +kernel
theorem dX8_send_114 : decode cX8_send 114 = .ok (.getfield 246, 3) := by decide +kernel
theorem dX8_send_117 : decode cX8_send 117 = .ok (.aload_n 3, 1) := by decide +kernel
theorem dX8_send_118 : decode cX8_send 118 = .ok (.invokevirtual 66, 3) := by decide +kernel
theorem dX8_send_121 : decode cX8_send 121 = .ok (.pop, 1) := by decide +kernel
theorem dX8_send_122 : decode cX8_send 122 = .ok (.aload_n 0, 1) := by decide +kernel
theorem dX8_send_123 : decode cX8_send 123 = .ok (.getfield 28, 3) := by decide +kernel
theorem dX8_send_126 : decode cX8_send 126 = .ok (.aload_n 3, 1) := by decide +kernel
theorem dX8_send_127 : decode cX8_send 127 = .ok (.invokevirtual 66, 3) := by decide +kernel
theorem dX8_send_130 : decode cX8_send 130 = .ok (.pop, 1) := by decide +kernel
theorem dX8_send_131 : decode cX8_send 131 = .ok (.return_, 1) := by decide +kernel
theorem dX8_closeTimedOut_0 : decode cX8_closeTimedOut 0 = .ok (.iconst 0, 1) := by decide +kernel
theorem dX8_closeTimedOut_1 : decode cX8_closeTimedOut 1 = .ok (.istore_n 1, 1) := by decide +kernel
theorem dX8_closeTimedOut_2 : decode cX8_closeTimedOut 2 = .ok (.iload_n 1, 1) := by decide +kernel
theorem dX8_closeTimedOut_3 : decode cX8_closeTimedOut 3 = .ok (.aload_n 0, 1) := by decide +kernel
theorem dX8_closeTimedOut_4 : decode cX8_closeTimedOut 4 = .ok (.getfield 19, 3) := by decide +kernel
theorem dX8_closeTimedOut_7 : decode cX8_closeTimedOut 7 = .ok (.invokevirtual 59, 3) := by decide +kernel
theorem dX8_closeTimedOut_10 : decode cX8_closeTimedOut 10 = .ok (.if_icmp .ge 46, 3) := by decide +kernel
theorem dX8_closeTimedOut_13 : decode cX8_closeTimedOut 13 = .ok (.aload_n 0, 1) := by decide +kernel
theorem dX8_closeTimedOut_14 : decode cX8_closeTimedOut 14 = .ok (.getfield 19, 3) := by decide +kernel
theorem dX8_closeTimedOut_17 : decode cX8_closeTimedOut 17 = .ok (.iload_n 1, 1) := by decide +kernel
theorem dX8_closeTimedOut_18 : decode cX8_closeTimedOut 18 = .ok (.invokevirtual 119, 3) := by decide +kernel
theorem dX8_closeTimedOut_21 : decode cX8_closeTimedOut 21 = .ok (.checkcast 95, 3) := by decide +kernel
theorem dX8_closeTimedOut_24 : decode cX8_closeTimedOut 24 = .ok (.astore_n 2, 1) := by decide +kernel
theorem dX8_closeTimedOut_25 : decode cX8_closeTimedOut 25 = .ok (.aload_n 2, 1) := by decide +kernel
theorem dX8_closeTimedOut_26 : decode cX8_closeTimedOut 26 = .ok (.getfield 102, 3) := by decide +kernel
theorem dX8_closeTimedOut_29 : decode cX8_closeTimedOut 29 = .ok (.iconst 2, 1) := by decide +kernel
theorem dX8_closeTimedOut_30 : decode cX8_closeTimedOut 30 = .ok (.if_icmp .eq 20, 3) := by decide +kernel
theorem dX8_closeTimedOut_33 : decode cX8_closeTimedOut 33 = .ok (.aload_n 2, 1) := by decide +kernel
theorem dX8_closeTimedOut_34 : decode cX8_closeTimedOut 34 = .ok (.getfield 283, 3) := by decide +kernel
theorem dX8_closeTimedOut_37 : decode cX8_closeTimedOut 37 = .ok (.aload_n 0, 1) := by decide +kernel
theorem dX8_closeTimedOut_38 : decode cX8_closeTimedOut 38 = .ok (.getfield 35, 3) := by decide +kernel
theorem dX8_closeTimedOut_41 : decode cX8_closeTimedOut 41 = .ok (.if_icmp .ne 9, 3) := by decide +kernel
theorem dX8_closeTimedOut_44 : decode cX8_closeTimedOut 44 = .ok (.aload_n 0, 1) := by decide +kernel
theorem dX8_closeTimedOut_45 : decode cX8_closeTimedOut 45 = .ok (.aload_n 2, 1) := by decide +kernel
theorem dX8_closeTimedOut_46 : decode cX8_closeTimedOut 46 = .ok (.invokevirtual 115, 3) := by decide +kernel
theorem dX8_closeTimedOut_49 : decode cX8_closeTimedOut 49 = .ok (.pop, 1) := by decide +kernel
theorem dX8_closeTimedOut_50 : decode cX8_closeTimedOut 50 = .ok (.iinc 1 1, 3) := by decide +kernel
theorem dX8_closeTimedOut_53 : decode cX8_closeTimedOut 53 = .ok (.goto (-51), 3) := by decide +kernel
theorem dX8_closeTimedOut_56 : decode cX8_closeTimedOut 56 = .ok (.return_, 1) := by decide +kernel
theorem dX8_shut_0 : decode cX8_shut 0 = .ok (.aload_n 1, 1) := by decide +kernel
theorem dX8_shut_1 : decode cX8_shut 1 = .ok (.iconst 2, 1) := by decide +kernel
theorem dX8_shut_2 : decode cX8_shut 2 = .ok (.putfield 102, 3) := by decide +kernel
theorem dX8_shut_5 : decode cX8_shut 5 = .ok (.aload_n 1, 1) := by decide +kernel
theorem dX8_shut_6 : decode cX8_shut 6 = .ok (.iconst 0, 1) := by decide +kernel
theorem dX8_shut_7 : decode cX8_shut 7 = .ok (.putfield 224, 3) := by decide +kernel
theorem dX8_shut_10 : decode cX8_shut 10 = .ok (.iconst 0, 1) := by decide +kernel
theorem dX8_shut_11 : decode cX8_shut 11 = .ok (.istore_n 2, 1) := by decide +kernel
theorem dX8_shut_12 : decode cX8_shut 12 = .ok (.iconst 0, 1) := by decide +kernel
theorem dX8_shut_13 : decode cX8_shut 13 = .ok (.istore_n 3, 1) := by decide +kernel
theorem dX8_shut_14 : decode cX8_shut 14 = .ok (.iload_n 3, 1) := by decide +kernel
theorem dX8_shut_15 : decode cX8_shut 15 = .ok (.aload_n 0, 1) := by decide +kernel
theorem dX8_shut_16 : decode cX8_shut 16 = .ok (.getfield 22, 3) := by decide +kernel
theorem dX8_shut_19 : decode cX8_shut 19 = .ok (.invokevirtual 59, 3) := by decide +kernel
theorem dX8_shut_22 : decode cX8_shut 22 = .ok (.if_icmp .ge 47, 3) := by decide +kernel
theorem dX8_shut_25 : decode cX8_shut 25 = .ok (.aload_n 0, 1) := by decide +kernel
theorem dX8_shut_26 : decode cX8_shut 26 = .ok (.getfield 22, 3) := by decide +kernel
theorem dX8_shut_29 : decode cX8_shut 29 = .ok (.iload_n 3, 1) := by decide +kernel
theorem dX8_shut_30 : decode cX8_shut 30 = .ok (.invokevirtual 119, 3) := by decide +kernel
theorem dX8_shut_33 : decode cX8_shut 33 = .ok (.checkcast 138, 3) := by decide +kernel
theorem dX8_shut_36 : decode cX8_shut 36 = .ok (.astore 4, 2) := by decide +kernel
theorem dX8_shut_38 : decode cX8_shut 38 = .ok (.aload 4, 2) := by decide +kernel
theorem dX8_shut_40 : decode cX8_shut 40 = .ok (.getfield 319, 3) := by decide +kernel
theorem dX8_shut_43 : decode cX8_shut 43 = .ok (.ifCond .ne 20, 3) := by decide +kernel
theorem dX8_shut_46 : decode cX8_shut 46 = .ok (.aload 4, 2) := by decide +kernel
theorem dX8_shut_48 : decode cX8_shut 48 = .ok (.getfield 175, 3) := by decide +kernel
theorem dX8_shut_51 : decode cX8_shut 51 = .ok (.aload_n 1, 1) := by decide +kernel
theorem dX8_shut_52 : decode cX8_shut 52 = .ok (.if_acmp .ne 11, 3) := by decide +kernel
theorem dX8_shut_55 : decode cX8_shut 55 = .ok (.aload 4, 2) := by decide +kernel
theorem dX8_shut_57 : decode cX8_shut 57 = .ok (.invokevirtual 179, 3) := by decide +kernel
theorem dX8_shut_60 : decode cX8_shut 60 = .ok (.iinc 2 1, 3) := by decide +kernel
theorem dX8_shut_63 : decode cX8_shut 63 = .ok (.iinc 3 1, 3) := by decide +kernel
theorem dX8_shut_66 : decode cX8_shut 66 = .ok (.goto (-52), 3) := by decide +kernel
theorem dX8_shut_69 : decode cX8_shut 69 = .ok (.iload_n 2, 1) := by decide +kernel
theorem dX8_shut_70 : decode cX8_shut 70 = .ok (.ireturn, 1) := by decide +kernel
theorem dX8_acknowledge_0 : decode cX8_acknowledge 0 = .ok (.aload_n 0, 1) := by decide +kernel
theorem dX8_acknowledge_1 : decode cX8_acknowledge 1 = .ok (.aload_n 1, 1) := by decide +kernel
theorem dX8_acknowledge_2 : decode cX8_acknowledge 2 = .ok (.iload_n 2, 1) := by decide +kernel
theorem dX8_acknowledge_3 : decode cX8_acknowledge 3 = .ok (.invokevirtual 153, 3) := by decide +kernel
theorem dX8_acknowledge_6 : decode cX8_acknowledge 6 = .ok (.astore 4, 2) := by decide +kernel
theorem dX8_acknowledge_8 : decode cX8_acknowledge 8 = .ok (.aload 4, 2) := by decide +kernel
theorem dX8_acknowledge_10 : decode cX8_acknowledge 10 = .ok (.ifnonnull 6, 3) := by decide +kernel
theorem dX8_acknowledge_13 : decode cX8_acknowledge 13 = .ok (.bipush (-5), 2) := by decide +kernel
theorem dX8_acknowledge_15 : decode cX8_acknowledge 15 = .ok (.ireturn, 1) := by decide +kernel
theorem dX8_acknowledge_16 : decode cX8_acknowledge 16 = .ok (.aload 4, 2) := by decide +kernel
theorem dX8_acknowledge_18 : decode cX8_acknowledge 18 = .ok (.iload_n 3, 1) := by decide +kernel
theorem dX8_acknowledge_19 : decode cX8_acknowledge 19 = .ok (.invokevirtual 369, 3) := by decide +kernel
theorem dX8_acknowledge_22 : decode cX8_acknowledge 22 = .ok (.ifCond .eq 7, 3) := by decide +kernel
theorem dX8_acknowledge_25 : decode cX8_acknowledge 25 = .ok (.iconst 1, 1) := by decide +kernel
theorem dX8_acknowledge_26 : decode cX8_acknowledge 26 = .ok (.goto 5, 3) := by decide +kernel
theorem dX8_acknowledge_29 : decode cX8_acknowledge 29 = .ok (.bipush (-9), 2) := by decide +kernel
theorem dX8_acknowledge_31 : decode cX8_acknowledge 31 = .ok (.ireturn, 1) := by decide +kernel
theorem dX8_longestLate_0 : decode cX8_longestLate 0 = .ok (.aconst_null, 1) := by decide +kernel
theorem dX8_longestLate_1 : decode cX8_longestLate 1 = .ok (.astore_n 2, 1) := by decide +kernel
theorem dX8_longestLate_2 : decode cX8_longestLate 2 = .ok (.iconst 0, 1) := by decide +kernel
theorem dX8_longestLate_3 : decode cX8_longestLate 3 = .ok (.istore_n 3, 1) := by decide +kernel
theorem dX8_longestLate_4 : decode cX8_longestLate 4 = .ok (.iload_n 3, 1) := by decide +kernel
theorem dX8_longestLate_5 : decode cX8_longestLate 5 = .ok (.aload_n 0, 1) := by decide +kernel
theorem dX8_longestLate_6 : decode cX8_longestLate 6 = .ok (.getfield 22, 3) := by decide +kernel
theorem dX8_longestLate_9 : decode cX8_longestLate 9 = .ok (.invokevirtual 59, 3) := by decide +kernel
theorem dX8_longestLate_12 : decode cX8_longestLate 12 = .ok (.if_icmp .ge 66, 3) := by decide +kernel
theorem dX8_longestLate_15 : decode cX8_longestLate 15 = .ok (.aload_n 0, 1) := by decide +kernel
theorem dX8_longestLate_16 : decode cX8_longestLate 16 = .ok (.getfield 22, 3) := by decide +kernel
theorem dX8_longestLate_19 : decode cX8_longestLate 19 = .ok (.iload_n 3, 1) := by decide +kernel
theorem dX8_longestLate_20 : decode cX8_longestLate 20 = .ok (.invokevirtual 119, 3) := by decide +kernel
theorem dX8_longestLate_23 : decode cX8_longestLate 23 = .ok (.checkcast 138, 3) := by decide +kernel
theorem dX8_longestLate_26 : decode cX8_longestLate 26 = .ok (.astore 4, 2) := by decide +kernel
theorem dX8_longestLate_28 : decode cX8_longestLate 28 = .ok (.aload 4, 2) := by decide +kernel
theorem dX8_longestLate_30 : decode cX8_longestLate 30 = .ok (.getfield 319, 3) := by decide +kernel
theorem dX8_longestLate_33 : decode cX8_longestLate 33 = .ok (.ifCond .ne 39, 3) := by decide +kernel
theorem dX8_longestLate_36 : decode cX8_longestLate 36 = .ok (.aload 4, 2) := by decide +kernel
theorem dX8_longestLate_38 : decode cX8_longestLate 38 = .ok (.getfield 175, 3) := by decide +kernel
theorem dX8_longestLate_41 : decode cX8_longestLate 41 = .ok (.aload_n 1, 1) := by decide +kernel
theorem dX8_longestLate_42 : decode cX8_longestLate 42 = .ok (.if_acmp .ne 30, 3) := by decide +kernel
theorem dX8_longestLate_45 : decode cX8_longestLate 45 = .ok (.aload 4, 2) := by decide +kernel
theorem dX8_longestLate_47 : decode cX8_longestLate 47 = .ok (.getfield 292, 3) := by decide +kernel
theorem dX8_longestLate_50 : decode cX8_longestLate 50 = .ok (.ifCond .eq 22, 3) := by decide +kernel
theorem dX8_longestLate_53 : decode cX8_longestLate 53 = .ok (.aload_n 2, 1) := by decide +kernel
theorem dX8_longestLate_54 : decode cX8_longestLate 54 = .ok (.ifnull 15, 3) := by decide +kernel
theorem dX8_longestLate_57 : decode cX8_longestLate 57 = .ok (.aload 4, 2) := by decide +kernel
theorem dX8_longestLate_59 : decode cX8_longestLate 59 = .ok (.getfield 349, 3) := by decide +kernel
theorem dX8_longestLate_62 : decode cX8_longestLate 62 = .ok (.aload_n 2, 1) := by decide +kernel
theorem dX8_longestLate_63 : decode cX8_longestLate 63 = .ok (.getfield 349, 3) := by decide +kernel
theorem dX8_longestLate_66 : decode cX8_longestLate 66 = .ok (.if_icmp .ge 6, 3) := by decide +kernel
theorem dX8_longestLate_69 : decode cX8_longestLate 69 = .ok (.aload 4, 2) := by decide +kernel
theorem dX8_longestLate_71 : decode cX8_longestLate 71 = .ok (.astore_n 2, 1) := by decide +kernel
theorem dX8_longestLate_72 : decode cX8_longestLate 72 = .ok (.iinc 3 1, 3) := by decide +kernel
theorem dX8_longestLate_75 : decode cX8_longestLate 75 = .ok (.goto (-71), 3) := by decide +kernel
theorem dX8_longestLate_78 : decode cX8_longestLate 78 = .ok (.aload_n 2, 1) := by decide +kernel
theorem dX8_longestLate_79 : decode cX8_longestLate 79 = .ok (.areturn, 1) := by decide +kernel
theorem dX8_firstWithMore_0 : decode cX8_firstWithMore 0 = .ok (.iconst 0, 1) := by decide +kernel
theorem dX8_firstWithMore_1 : decode cX8_firstWithMore 1 = .ok (.istore_n 2, 1) := by decide +kernel
theorem dX8_firstWithMore_2 : decode cX8_firstWithMore 2 = .ok (.iload_n 2, 1) := by decide +kernel
theorem dX8_firstWithMore_3 : decode cX8_firstWithMore 3 = .ok (.aload_n 0, 1) := by decide +kernel
theorem dX8_firstWithMore_4 : decode cX8_firstWithMore 4 = .ok (.getfield 22, 3) := by decide +kernel
theorem dX8_firstWithMore_7 : decode cX8_firstWithMore 7 = .ok (.invokevirtual 59, 3) := by decide +kernel
theorem dX8_firstWithMore_10 : decode cX8_firstWithMore 10 = .ok (.if_icmp .ge 52, 3) := by decide +kernel
theorem dX8_firstWithMore_13 : decode cX8_firstWithMore 13 = .ok (.aload_n 0, 1) := by decide +kernel
theorem dX8_firstWithMore_14 : decode cX8_firstWithMore 14 = .ok (.getfield 22, 3) := by decide +kernel
theorem dX8_firstWithMore_17 : decode cX8_firstWithMore 17 = .ok (.iload_n 2, 1) := by decide +kernel
theorem dX8_firstWithMore_18 : decode cX8_firstWithMore 18 = .ok (.invokevirtual 119, 3) := by decide +kernel
theorem dX8_firstWithMore_21 : decode cX8_firstWithMore 21 = .ok (.checkcast 138, 3) := by decide +kernel
theorem dX8_firstWithMore_24 : decode cX8_firstWithMore 24 = .ok (.astore_n 3, 1) := by decide +kernel
theorem dX8_firstWithMore_25 : decode cX8_firstWithMore 25 = .ok (.aload_n 3, 1) := by decide +kernel
theorem dX8_firstWithMore_26 : decode cX8_firstWithMore 26 = .ok (.getfield 319, 3) := by decide +kernel
theorem dX8_firstWithMore_29 : decode cX8_firstWithMore 29 = .ok (.ifCond .ne 27, 3) := by decide +kernel
theorem dX8_firstWithMore_32 : decode cX8_firstWithMore 32 = .ok (.aload_n 3, 1) := by decide +kernel
theorem dX8_firstWithMore_33 : decode cX8_firstWithMore 33 = .ok (.getfield 175, 3) := by decide +kernel
theorem dX8_firstWithMore_36 : decode cX8_firstWithMore 36 = .ok (.aload_n 1, 1) := by decide +kernel
theorem dX8_firstWithMore_37 : decode cX8_firstWithMore 37 = .ok (.if_acmp .ne 19, 3) := by decide +kernel
theorem dX8_firstWithMore_40 : decode cX8_firstWithMore 40 = .ok (.aload_n 3, 1) := by decide +kernel
theorem dX8_firstWithMore_41 : decode cX8_firstWithMore 41 = .ok (.getfield 348, 3) := by decide +kernel
theorem dX8_firstWithMore_44 : decode cX8_firstWithMore 44 = .ok (.ifCond .eq 12, 3) := by decide +kernel
theorem dX8_firstWithMore_47 : decode cX8_firstWithMore 47 = .ok (.aload_n 3, 1) := by decide +kernel
theorem dX8_firstWithMore_48 : decode cX8_firstWithMore 48 = .ok (.invokevirtual 297, 3) := by decide +kernel
theorem dX8_firstWithMore_51 : decode cX8_firstWithMore 51 = .ok (.ifCond .eq 5, 3) := by decide +kernel
theorem dX8_firstWithMore_54 : decode cX8_firstWithMore 54 = .ok (.aload_n 3, 1) := by decide +kernel
theorem dX8_firstWithMore_55 : decode cX8_firstWithMore 55 = .ok (.areturn, 1) := by decide +kernel
theorem dX8_firstWithMore_56 : decode cX8_firstWithMore 56 = .ok (.iinc 2 1, 3) := by decide +kernel
theorem dX8_firstWithMore_59 : decode cX8_firstWithMore 59 = .ok (.goto (-57), 3) := by decide +kernel
theorem dX8_firstWithMore_62 : decode cX8_firstWithMore 62 = .ok (.aconst_null, 1) := by decide +kernel
theorem dX8_firstWithMore_63 : decode cX8_firstWithMore 63 = .ok (.areturn, 1) := by decide +kernel
theorem dX9_init_0 : decode cX9_init 0 = .ok (.aload_n 0, 1) := by decide +kernel
theorem dX9_init_1 : decode cX9_init 1 = .ok (.invokespecial 1, 3) := by decide +kernel
theorem dX9_init_4 : decode cX9_init 4 = .ok (.aload_n 0, 1) := by decide +kernel
theorem dX9_init_5 : decode cX9_init 5 = .ok (.bipush 40, 2) := by decide +kernel
theorem dX9_init_7 : decode cX9_init 7 = .ok (.newarray .int, 2) := by decide +kernel
theorem dX9_init_9 : decode cX9_init 9 = .ok (.putfield 7, 3) := by decide +kernel
theorem dX9_init_12 : decode cX9_init 12 = .ok (.aload_n 0, 1) := by decide +kernel
theorem dX9_init_13 : decode cX9_init 13 = .ok (.bipush 40, 2) := by decide +kernel
theorem dX9_init_15 : decode cX9_init 15 = .ok (.newarray .long, 2) := by decide +kernel
theorem dX9_init_17 : decode cX9_init 17 = .ok (.putfield 13, 3) := by decide +kernel
theorem dX9_init_20 : decode cX9_init 20 = .ok (.aload_n 0, 1) := by decide +kernel
theorem dX9_init_21 : decode cX9_init 21 = .ok (.bipush 100, 2) := by decide +kernel
theorem dX9_init_23 : decode cX9_init 23 = .ok (.newarray .int, 2) := by decide +kernel
theorem dX9_init_25 : decode cX9_init 25 = .ok (.putfield 17, 3) := by decide +kernel
theorem dX9_init_28 : decode cX9_init 28 = .ok (.aload_n 0, 1) := by decide +kernel
theorem dX9_init_29 : decode cX9_init 29 = .ok (.bipush 100, 2) := by decide +kernel
theorem dX9_init_31 : decode cX9_init 31 = .ok (.newarray .int, 2) := by decide +kernel
theorem dX9_init_33 : decode cX9_init 33 = .ok (.putfield 20, 3) := by decide +kernel
theorem dX9_init_36 : decode cX9_init 36 = .ok (.aload_n 0, 1) := by decide +kernel
theorem dX9_init_37 : decode cX9_init 37 = .ok (.bipush 100, 2) := by decide +kernel
theorem dX9_init_39 : decode cX9_init 39 = .ok (.newarray .int, 2) := by decide +kernel
theorem dX9_init_41 : decode cX9_init 41 = .ok (.putfield 23, 3) := by decide +kernel
theorem dX9_init_44 : decode cX9_init 44 = .ok (.aload_n 0, 1) := by decide +kernel
theorem dX9_init_45 : decode cX9_init 45 = .ok (.bipush 12, 2) := by decide +kernel
theorem dX9_init_47 : decode cX9_init 47 = .ok (.newarray .int, 2) := by decide +kernel
theorem dX9_init_49 : decode cX9_init 49 = .ok (.putfield 26, 3) := by decide +kernel
theorem dX9_init_52 : decode cX9_init 52 = .ok (.aload_n 0, 1) := by decide +kernel
theorem dX9_init_53 : decode cX9_init 53 = .ok (.bipush 12, 2) := by decide +kernel
theorem dX9_init_55 : decode cX9_init 55 = .ok (.newarray .int, 2) := by decide +kernel
theorem dX9_init_57 : decode cX9_init 57 = .ok (.putfield 29, 3) := by decide +kernel
theorem dX9_init_60 : decode cX9_init 60 = .ok (.aload_n 0, 1) := by decide +kernel
theorem dX9_init_61 : decode cX9_init 61 = .ok (.bipush 12, 2) := by decide +kernel
theorem dX9_init_63 : decode cX9_init 63 = .ok (.newarray .int, 2) := by decide +kernel
theorem dX9_init_65 : decode cX9_init 65 = .ok (.putfield 32, 3) := by decide +kernel
theorem dX9_init_68 : decode cX9_init 68 = .ok (.aload_n 0, 1) := by decide +kernel
theorem dX9_init_69 : decode cX9_init 69 = .ok (.bipush 12, 2) := by decide +kernel
theorem dX9_init_71 : decode cX9_init 71 = .ok (.newarray .int, 2) := by decide +kernel
theorem dX9_init_73 : decode cX9_init 73 = .ok (.putfield 35, 3) := by decide +kernel
theorem dX9_init_76 : decode cX9_init 76 = .ok (.aload_n 0, 1) := by decide +kernel
theorem dX9_init_77 : decode cX9_init 77 = .ok (.bipush 12, 2) := by decide +kernel
theorem dX9_init_79 : decode cX9_init 79 = .ok (.newarray .int, 2) := by decide +kernel
theorem dX9_init_81 : decode cX9_init 81 = .ok (.putfield 38, 3) := by decide +kernel
theorem dX9_init_84 : decode cX9_init 84 = .ok (.aload_n 0, 1) := by decide +kernel
theorem dX9_init_85 : decode cX9_init 85 = .ok (.sipush 14400, 3) := by decide +kernel
theorem dX9_init_88 : decode cX9_init 88 = .ok (.newarray .int, 2) := by decide +kernel
theorem dX9_init_90 : decode cX9_init 90 = .ok (.putfield 41, 3) := by decide +kernel
theorem dX9_init_93 : decode cX9_init 93 = .ok (.aload_n 0, 1) := by decide +kernel
theorem dX9_init_94 : decode cX9_init 94 = .ok (.bipush 20, 2) := by decide +kernel
theorem dX9_init_96 : decode cX9_init 96 = .ok (.newarray .boolean, 2) := by decide +kernel
theorem dX9_init_98 : decode cX9_init 98 = .ok (.putfield 44, 3) := by decide +kernel
theorem dX9_init_101 : decode cX9_init 101 = .ok (.aload_n 0, 1) := by decide +kernel
theorem dX9_init_102 : decode cX9_init 102 = .ok (.bipush 20, 2) := by decide +kernel
theorem dX9_init_104 : decode cX9_init 104 = .ok (.newarray .int, 2) := by decide +kernel
theorem dX9_init_106 : decode cX9_init 106 = .ok (.putfield 48, 3) := by decide +kernel
theorem dX9_init_109 : decode cX9_init 109 = .ok (.aload_n 0, 1) := by decide +kernel
theorem dX9_init_110 : decode cX9_init 110 = .ok (.bipush 20, 2) := by decide +kernel
theorem dX9_init_112 : decode cX9_init 112 = .ok (.newarray .int, 2) := by decide +kernel
theorem dX9_init_114 : decode cX9_init 114 = .ok (.putfield 51, 3) := by decide +kernel
theorem dX9_init_117 : decode cX9_init 117 = .ok (.aload_n 0, 1) := by decide +kernel
theorem dX9_init_118 : decode cX9_init 118 = .ok (.bipush 20, 2) := by decide +kernel
theorem dX9_init_120 : decode cX9_init 120 = .ok (.newarray .int, 2) := by decide +kernel
theorem dX9_init_122 : decode cX9_init 122 = .ok (.putfield 54, 3) := by decide +kernel
theorem dX9_init_125 : decode cX9_init 125 = .ok (.aload_n 0, 1) := by decide +kernel
theorem dX9_init_126 : decode cX9_init 126 = .ok (.bipush 20, 2) := by decide +kernel
theorem dX9_init_128 : decode cX9_init 128 = .ok (.newarray .int, 2) := by decide +kernel
theorem dX9_init_130 : decode cX9_init 130 = .ok (.putfield 57, 3) := by decide +kernel
theorem dX9_init_133 : decode cX9_init 133 = .ok (.aload_n 0, 1) := by decide +kernel
theorem dX9_init_134 : decode cX9_init 134 = .ok (.bipush 20, 2) := by decide +kernel
theorem dX9_init_136 : decode cX9_init 136 = .ok (.newarray .int, 2) := by decide +kernel
theorem dX9_init_138 : decode cX9_init 138 = .ok (.putfield 60, 3) := by decide +kernel
theorem dX9_init_141 : decode cX9_init 141 = .ok (.aload_n 0, 1) := by decide +kernel
theorem dX9_init_142 : decode cX9_init 142 = .ok (.bipush 20, 2) := by decide +kernel
theorem dX9_init_144 : decode cX9_init 144 = .ok (.newarray .int, 2) := by decide +kernel
theorem dX9_init_146 : decode cX9_init 146 = .ok (.putfield 63, 3) := by decide +kernel
theorem dX9_init_149 : decode cX9_init 149 = .ok (.aload_n 0, 1) := by decide +kernel
theorem dX9_init_150 : decode cX9_init 150 = .ok (.bipush 20, 2) := by decide +kernel
theorem dX9_init_152 : decode cX9_init 152 = .ok (.newarray .boolean, 2) := by decide +kernel
theorem dX9_init_154 : decode cX9_init 154 = .ok (.putfield 66, 3) := by decide +kernel
theorem dX9_init_157 : decode cX9_init 157 = .ok (.aload_n 0, 1) := by decide +kernel
theorem dX9_init_158 : decode cX9_init 158 = .ok (.bipush 20, 2) := by decide +kernel
theorem dX9_init_160 : decode cX9_init 160 = .ok (.newarray .int, 2) := by decide +kernel
theorem dX9_init_162 : decode cX9_init 162 = .ok (.putfield 69, 3) := by decide +kernel
theorem dX9_init_165 : decode cX9_init 165 = .ok (.aload_n 0, 1) := by decide +kernel
theorem dX9_init_166 : decode cX9_init 166 = .ok (.bipush 20, 2) := by decide +kernel
theorem dX9_init_168 : decode cX9_init 168 = .ok (.newarray .int, 2) := by decide +kernel
theorem dX9_init_170 : decode cX9_init 170 = .ok (.putfield 72, 3) := by decide +kernel
theorem dX9_init_173 : decode cX9_init 173 = .ok (.aload_n 0, 1) := by decide +kernel
theorem dX9_init_174 : decode cX9_init 174 = .ok (.bipush 20, 2) := by decide +kernel
theorem dX9_init_176 : decode cX9_init 176 = .ok (.newarray .int, 2) := by decide +kernel
theorem dX9_init_178 : decode cX9_init 178 = .ok (.putfield 75, 3) := by decide +kernel
theorem dX9_init_181 : decode cX9_init 181 = .ok (.aload_n 0, 1) := by decide +kernel
theorem dX9_init_182 : decode cX9_init 182 = .ok (.bipush 20, 2) := by decide +kernel
theorem dX9_init_184 : decode cX9_init 184 = .ok (.newarray .boolean, 2) := by decide +kernel
theorem dX9_init_186 : decode cX9_init 186 = .ok (.putfield 78, 3) := by decide +kernel
theorem dX9_init_189 : decode cX9_init 189 = .ok (.aload_n 0, 1) := by decide +kernel
theorem dX9_init_190 : decode cX9_init 190 = .ok (.bipush 20, 2) := by decide +kernel
theorem dX9_init_192 : decode cX9_init 192 = .ok (.newarray .boolean, 2) := by decide +kernel
theorem dX9_init_194 : decode cX9_init 194 = .ok (.putfield 81, 3) := by decide +kernel
theorem dX9_init_197 : decode cX9_init 197 = .ok (.aload_n 0, 1) := by decide +kernel
theorem dX9_init_198 : decode cX9_init 198 = .ok (.bipush 20, 2) := by decide +kernel
theorem dX9_init_200 : decode cX9_init 200 = .ok (.newarray .int, 2) := by decide +kernel
theorem dX9_init_202 : decode cX9_init 202 = .ok (.putfield 84, 3) := by decide +kernel
theorem dX9_init_205 : decode cX9_init 205 = .ok (.aload_n 0, 1) := by decide +kernel
theorem dX9_init_206 : decode cX9_init 206 = .ok (.bipush 20, 2) := by decide +kernel
theorem dX9_init_208 : decode cX9_init 208 = .ok (.newarray .boolean, 2) := by decide +kernel
theorem dX9_init_210 : decode cX9_init 210 = .ok (.putfield 87, 3) := by decide +kernel
theorem dX9_init_213 : decode cX9_init 213 = .ok (.aload_n 0, 1) := by decide +kernel
theorem dX9_init_214 : decode cX9_init 214 = .ok (.bipush 60, 2) := by decide +kernel
theorem dX9_init_216 : decode cX9_init 216 = .ok (.newarray .boolean, 2) := by decide +kernel
theorem dX9_init_218 : decode cX9_init 218 = .ok (.putfield 90, 3) := by decide +kernel
theorem dX9_init_221 : decode cX9_init 221 = .ok (.aload_n 0, 1) := by decide +kernel
theorem dX9_init_222 : decode cX9_init 222 = .ok (.bipush 60, 2) := by decide +kernel
theorem dX9_init_224 : decode cX9_init 224 = .ok (.newarray .int, 2) := by decide +kernel
theorem dX9_init_226 : decode cX9_init 226 = .ok (.putfield 93, 3) := by decide +kernel
theorem dX9_init_229 : decode cX9_init 229 = .ok (.aload_n 0, 1) := by decide +kernel
theorem dX9_init_230 : decode cX9_init 230 = .ok (.bipush 60, 2) := by decide +kernel
theorem dX9_init_232 : decode cX9_init 232 = .ok (.newarray .int, 2) := by decide +kernel
theorem dX9_init_234 : decode cX9_init 234 = .ok (.putfield 96, 3) := by decide +kernel
theorem dX9_init_237 : decode cX9_init 237 = .ok (.aload_n 0, 1) := by decide +kernel
theorem dX9_init_238 : decode cX9_init 238 = .ok (.bipush 60, 2) := by decide +kernel
theorem dX9_init_240 : decode cX9_init 240 = .ok (.newarray .int, 2) := by decide +kernel
theorem dX9_init_242 : decode cX9_init 242 = .ok (.putfield 99, 3) := by decide +kernel
theorem dX9_init_245 : decode cX9_init 245 = .ok (.aload_n 0, 1) := by decide +kernel
theorem dX9_init_246 : decode cX9_init 246 = .ok (.bipush 60, 2) := by decide +kernel
theorem dX9_init_248 : decode cX9_init 248 = .ok (.newarray .int, 2) := by decide +kernel
theorem dX9_init_250 : decode cX9_init 250 = .ok (.putfield 102, 3) := by decide +kernel
theorem dX9_init_253 : decode cX9_init 253 = .ok (.aload_n 0, 1) := by decide +kernel
theorem dX9_init_254 : decode cX9_init 254 = .ok (.bipush 60, 2) := by decide +kernel
theorem dX9_init_256 : decode cX9_init 256 = .ok (.newarray .int, 2) := by decide +kernel
theorem dX9_init_258 : decode cX9_init 258 = .ok (.putfield 105, 3) := by decide +kernel
theorem dX9_init_261 : decode cX9_init 261 = .ok (.aload_n 0, 1) := by decide +kernel
theorem dX9_init_262 : decode cX9_init 262 = .ok (.bipush 60, 2) := by decide +kernel
theorem dX9_init_264 : decode cX9_init 264 = .ok (.newarray .boolean, 2) := by decide +kernel
theorem dX9_init_266 : decode cX9_init 266 = .ok (.putfield 108, 3) := by decide +kernel
theorem dX9_init_269 : decode cX9_init 269 = .ok (.aload_n 0, 1) := by decide +kernel
theorem dX9_init_270 : decode cX9_init 270 = .ok (.bipush 60, 2) := by decide +kernel
theorem dX9_init_272 : decode cX9_init 272 = .ok (.newarray .int, 2) := by decide +kernel
theorem dX9_init_274 : decode cX9_init 274 = .ok (.putfield 111, 3) := by decide +kernel
theorem dX9_init_277 : decode cX9_init 277 = .ok (.aload_n 0, 1) := by decide +kernel
theorem dX9_init_278 : decode cX9_init 278 = .ok (.bipush 60, 2) := by decide +kernel
theorem dX9_init_280 : decode cX9_init 280 = .ok (.newarray .long, 2) := by decide +kernel
theorem dX9_init_282 : decode cX9_init 282 = .ok (.putfield 114, 3) := by decide +kernel
theorem dX9_init_285 : decode cX9_init 285 = .ok (.aload_n 0, 1) := by decide +kernel
theorem dX9_init_286 : decode cX9_init 286 = .ok (.bipush 60, 2) := by decide +kernel
theorem dX9_init_288 : decode cX9_init 288 = .ok (.newarray .boolean, 2) := by decide +kernel
theorem dX9_init_290 : decode cX9_init 290 = .ok (.putfield 117, 3) := by decide +kernel
theorem dX9_init_293 : decode cX9_init 293 = .ok (.aload_n 0, 1) := by decide +kernel
theorem dX9_init_294 : decode cX9_init 294 = .ok (.bipush 60, 2) := by decide +kernel
theorem dX9_init_296 : decode cX9_init 296 = .ok (.newarray .long, 2) := by decide +kernel
theorem dX9_init_298 : decode cX9_init 298 = .ok (.putfield 120, 3) := by decide +kernel
theorem dX9_init_301 : decode cX9_init 301 = .ok (.aload_n 0, 1) := by decide +kernel
theorem dX9_init_302 : decode cX9_init 302 = .ok (.bipush 60, 2) := by decide +kernel
theorem dX9_init_304 : decode cX9_init 304 = .ok (.newarray .int, 2) := by decide +kernel
theorem dX9_init_306 : decode cX9_init 306 = .ok (.putfield 123, 3) := by decide +kernel
theorem dX9_init_309 : decode cX9_init 309 = .ok (.aload_n 0, 1) := by decide +kernel
theorem dX9_init_310 : decode cX9_init 310 = .ok (.sipush 480, 3) := by decide +kernel
theorem dX9_init_313 : decode cX9_init 313 = .ok (.newarray .long, 2) := by decide +kernel
theorem dX9_init_315 : decode cX9_init 315 = .ok (.putfield 126, 3) := by decide +kernel
theorem dX9_init_318 : decode cX9_init 318 = .ok (.aload_n 0, 1) := by decide +kernel
theorem dX9_init_319 : decode cX9_init 319 = .ok (.sipush 480, 3) := by decide +kernel
theorem dX9_init_322 : decode cX9_init 322 = .ok (.newarray .int, 2) := by decide +kernel
theorem dX9_init_324 : decode cX9_init 324 = .ok (.putfield 129, 3) := by decide +kernel
theorem dX9_init_327 : decode cX9_init 327 = .ok (.aload_n 0, 1) := by decide +kernel
theorem dX9_init_328 : decode cX9_init 328 = .ok (.sipush 480, 3) := by decide +kernel
theorem dX9_init_331 : decode cX9_init 331 = .ok (.newarray .int, 2) := by decide +kernel
theorem dX9_init_333 : decode cX9_init 333 = .ok (.putfield 132, 3) := by decide +kernel
theorem dX9_init_336 : decode cX9_init 336 = .ok (.aload_n 0, 1) := by decide +kernel
theorem dX9_init_337 : decode cX9_init 337 = .ok (.sipush 900, 3) := by decide +kernel
theorem dX9_init_340 : decode cX9_init 340 = .ok (.newarray .int, 2) := by decide +kernel
theorem dX9_init_342 : decode cX9_init 342 = .ok (.putfield 135, 3) := by decide +kernel
theorem dX9_init_345 : decode cX9_init 345 = .ok (.aload_n 0, 1) := by decide +kernel
theorem dX9_init_346 : decode cX9_init 346 = .ok (.sipush 900, 3) := by decide +kernel
theorem dX9_init_349 : decode cX9_init 349 = .ok (.newarray .int, 2) := by decide +kernel
theorem dX9_init_351 : decode cX9_init 351 = .ok (.putfield 138, 3) := by decide +kernel
theorem dX9_init_354 : decode cX9_init 354 = .ok (.aload_n 0, 1) := by decide +kernel
theorem dX9_init_355 : decode cX9_init 355 = .ok (.sipush 900, 3) := by decide +kernel
theorem dX9_init_358 : decode cX9_init 358 = .ok (.newarray .int, 2) := by decide +kernel
theorem dX9_init_360 : decode cX9_init 360 = .ok (.putfield 141, 3) := by decide +kernel
theorem dX9_init_363 : decode cX9_init 363 = .ok (.aload_n 0, 1) := by decide +kernel
theorem dX9_init_364 : decode cX9_init 364 = .ok (.sipush 900, 3) := by decide +kernel
theorem dX9_init_367 : decode cX9_init 367 = .ok (.newarray .boolean, 2) := by decide +kernel
theorem dX9_init_369 : decode cX9_init 369 = .ok (.putfield 144, 3) := by decide +kernel
theorem dX9_init_372 : decode cX9_init 372 = .ok (.aload_n 0, 1) := by decide +kernel
theorem dX9_init_373 : decode cX9_init 373 = .ok (.sipush 900, 3) := by decide +kernel
theorem dX9_init_376 : decode cX9_init 376 = .ok (.newarray .int, 2) := by decide +kernel
theorem dX9_init_378 : decode cX9_init 378 = .ok (.putfield 147, 3) := by decide +kernel
theorem dX9_init_381 : decode cX9_init 381 = .ok (.aload_n 0, 1) := by decide +kernel
theorem dX9_init_382 : decode cX9_init 382 = .ok (.sipush 900, 3) := by decide +kernel
theorem dX9_init_385 : decode cX9_init 385 = .ok (.newarray .boolean, 2) := by decide +kernel
theorem dX9_init_387 : decode cX9_init 387 = .ok (.putfield 150, 3) := by decide +kernel
theorem dX9_init_390 : decode cX9_init 390 = .ok (.aload_n 0, 1) := by decide +kernel
theorem dX9_init_391 : decode cX9_init 391 = .ok (.ldc 153, 2) := by decide +kernel
theorem dX9_init_393 : decode cX9_init 393 = .ok (.newarray .long, 2) := by decide +kernel
theorem dX9_init_395 : decode cX9_init 395 = .ok (.putfield 154, 3) := by decide +kernel
theorem dX9_init_398 : decode cX9_init 398 = .ok (.aload_n 0, 1) := by decide +kernel
theorem dX9_init_399 : decode cX9_init 399 = .ok (.ldc 153, 2) := by decide +kernel
theorem dX9_init_401 : decode cX9_init 401 = .ok (.newarray .int, 2) := by decide +kernel
theorem dX9_init_403 : decode cX9_init 403 = .ok (.putfield 157, 3) := by decide +kernel
theorem dX9_init_406 : decode cX9_init 406 = .ok (.aload_n 0, 1) := by decide +kernel
theorem dX9_init_407 : decode cX9_init 407 = .ok (.ldc 153, 2) := by decide +kernel
theorem dX9_init_409 : decode cX9_init 409 = .ok (.newarray .int, 2) := by decide +kernel
theorem dX9_init_411 : decode cX9_init 411 = .ok (.putfield 160, 3) := by decide +kernel
theorem dX9_init_414 : decode cX9_init 414 = .ok (.aload_n 0, 1) := by decide +kernel
theorem dX9_init_415 : decode cX9_init 415 = .ok (.ldc 153, 2) := by decide +kernel
theorem dX9_init_417 : decode cX9_init 417 = .ok (.newarray .int, 2) := by decide +kernel
theorem dX9_init_419 : decode cX9_init 419 = .ok (.putfield 163, 3) := by decide +kernel
theorem dX9_init_422 : decode cX9_init 422 = .ok (.aload_n 0, 1) := by decide +kernel
theorem dX9_init_423 : decode cX9_init 423 = .ok (.bipush 10, 2) := by decide +kernel
theorem dX9_init_425 : decode cX9_init 425 = .ok (.newarray .int, 2) := by decide +kernel
theorem dX9_init_427 : decode cX9_init 427 = .ok (.putfield 166, 3) := by decide +kernel
theorem dX9_init_430 : decode cX9_init 430 = .ok (.return_, 1) := by decide +kernel
theorem dX9_in_0 : decode cX9_in 0 = .ok (.lload_n 0, 1) := by decide +kernel
theorem dX9_in_1 : decode cX9_in 1 = .ok (.lload_n 2, 1) := by decide +kernel
theorem dX9_in_2 : decode cX9_in 2 = .ok (.lcmp, 1) := by decide +kernel
theorem dX9_in_3 : decode cX9_in 3 = .ok (.ifCond .lt 14, 3) := by decide +kernel
theorem dX9_in_6 : decode cX9_in 6 = .ok (.lload_n 0, 1) := by decide +kernel
theorem dX9_in_7 : decode cX9_in 7 = .ok (.lload 4, 2) := by decide +kernel
theorem dX9_in_9 : decode cX9_in 9 = .ok (.lcmp, 1) := by decide +kernel
theorem dX9_in_10 : decode cX9_in 10 = .ok (.ifCond .gt 7, 3) := by decide +kernel
theorem dX9_in_13 : decode cX9_in 13 = .ok (.iconst 1, 1) := by decide +kernel
theorem dX9_in_14 : decode cX9_in 14 = .ok (.goto 4, 3) := by decide +kernel
theorem dX9_in_17 : decode cX9_in 17 = .ok (.iconst 0, 1) := by decide +kernel
theorem dX9_in_18 : decode cX9_in 18 = .ok (.ireturn, 1) := by decide +kernel
theorem dX9_refuse_0 : decode cX9_refuse 0 = .ok (.aload_n 0, 1) := by decide +kernel
theorem dX9_refuse_1 : decode cX9_refuse 1 = .ok (.getfield 166, 3) := by decide +kernel
theorem dX9_refuse_4 : decode cX9_refuse 4 = .ok (.iload_n 1, 1) := by decide +kernel
theorem dX9_refuse_5 : decode cX9_refuse 5 = .ok (.ineg, 1) := by decide +kernel
theorem dX9_refuse_6 : decode cX9_refuse 6 = .ok (.dup2, 1) := by decide +kernel
theorem dX9_refuse_7 : decode cX9_refuse 7 = .ok (.iaload, 1) := by decide +kernel
theorem dX9_refuse_8 : decode cX9_refuse 8 = .ok (.iconst 1, 1) := by decide +kernel
theorem dX9_refuse_9 : decode cX9_refuse 9 = .ok (.iadd, 1) := by decide +kernel
theorem dX9_refuse_10 : decode cX9_refuse 10 = .ok (.iastore, 1) := by decide +kernel
theorem dX9_refuse_11 : decode cX9_refuse 11 = .ok (.iload_n 1, 1) := by decide +kernel
theorem dX9_refuse_12 : decode cX9_refuse 12 = .ok (.ireturn, 1) := by decide +kernel
theorem dX9_node_0 : decode cX9_node 0 = .ok (.iload_n 1, 1) := by decide +kernel
theorem dX9_node_1 : decode cX9_node 1 = .ok (.i2l, 1) := by decide +kernel
theorem dX9_node_2 : decode cX9_node 2 = .ok (.lconst 0, 1) := by decide +kernel
theorem dX9_node_3 : decode cX9_node 3 = .ok (.ldc2_w 169, 3) := by decide +kernel
theorem dX9_node_6 : decode cX9_node 6 = .ok (.invokestatic 171, 3) := by decide +kernel
theorem dX9_node_9 : decode cX9_node 9 = .ok (.ifCond .ne 10, 3) := by decide +kernel
theorem dX9_node_12 : decode cX9_node 12 = .ok (.aload_n 0, 1) := by decide +kernel
theorem dX9_node_13 : decode cX9_node 13 = .ok (.bipush (-7), 2) := by decide +kernel
theorem dX9_node_15 : decode cX9_node 15 = .ok (.invokevirtual 175, 3) := by decide +kernel
theorem dX9_node_18 : decode cX9_node 18 = .ok (.ireturn, 1) := by decide +kernel
theorem dX9_node_19 : decode cX9_node 19 = .ok (.aload_n 0, 1) := by decide +kernel
theorem dX9_node_20 : decode cX9_node 20 = .ok (.getfield 179, 3) := by decide +kernel
theorem dX9_node_23 : decode cX9_node 23 = .ok (.bipush 40, 2) := by decide +kernel
theorem dX9_node_25 : decode cX9_node 25 = .ok (.if_icmp .ne 10, 3) := by decide +kernel
theorem dX9_node_28 : decode cX9_node 28 = .ok (.aload_n 0, 1) := by decide +kernel
theorem dX9_node_29 : decode cX9_node 29 = .ok (.bipush (-8), 2) := by decide +kernel
theorem dX9_node_31 : decode cX9_node 31 = .ok (.invokevirtual 175, 3) := by decide +kernel
theorem dX9_node_34 : decode cX9_node 34 = .ok (.ireturn, 1) := by decide +kernel
theorem dX9_node_35 : decode cX9_node 35 = .ok (.aload_n 0, 1) := by decide +kernel
theorem dX9_node_36 : decode cX9_node 36 = .ok (.getfield 7, 3) := by decide +kernel
theorem dX9_node_39 : decode cX9_node 39 = .ok (.aload_n 0, 1) := by decide +kernel
theorem dX9_node_40 : decode cX9_node 40 = .ok (.getfield 179, 3) := by decide +kernel
theorem dX9_node_43 : decode cX9_node 43 = .ok (.iload_n 1, 1) := by decide +kernel
theorem dX9_node_44 : decode cX9_node 44 = .ok (.iastore, 1) := by decide +kernel
theorem dX9_node_45 : decode cX9_node 45 = .ok (.aload_n 0, 1) := by decide +kernel
theorem dX9_node_46 : decode cX9_node 46 = .ok (.dup, 1) := by decide +kernel
theorem dX9_node_47 : decode cX9_node 47 = .ok (.getfield 179, 3) := by decide +kernel
theorem dX9_node_50 : decode cX9_node 50 = .ok (.iconst 1, 1) := by decide +kernel
theorem dX9_node_51 : decode cX9_node 51 = .ok (.iadd, 1) := by decide +kernel
theorem dX9_node_52 : decode cX9_node 52 = .ok (.putfield 179, 3) := by decide +kernel
theorem dX9_node_55 : decode cX9_node 55 = .ok (.aload_n 0, 1) := by decide +kernel
theorem dX9_node_56 : decode cX9_node 56 = .ok (.getfield 179, 3) := by decide +kernel
theorem dX9_node_59 : decode cX9_node 59 = .ok (.iconst 1, 1) := by decide +kernel
theorem dX9_node_60 : decode cX9_node 60 = .ok (.isub, 1) := by decide +kernel
theorem dX9_node_61 : decode cX9_node 61 = .ok (.ireturn, 1) := by decide +kernel
theorem dX9_isNode_0 : decode cX9_isNode 0 = .ok (.iload_n 1, 1) := by decide +kernel
theorem dX9_isNode_1 : decode cX9_isNode 1 = .ok (.i2l, 1) := by decide +kernel
theorem dX9_isNode_2 : decode cX9_isNode 2 = .ok (.lconst 0, 1) := by decide +kernel
theorem dX9_isNode_3 : decode cX9_isNode 3 = .ok (.aload_n 0, 1) := by decide +kernel
theorem dX9_isNode_4 : decode cX9_isNode 4 = .ok (.getfield 179, 3) := by decide +kernel
theorem dX9_isNode_7 : decode cX9_isNode 7 = .ok (.iconst 1, 1) := by decide +kernel
theorem dX9_isNode_8 : decode cX9_isNode 8 = .ok (.isub, 1) := by decide +kernel
theorem dX9_isNode_9 : decode cX9_isNode 9 = .ok (.i2l, 1) := by decide +kernel
theorem dX9_isNode_10 : decode cX9_isNode 10 = .ok (.invokestatic 171, 3) := by decide +kernel
theorem dX9_isNode_13 : decode cX9_isNode 13 = .ok (.ireturn, 1) := by decide +kernel
theorem dX9_isVariable_0 : decode cX9_isVariable 0 = .ok (.aload_n 0, 1) := by decide +kernel
theorem dX9_isVariable_1 : decode cX9_isVariable 1 = .ok (.iload_n 1, 1) := by decide +kernel
theorem dX9_isVariable_2 : decode cX9_isVariable 2 = .ok (.invokevirtual 183, 3) := by decide +kernel
theorem dX9_isVariable_5 : decode cX9_isVariable 5 = .ok (.ifCond .eq 16, 3) := by decide +kernel
theorem dX9_isVariable_8 : decode cX9_isVariable 8 = .ok (.aload_n 0, 1) := by decide +kernel
theorem dX9_isVariable_9 : decode cX9_isVariable 9 = .ok (.getfield 7, 3) := by decide +kernel
theorem dX9_isVariable_12 : decode cX9_isVariable 12 = .ok (.iload_n 1, 1) := by decide +kernel
theorem dX9_isVariable_13 : decode cX9_isVariable 13 = .ok (.iaload, 1) := by decide +kernel
theorem dX9_isVariable_14 : decode cX9_isVariable 14 = .ok (.ifCond .le 7, 3) := by decide +kernel
theorem dX9_isVariable_17 : decode cX9_isVariable 17 = .ok (.iconst 1, 1) := by decide +kernel
theorem dX9_isVariable_18 : decode cX9_isVariable 18 = .ok (.goto 4, 3) := by decide +kernel
theorem dX9_isVariable_21 : decode cX9_isVariable 21 = .ok (.iconst 0, 1) := by decide +kernel
theorem dX9_isVariable_22 : decode cX9_isVariable 22 = .ok (.ireturn, 1) := by decide +kernel
theorem dX9_refer_0 : decode cX9_refer 0 = .ok (.aload_n 0, 1) := by decide +kernel
theorem dX9_refer_1 : decode cX9_refer 1 = .ok (.iload_n 1, 1) := by decide +kernel
theorem dX9_refer_2 : decode cX9_refer 2 = .ok (.invokevirtual 183, 3) := by decide +kernel
theorem dX9_refer_5 : decode cX9_refer 5 = .ok (.ifCond .eq 11, 3) := by decide +kernel
theorem dX9_refer_8 : decode cX9_refer 8 = .ok (.aload_n 0, 1) := by decide +kernel
theorem dX9_refer_9 : decode cX9_refer 9 = .ok (.iload_n 2, 1) := by decide +kernel
theorem dX9_refer_10 : decode cX9_refer 10 = .ok (.invokevirtual 183, 3) := by decide +kernel
theorem dX9_refer_13 : decode cX9_refer 13 = .ok (.ifCond .ne 10, 3) := by decide +kernel
theorem dX9_refer_16 : decode cX9_refer 16 = .ok (.aload_n 0, 1) := by decide +kernel
theorem dX9_refer_17 : decode cX9_refer 17 = .ok (.bipush (-4), 2) := by decide +kernel
theorem dX9_refer_19 : decode cX9_refer 19 = .ok (.invokevirtual 175, 3) := by decide +kernel
theorem dX9_refer_22 : decode cX9_refer 22 = .ok (.ireturn, 1) := by decide +kernel
theorem dX9_refer_23 : decode cX9_refer 23 = .ok (.iload_n 3, 1) := by decide +kernel
theorem dX9_refer_24 : decode cX9_refer 24 = .ok (.i2l, 1) := by decide +kernel
theorem dX9_refer_25 : decode cX9_refer 25 = .ok (.lconst 0, 1) := by decide +kernel
theorem dX9_refer_26 : decode cX9_refer 26 = .ok (.ldc2_w 187, 3) := by decide +kernel
theorem dX9_refer_29 : decode cX9_refer 29 = .ok (.invokestatic 171, 3) := by decide +kernel
theorem dX9_refer_32 : decode cX9_refer 32 = .ok (.ifCond .ne 10, 3) := by decide +kernel
theorem dX9_refer_35 : decode cX9_refer 35 = .ok (.aload_n 0, 1) := by decide +kernel
theorem dX9_refer_36 : decode cX9_refer 36 = .ok (.bipush (-7), 2) := by decide +kernel
theorem dX9_refer_38 : decode cX9_refer 38 = .ok (.invokevirtual 175, 3) := by decide +kernel
theorem dX9_refer_41 : decode cX9_refer 41 = .ok (.ireturn, 1) := by decide +kernel
theorem dX9_refer_42 : decode cX9_refer 42 = .ok (.aload_n 0, 1) := by decide +kernel
theorem dX9_refer_43 : decode cX9_refer 43 = .ok (.getfield 189, 3) := by decide +kernel
theorem dX9_refer_46 : decode cX9_refer 46 = .ok (.bipush 100, 2) := by decide +kernel
theorem dX9_refer_48 : decode cX9_refer 48 = .ok (.if_icmp .ne 10, 3) := by decide +kernel
theorem dX9_refer_51 : decode cX9_refer 51 = .ok (.aload_n 0, 1) := by decide +kernel
theorem dX9_refer_52 : decode cX9_refer 52 = .ok (.bipush (-8), 2) := by decide +kernel
theorem dX9_refer_54 : decode cX9_refer 54 = .ok (.invokevirtual 175, 3) := by decide +kernel
theorem dX9_refer_57 : decode cX9_refer 57 = .ok (.ireturn, 1) := by decide +kernel
theorem dX9_refer_58 : decode cX9_refer 58 = .ok (.aload_n 0, 1) := by decide +kernel
theorem dX9_refer_59 : decode cX9_refer 59 = .ok (.getfield 17, 3) := by decide +kernel
theorem dX9_refer_62 : decode cX9_refer 62 = .ok (.aload_n 0, 1) := by decide +kernel
theorem dX9_refer_63 : decode cX9_refer 63 = .ok (.getfield 189, 3) := by decide +kernel
theorem dX9_refer_66 : decode cX9_refer 66 = .ok (.iload_n 1, 1) := by decide +kernel
theorem dX9_refer_67 : decode cX9_refer 67 = .ok (.iastore, 1) := by decide +kernel
theorem dX9_refer_68 : decode cX9_refer 68 = .ok (.aload_n 0, 1) := by decide +kernel
theorem dX9_refer_69 : decode cX9_refer 69 = .ok (.getfield 20, 3) := by decide +kernel
theorem dX9_refer_72 : decode cX9_refer 72 = .ok (.aload_n 0, 1) := by decide +kernel
theorem dX9_refer_73 : decode cX9_refer 73 = .ok (.getfield 189, 3) := by decide +kernel
theorem dX9_refer_76 : decode cX9_refer 76 = .ok (.iload_n 2, 1) := by decide +kernel
theorem dX9_refer_77 : decode cX9_refer 77 = .ok (.iastore, 1) := by decide +kernel
theorem dX9_refer_78 : decode cX9_refer 78 = .ok (.aload_n 0, 1) := by decide +kernel
theorem dX9_refer_79 : decode cX9_refer 79 = .ok (.getfield 23, 3) := by decide +kernel
theorem dX9_refer_82 : decode cX9_refer 82 = .ok (.aload_n 0, 1) := by decide +kernel
theorem dX9_refer_83 : decode cX9_refer 83 = .ok (.getfield 189, 3) := by decide +kernel
theorem dX9_refer_86 : decode cX9_refer 86 = .ok (.iload_n 3, 1) := by decide +kernel
theorem dX9_refer_87 : decode cX9_refer 87 = .ok (.iastore, 1) := by decide +kernel
theorem dX9_refer_88 : decode cX9_refer 88 = .ok (.aload_n 0, 1) := by decide +kernel
theorem dX9_refer_89 : decode cX9_refer 89 = .ok (.dup, 1) := by decide +kernel
theorem dX9_refer_90 : decode cX9_refer 90 = .ok (.getfield 189, 3) := by decide +kernel
theorem dX9_refer_93 : decode cX9_refer 93 = .ok (.iconst 1, 1) := by decide +kernel
theorem dX9_refer_94 : decode cX9_refer 94 = .ok (.iadd, 1) := by decide +kernel
theorem dX9_refer_95 : decode cX9_refer 95 = .ok (.putfield 189, 3) := by decide +kernel
theorem dX9_refer_98 : decode cX9_refer 98 = .ok (.aload_n 0, 1) := by decide +kernel
theorem dX9_refer_99 : decode cX9_refer 99 = .ok (.getfield 189, 3) := by decide +kernel
theorem dX9_refer_102 : decode cX9_refer 102 = .ok (.iconst 1, 1) := by decide +kernel
theorem dX9_refer_103 : decode cX9_refer 103 = .ok (.isub, 1) := by decide +kernel
theorem dX9_refer_104 : decode cX9_refer 104 = .ok (.ireturn, 1) := by decide +kernel
theorem dX9_change_0 : decode cX9_change 0 = .ok (.aload_n 0, 1) := by decide +kernel
theorem dX9_change_1 : decode cX9_change 1 = .ok (.iload_n 1, 1) := by decide +kernel
theorem dX9_change_2 : decode cX9_change 2 = .ok (.invokevirtual 192, 3) := by decide +kernel
theorem dX9_change_5 : decode cX9_change 5 = .ok (.ifCond .ne 10, 3) := by decide +kernel
theorem dX9_change_8 : decode cX9_change 8 = .ok (.aload_n 0, 1) := by decide +kernel
theorem dX9_change_9 : decode cX9_change 9 = .ok (.bipush (-4), 2) := by decide +kernel
theorem dX9_change_11 : decode cX9_change 11 = .ok (.invokevirtual 175, 3) := by decide +kernel
theorem dX9_change_14 : decode cX9_change 14 = .ok (.ireturn, 1) := by decide +kernel
theorem dX9_change_15 : decode cX9_change 15 = .ok (.aload_n 0, 1) := by decide +kernel
theorem dX9_change_16 : decode cX9_change 16 = .ok (.getfield 13, 3) := by decide +kernel
theorem dX9_change_19 : decode cX9_change 19 = .ok (.iload_n 1, 1) := by decide +kernel
theorem dX9_change_20 : decode cX9_change 20 = .ok (.lload_n 2, 1) := by decide +kernel
theorem dX9_change_21 : decode cX9_change 21 = .ok (.lastore, 1) := by decide +kernel
theorem dX9_change_22 : decode cX9_change 22 = .ok (.iconst 1, 1) := by decide +kernel
theorem dX9_change_23 : decode cX9_change 23 = .ok (.ireturn, 1) := by decide +kernel
theorem dX9_sample_0 : decode cX9_sample 0 = .ok (.aload_n 0, 1) := by decide +kernel
theorem dX9_sample_1 : decode cX9_sample 1 = .ok (.getfield 13, 3) := by decide +kernel
theorem dX9_sample_4 : decode cX9_sample 4 = .ok (.aload_n 0, 1) := by decide +kernel
theorem dX9_sample_5 : decode cX9_sample 5 = .ok (.getfield 96, 3) := by decide +kernel
theorem dX9_sample_8 : decode cX9_sample 8 = .ok (.iload_n 1, 1) := by decide +kernel
theorem dX9_sample_9 : decode cX9_sample 9 = .ok (.iaload, 1) := by decide +kernel
theorem dX9_sample_10 : decode cX9_sample 10 = .ok (.laload, 1) := by decide +kernel
theorem dX9_sample_11 : decode cX9_sample 11 = .ok (.lstore_n 2, 1) := by decide +kernel
theorem dX9_sample_12 : decode cX9_sample 12 = .ok (.lload_n 2, 1) := by decide +kernel
theorem dX9_sample_13 : decode cX9_sample 13 = .ok (.aload_n 0, 1) := by decide +kernel
theorem dX9_sample_14 : decode cX9_sample 14 = .ok (.getfield 120, 3) := by decide +kernel
theorem dX9_sample_17 : decode cX9_sample 17 = .ok (.iload_n 1, 1) := by decide +kernel
theorem dX9_sample_18 : decode cX9_sample 18 = .ok (.laload, 1) := by decide +kernel
theorem dX9_sample_19 : decode cX9_sample 19 = .ok (.lcmp, 1) := by decide +kernel
theorem dX9_sample_20 : decode cX9_sample 20 = .ok (.ifCond .le 14, 3) := by decide +kernel
theorem dX9_sample_23 : decode cX9_sample 23 = .ok (.lload_n 2, 1) := by decide +kernel
theorem dX9_sample_24 : decode cX9_sample 24 = .ok (.aload_n 0, 1) := by decide +kernel
theorem dX9_sample_25 : decode cX9_sample 25 = .ok (.getfield 120, 3) := by decide +kernel
theorem dX9_sample_28 : decode cX9_sample 28 = .ok (.iload_n 1, 1) := by decide +kernel
theorem dX9_sample_29 : decode cX9_sample 29 = .ok (.laload, 1) := by decide +kernel
theorem dX9_sample_30 : decode cX9_sample 30 = .ok (.lsub, 1) := by decide +kernel
theorem dX9_sample_31 : decode cX9_sample 31 = .ok (.goto 11, 3) := by decide +kernel
theorem dX9_sample_34 : decode cX9_sample 34 = .ok (.aload_n 0, 1) := by decide +kernel
theorem dX9_sample_35 : decode cX9_sample 35 = .ok (.getfield 120, 3) := by decide +kernel
theorem dX9_sample_38 : decode cX9_sample 38 = .ok (.iload_n 1, 1) := by decide +kernel
theorem dX9_sample_39 : decode cX9_sample 39 = .ok (.laload, 1) := by decide +kernel
theorem dX9_sample_40 : decode cX9_sample 40 = .ok (.lload_n 2, 1) := by decide +kernel
theorem dX9_sample_41 : decode cX9_sample 41 = .ok (.lsub, 1) := by decide +kernel
theorem dX9_sample_42 : decode cX9_sample 42 = .ok (.lstore 4, 2) := by decide +kernel
theorem dX9_sample_44 : decode cX9_sample 44 = .ok (.aload_n 0, 1) := by decide +kernel
theorem dX9_sample_45 : decode cX9_sample 45 = .ok (.getfield 117, 3) := by decide +kernel
theorem dX9_sample_48 : decode cX9_sample 48 = .ok (.iload_n 1, 1) := by decide +kernel
theorem dX9_sample_49 : decode cX9_sample 49 = .ok (.baload, 1) := by decide +kernel
theorem dX9_sample_50 : decode cX9_sample 50 = .ok (.ifCond .eq 23, 3) := by decide +kernel
theorem dX9_sample_53 : decode cX9_sample 53 = .ok (.lload 4, 2) := by decide +kernel
theorem dX9_sample_55 : decode cX9_sample 55 = .ok (.lconst 0, 1) := by decide +kernel
theorem dX9_sample_56 : decode cX9_sample 56 = .ok (.lcmp, 1) := by decide +kernel
theorem dX9_sample_57 : decode cX9_sample 57 = .ok (.ifCond .lt 16, 3) := by decide +kernel
theorem dX9_sample_60 : decode cX9_sample 60 = .ok (.lload 4, 2) := by decide +kernel
theorem dX9_sample_62 : decode cX9_sample 62 = .ok (.aload_n 0, 1) := by decide +kernel
theorem dX9_sample_63 : decode cX9_sample 63 = .ok (.getfield 114, 3) := by decide +kernel
theorem dX9_sample_66 : decode cX9_sample 66 = .ok (.iload_n 1, 1) := by decide +kernel
theorem dX9_sample_67 : decode cX9_sample 67 = .ok (.laload, 1) := by decide +kernel
theorem dX9_sample_68 : decode cX9_sample 68 = .ok (.lcmp, 1) := by decide +kernel
theorem dX9_sample_69 : decode cX9_sample 69 = .ok (.ifCond .gt 4, 3) := by decide +kernel
theorem dX9_sample_72 : decode cX9_sample 72 = .ok (.return_, 1) := by decide +kernel
theorem dX9_sample_73 : decode cX9_sample 73 = .ok (.aload_n 0, 1) := by decide +kernel
theorem dX9_sample_74 : decode cX9_sample 74 = .ok (.getfield 117, 3) := by decide +kernel
theorem dX9_sample_77 : decode cX9_sample 77 = .ok (.iload_n 1, 1) := by decide +kernel
theorem dX9_sample_78 : decode cX9_sample 78 = .ok (.iconst 1, 1) := by decide +kernel
theorem dX9_sample_79 : decode cX9_sample 79 = .ok (.bastore, 1) := by decide +kernel
theorem dX9_sample_80 : decode cX9_sample 80 = .ok (.aload_n 0, 1) := by decide +kernel
theorem dX9_sample_81 : decode cX9_sample 81 = .ok (.getfield 120, 3) := by decide +kernel
theorem dX9_sample_84 : decode cX9_sample 84 = .ok (.iload_n 1, 1) := by decide +kernel
theorem dX9_sample_85 : decode cX9_sample 85 = .ok (.lload_n 2, 1) := by decide +kernel
theorem dX9_sample_86 : decode cX9_sample 86 = .ok (.lastore, 1) := by decide +kernel
theorem dX9_sample_87 : decode cX9_sample 87 = .ok (.aload_n 0, 1) := by decide +kernel
theorem dX9_sample_88 : decode cX9_sample 88 = .ok (.getfield 123, 3) := by decide +kernel
theorem dX9_sample_91 : decode cX9_sample 91 = .ok (.iload_n 1, 1) := by decide +kernel
theorem dX9_sample_92 : decode cX9_sample 92 = .ok (.iaload, 1) := by decide +kernel
theorem dX9_sample_93 : decode cX9_sample 93 = .ok (.aload_n 0, 1) := by decide +kernel
theorem dX9_sample_94 : decode cX9_sample 94 = .ok (.getfield 105, 3) := by decide +kernel
theorem dX9_sample_97 : decode cX9_sample 97 = .ok (.iload_n 1, 1) := by decide +kernel
theorem dX9_sample_98 : decode cX9_sample 98 = .ok (.iaload, 1) := by decide +kernel
theorem dX9_sample_99 : decode cX9_sample 99 = .ok (.if_icmp .ne 7, 3) := by decide +kernel
theorem dX9_sample_102 : decode cX9_sample 102 = .ok (.iconst 1, 1) := by decide +kernel
theorem dX9_sample_103 : decode cX9_sample 103 = .ok (.goto 4, 3) := by decide +kernel
theorem dX9_sample_106 : decode cX9_sample 106 = .ok (.iconst 0, 1) := by decide +kernel
theorem dX9_sample_107 : decode cX9_sample 107 = .ok (.istore 6, 2) := by decide +kernel
theorem dX9_sample_109 : decode cX9_sample 109 = .ok (.iload 6, 2) := by decide +kernel
theorem dX9_sample_111 : decode cX9_sample 111 = .ok (.ifCond .eq 30, 3) := by decide +kernel
theorem dX9_sample_114 : decode cX9_sample 114 = .ok (.aload_n 0, 1) := by decide +kernel
theorem dX9_sample_115 : decode cX9_sample 115 = .ok (.getfield 108, 3) := by decide +kernel
theorem dX9_sample_118 : decode cX9_sample 118 = .ok (.iload_n 1, 1) := by decide +kernel
theorem dX9_sample_119 : decode cX9_sample 119 = .ok (.baload, 1) := by decide +kernel
theorem dX9_sample_120 : decode cX9_sample 120 = .ok (.ifCond .eq 21, 3) := by decide +kernel
theorem dX9_sample_123 : decode cX9_sample 123 = .ok (.aload_n 0, 1) := by decide +kernel
theorem dX9_sample_124 : decode cX9_sample 124 = .ok (.iload_n 1, 1) := by decide +kernel
theorem dX9_sample_125 : decode cX9_sample 125 = .ok (.invokevirtual 195, 3) := by decide +kernel
theorem dX9_sample_128 : decode cX9_sample 128 = .ok (.aload_n 0, 1) := by decide +kernel
theorem dX9_sample_129 : decode cX9_sample 129 = .ok (.getfield 132, 3) := by decide +kernel
theorem dX9_sample_132 : decode cX9_sample 132 = .ok (.bipush 8, 2) := by decide +kernel
theorem dX9_sample_134 : decode cX9_sample 134 = .ok (.iload_n 1, 1) := by decide +kernel
theorem dX9_sample_135 : decode cX9_sample 135 = .ok (.imul, 1) := by decide +kernel
theorem dX9_sample_136 : decode cX9_sample 136 = .ok (.iconst 1, 1) := by decide +kernel
theorem dX9_sample_137 : decode cX9_sample 137 = .ok (.iastore, 1) := by decide +kernel
theorem dX9_sample_138 : decode cX9_sample 138 = .ok (.goto 18, 3) := by decide +kernel
theorem dX9_sample_141 : decode cX9_sample 141 = .ok (.iload 6, 2) := by decide +kernel
theorem dX9_sample_143 : decode cX9_sample 143 = .ok (.ifCond .eq 13, 3) := by decide +kernel
theorem dX9_sample_146 : decode cX9_sample 146 = .ok (.aload_n 0, 1) := by decide +kernel
theorem dX9_sample_147 : decode cX9_sample 147 = .ok (.getfield 123, 3) := by decide +kernel
theorem dX9_sample_150 : decode cX9_sample 150 = .ok (.iload_n 1, 1) := by decide +kernel
theorem dX9_sample_151 : decode cX9_sample 151 = .ok (.dup2, 1) := by decide +kernel
theorem dX9_sample_152 : decode cX9_sample 152 = .ok (.iaload, 1) := by decide +kernel
theorem dX9_sample_153 : decode cX9_sample 153 = .ok (.iconst 1, 1) := by decide +kernel
theorem dX9_sample_154 : decode cX9_sample 154 = .ok (.isub, 1) := by decide +kernel
theorem dX9_sample_155 : decode cX9_sample 155 = .ok (.iastore, 1) := by decide +kernel
theorem dX9_sample_156 : decode cX9_sample 156 = .ok (.bipush 8, 2) := by decide +kernel
theorem dX9_sample_158 : decode cX9_sample 158 = .ok (.iload_n 1, 1) := by decide +kernel
theorem dX9_sample_159 : decode cX9_sample 159 = .ok (.imul, 1) := by decide +kernel
theorem dX9_sample_160 : decode cX9_sample 160 = .ok (.aload_n 0, 1) := by decide +kernel
theorem dX9_sample_161 : decode cX9_sample 161 = .ok (.getfield 123, 3) := by decide +kernel
theorem dX9_sample_164 : decode cX9_sample 164 = .ok (.iload_n 1, 1) := by decide +kernel
theorem dX9_sample_165 : decode cX9_sample 165 = .ok (.iaload, 1) := by decide +kernel
theorem dX9_sample_166 : decode cX9_sample 166 = .ok (.iadd, 1) := by decide +kernel
theorem dX9_sample_167 : decode cX9_sample 167 = .ok (.istore 7, 2) := by decide +kernel
theorem dX9_sample_169 : decode cX9_sample 169 = .ok (.aload_n 0, 1) := by decide +kernel
theorem dX9_sample_170 : decode cX9_sample 170 = .ok (.getfield 123, 3) := by decide +kernel
theorem dX9_sample_173 : decode cX9_sample 173 = .ok (.iload_n 1, 1) := by decide +kernel
theorem dX9_sample_174 : decode cX9_sample 174 = .ok (.dup2, 1) := by decide +kernel
theorem dX9_sample_175 : decode cX9_sample 175 = .ok (.iaload, 1) := by decide +kernel
theorem dX9_sample_176 : decode cX9_sample 176 = .ok (.iconst 1, 1) := by decide +kernel
theorem dX9_sample_177 : decode cX9_sample 177 = .ok (.iadd, 1) := by decide +kernel
theorem dX9_sample_178 : decode cX9_sample 178 = .ok (.iastore, 1) := by decide +kernel
theorem dX9_sample_179 : decode cX9_sample 179 = .ok (.aload_n 0, 1) := by decide +kernel
theorem dX9_sample_180 : decode cX9_sample 180 = .ok (.getfield 126, 3) := by decide +kernel
theorem dX9_sample_183 : decode cX9_sample 183 = .ok (.iload 7, 2) := by decide +kernel
theorem dX9_sample_185 : decode cX9_sample 185 = .ok (.lload_n 2, 1) := by decide +kernel
theorem dX9_sample_186 : decode cX9_sample 186 = .ok (.lastore, 1) := by decide +kernel
theorem dX9_sample_187 : decode cX9_sample 187 = .ok (.aload_n 0, 1) := by decide +kernel
theorem dX9_sample_188 : decode cX9_sample 188 = .ok (.getfield 129, 3) := by decide +kernel
theorem dX9_sample_191 : decode cX9_sample 191 = .ok (.iload 7, 2) := by decide +kernel
theorem dX9_sample_193 : decode cX9_sample 193 = .ok (.aload_n 0, 1) := by decide +kernel
theorem dX9_sample_194 : decode cX9_sample 194 = .ok (.getfield 199, 3) := by decide +kernel
theorem dX9_sample_197 : decode cX9_sample 197 = .ok (.iastore, 1) := by decide +kernel
theorem dX9_sample_198 : decode cX9_sample 198 = .ok (.aload_n 0, 1) := by decide +kernel
theorem dX9_sample_199 : decode cX9_sample 199 = .ok (.getfield 132, 3) := by decide +kernel
theorem dX9_sample_202 : decode cX9_sample 202 = .ok (.iload 7, 2) := by decide +kernel
theorem dX9_sample_204 : decode cX9_sample 204 = .ok (.iload 6, 2) := by decide +kernel
theorem dX9_sample_206 : decode cX9_sample 206 = .ok (.ifCond .eq 26, 3) := by decide +kernel
theorem dX9_sample_209 : decode cX9_sample 209 = .ok (.aload_n 0, 1) := by decide +kernel
theorem dX9_sample_210 : decode cX9_sample 210 = .ok (.getfield 108, 3) := by decide +kernel
theorem dX9_sample_213 : decode cX9_sample 213 = .ok (.iload_n 1, 1) := by decide +kernel
theorem dX9_sample_214 : decode cX9_sample 214 = .ok (.baload, 1) := by decide +kernel
theorem dX9_sample_215 : decode cX9_sample 215 = .ok (.ifCond .ne 17, 3) := by decide +kernel
theorem dX9_sample_218 : decode cX9_sample 218 = .ok (.aload_n 0, 1) := by decide +kernel
theorem dX9_sample_219 : decode cX9_sample 219 = .ok (.getfield 105, 3) := by decide +kernel
theorem dX9_sample_222 : decode cX9_sample 222 = .ok (.iload_n 1, 1) := by decide +kernel
theorem dX9_sample_223 : decode cX9_sample 223 = .ok (.iaload, 1) := by decide +kernel
theorem dX9_sample_224 : decode cX9_sample 224 = .ok (.iconst 1, 1) := by decide +kernel
theorem dX9_sample_225 : decode cX9_sample 225 = .ok (.if_icmp .le 7, 3) := by decide +kernel
theorem dX9_sample_228 : decode cX9_sample 228 = .ok (.iconst 1, 1) := by decide +kernel
theorem dX9_sample_229 : decode cX9_sample 229 = .ok (.goto 4, 3) := by decide +kernel
theorem dX9_sample_232 : decode cX9_sample 232 = .ok (.iconst 0, 1) := by decide +kernel
theorem dX9_sample_233 : decode cX9_sample 233 = .ok (.iastore, 1) := by decide +kernel
theorem dX9_sample_234 : decode cX9_sample 234 = .ok (.return_, 1) := by decide +kernel
theorem dX9_isReady_0 : decode cX9_isReady 0 = .ok (.iconst 0, 1) := by decide +kernel
theorem dX9_isReady_1 : decode cX9_isReady 1 = .ok (.istore_n 2, 1) := by decide +kernel
theorem dX9_isReady_2 : decode cX9_isReady 2 = .ok (.iconst 0, 1) := by decide +kernel
theorem dX9_isReady_3 : decode cX9_isReady 3 = .ok (.istore_n 3, 1) := by decide +kernel
theorem dX9_isReady_4 : decode cX9_isReady 4 = .ok (.iload_n 3, 1) := by decide +kernel
theorem dX9_isReady_5 : decode cX9_isReady 5 = .ok (.aload_n 0, 1) := by decide +kernel
theorem dX9_isReady_6 : decode cX9_isReady 6 = .ok (.getfield 202, 3) := by decide +kernel
theorem dX9_isReady_9 : decode cX9_isReady 9 = .ok (.if_icmp .ge 57, 3) := by decide +kernel
theorem dX9_isReady_12 : decode cX9_isReady 12 = .ok (.iload_n 2, 1) := by decide +kernel
theorem dX9_isReady_13 : decode cX9_isReady 13 = .ok (.ifCond .ne 41, 3) := by decide +kernel
theorem dX9_isReady_16 : decode cX9_isReady 16 = .ok (.aload_n 0, 1) := by decide +kernel
theorem dX9_isReady_17 : decode cX9_isReady 17 = .ok (.getfield 90, 3) := by decide +kernel
theorem dX9_isReady_20 : decode cX9_isReady 20 = .ok (.iload_n 3, 1) := by decide +kernel
theorem dX9_isReady_21 : decode cX9_isReady 21 = .ok (.baload, 1) := by decide +kernel
theorem dX9_isReady_22 : decode cX9_isReady 22 = .ok (.ifCond .eq 36, 3) := by decide +kernel
theorem dX9_isReady_25 : decode cX9_isReady 25 = .ok (.aload_n 0, 1) := by decide +kernel
theorem dX9_isReady_26 : decode cX9_isReady 26 = .ok (.getfield 93, 3) := by decide +kernel
theorem dX9_isReady_29 : decode cX9_isReady 29 = .ok (.iload_n 3, 1) := by decide +kernel
theorem dX9_isReady_30 : decode cX9_isReady 30 = .ok (.iaload, 1) := by decide +kernel
theorem dX9_isReady_31 : decode cX9_isReady 31 = .ok (.iload_n 1, 1) := by decide +kernel
theorem dX9_isReady_32 : decode cX9_isReady 32 = .ok (.if_icmp .ne 26, 3) := by decide +kernel
theorem dX9_isReady_35 : decode cX9_isReady 35 = .ok (.aload_n 0, 1) := by decide +kernel
theorem dX9_isReady_36 : decode cX9_isReady 36 = .ok (.getfield 111, 3) := by decide +kernel
theorem dX9_isReady_39 : decode cX9_isReady 39 = .ok (.iload_n 3, 1) := by decide +kernel
theorem dX9_isReady_40 : decode cX9_isReady 40 = .ok (.iaload, 1) := by decide +kernel
theorem dX9_isReady_41 : decode cX9_isReady 41 = .ok (.iconst 2, 1) := by decide +kernel
theorem dX9_isReady_42 : decode cX9_isReady 42 = .ok (.if_icmp .ne 16, 3) := by decide +kernel
theorem dX9_isReady_45 : decode cX9_isReady 45 = .ok (.aload_n 0, 1) := by decide +kernel
theorem dX9_isReady_46 : decode cX9_isReady 46 = .ok (.getfield 123, 3) := by decide +kernel
theorem dX9_isReady_49 : decode cX9_isReady 49 = .ok (.iload_n 3, 1) := by decide +kernel
theorem dX9_isReady_50 : decode cX9_isReady 50 = .ok (.iaload, 1) := by decide +kernel
theorem dX9_isReady_51 : decode cX9_isReady 51 = .ok (.ifCond .le 7, 3) := by decide +kernel
theorem dX9_isReady_54 : decode cX9_isReady 54 = .ok (.iconst 1, 1) := by decide +kernel
theorem dX9_isReady_55 : decode cX9_isReady 55 = .ok (.goto 4, 3) := by decide +kernel
theorem dX9_isReady_58 : decode cX9_isReady 58 = .ok (.iconst 0, 1) := by decide +kernel
theorem dX9_isReady_59 : decode cX9_isReady 59 = .ok (.istore_n 2, 1) := by decide +kernel
theorem dX9_isReady_60 : decode cX9_isReady 60 = .ok (.iinc 3 1, 3) := by decide +kernel
theorem dX9_isReady_63 : decode cX9_isReady 63 = .ok (.goto (-59), 3) := by decide +kernel
theorem dX9_isReady_66 : decode cX9_isReady 66 = .ok (.iload_n 2, 1) := by decide +kernel
theorem dX9_isReady_67 : decode cX9_isReady 67 = .ok (.ifCond .eq 16, 3) := by decide +kernel
theorem dX9_isReady_70 : decode cX9_isReady 70 = .ok (.aload_n 0, 1) := by decide +kernel
theorem dX9_isReady_71 : decode cX9_isReady 71 = .ok (.getfield 66, 3) := by decide +kernel
theorem dX9_isReady_74 : decode cX9_isReady 74 = .ok (.iload_n 1, 1) := by decide +kernel
theorem dX9_isReady_75 : decode cX9_isReady 75 = .ok (.baload, 1) := by decide +kernel
theorem dX9_isReady_76 : decode cX9_isReady 76 = .ok (.ifCond .eq 7, 3) := by decide +kernel
theorem dX9_isReady_79 : decode cX9_isReady 79 = .ok (.iconst 1, 1) := by decide +kernel
theorem dX9_isReady_80 : decode cX9_isReady 80 = .ok (.goto 4, 3) := by decide +kernel
theorem dX9_isReady_83 : decode cX9_isReady 83 = .ok (.iconst 0, 1) := by decide +kernel
theorem dX9_isReady_84 : decode cX9_isReady 84 = .ok (.ireturn, 1) := by decide +kernel
theorem dX9_toMail_0 : decode cX9_toMail 0 = .ok (.aload_n 0, 1) := by decide +kernel
theorem dX9_toMail_1 : decode cX9_toMail 1 = .ok (.getfield 41, 3) := by decide +kernel
theorem dX9_toMail_4 : decode cX9_toMail 4 = .ok (.sipush 1200, 3) := by decide +kernel
theorem dX9_toMail_7 : decode cX9_toMail 7 = .ok (.iload_n 1, 1) := by decide +kernel
theorem dX9_toMail_8 : decode cX9_toMail 8 = .ok (.imul, 1) := by decide +kernel
theorem dX9_toMail_9 : decode cX9_toMail 9 = .ok (.aload_n 0, 1) := by decide +kernel
theorem dX9_toMail_10 : decode cX9_toMail 10 = .ok (.getfield 38, 3) := by decide +kernel
theorem dX9_toMail_13 : decode cX9_toMail 13 = .ok (.iload_n 1, 1) := by decide +kernel
theorem dX9_toMail_14 : decode cX9_toMail 14 = .ok (.iaload, 1) := by decide +kernel
theorem dX9_toMail_15 : decode cX9_toMail 15 = .ok (.iadd, 1) := by decide +kernel
theorem dX9_toMail_16 : decode cX9_toMail 16 = .ok (.iload_n 2, 1) := by decide +kernel
theorem dX9_toMail_17 : decode cX9_toMail 17 = .ok (.iastore, 1) := by decide +kernel
theorem dX9_toMail_18 : decode cX9_toMail 18 = .ok (.aload_n 0, 1) := by decide +kernel
theorem dX9_toMail_19 : decode cX9_toMail 19 = .ok (.getfield 38, 3) := by decide +kernel
theorem dX9_toMail_22 : decode cX9_toMail 22 = .ok (.iload_n 1, 1) := by decide +kernel
theorem dX9_toMail_23 : decode cX9_toMail 23 = .ok (.dup2, 1) := by decide +kernel
theorem dX9_toMail_24 : decode cX9_toMail 24 = .ok (.iaload, 1) := by decide +kernel
theorem dX9_toMail_25 : decode cX9_toMail 25 = .ok (.iconst 1, 1) := by decide +kernel
theorem dX9_toMail_26 : decode cX9_toMail 26 = .ok (.iadd, 1) := by decide +kernel
theorem dX9_toMail_27 : decode cX9_toMail 27 = .ok (.iastore, 1) := by decide +kernel
theorem dX9_toMail_28 : decode cX9_toMail 28 = .ok (.return_, 1) := by decide +kernel
theorem dX9_dropKept_0 : decode cX9_dropKept 0 = .ok (.iconst 0, 1) := by decide +kernel
theorem dX9_dropKept_1 : decode cX9_dropKept 1 = .ok (.istore_n 3, 1) := by decide +kernel
theorem dX9_dropKept_2 : decode cX9_dropKept 2 = .ok (.iload_n 3, 1) := by decide +kernel
theorem dX9_dropKept_3 : decode cX9_dropKept 3 = .ok (.aload_n 0, 1) := by decide +kernel
theorem dX9_dropKept_4 : decode cX9_dropKept 4 = .ok (.getfield 205, 3) := by decide +kernel
theorem dX9_dropKept_7 : decode cX9_dropKept 7 = .ok (.if_icmp .ge 49, 3) := by decide +kernel
theorem dX9_dropKept_10 : decode cX9_dropKept 10 = .ok (.aload_n 0, 1) := by decide +kernel
theorem dX9_dropKept_11 : decode cX9_dropKept 11 = .ok (.getfield 150, 3) := by decide +kernel
theorem dX9_dropKept_14 : decode cX9_dropKept 14 = .ok (.iload_n 3, 1) := by decide +kernel
theorem dX9_dropKept_15 : decode cX9_dropKept 15 = .ok (.baload, 1) := by decide +kernel
theorem dX9_dropKept_16 : decode cX9_dropKept 16 = .ok (.ifCond .eq 34, 3) := by decide +kernel
theorem dX9_dropKept_19 : decode cX9_dropKept 19 = .ok (.aload_n 0, 1) := by decide +kernel
theorem dX9_dropKept_20 : decode cX9_dropKept 20 = .ok (.getfield 135, 3) := by decide +kernel
theorem dX9_dropKept_23 : decode cX9_dropKept 23 = .ok (.iload_n 3, 1) := by decide +kernel
theorem dX9_dropKept_24 : decode cX9_dropKept 24 = .ok (.iaload, 1) := by decide +kernel
theorem dX9_dropKept_25 : decode cX9_dropKept 25 = .ok (.iload_n 1, 1) := by decide +kernel
theorem dX9_dropKept_26 : decode cX9_dropKept 26 = .ok (.if_icmp .ne 24, 3) := by decide +kernel
theorem dX9_dropKept_29 : decode cX9_dropKept 29 = .ok (.iload_n 2, 1) := by decide +kernel
theorem dX9_dropKept_30 : decode cX9_dropKept 30 = .ok (.ifCond .lt 13, 3) := by decide +kernel
theorem dX9_dropKept_33 : decode cX9_dropKept 33 = .ok (.aload_n 0, 1) := by decide +kernel
theorem dX9_dropKept_34 : decode cX9_dropKept 34 = .ok (.getfield 138, 3) := by decide +kernel
theorem dX9_dropKept_37 : decode cX9_dropKept 37 = .ok (.iload_n 3, 1) := by decide +kernel
theorem dX9_dropKept_38 : decode cX9_dropKept 38 = .ok (.iaload, 1) := by decide +kernel
theorem dX9_dropKept_39 : decode cX9_dropKept 39 = .ok (.iload_n 2, 1) := by decide +kernel
theorem dX9_dropKept_40 : decode cX9_dropKept 40 = .ok (.if_icmp .ne 10, 3) := by decide +kernel
theorem dX9_dropKept_43 : decode cX9_dropKept 43 = .ok (.aload_n 0, 1) := by decide +kernel
theorem dX9_dropKept_44 : decode cX9_dropKept 44 = .ok (.getfield 150, 3) := by decide +kernel
theorem dX9_dropKept_47 : decode cX9_dropKept 47 = .ok (.iload_n 3, 1) := by decide +kernel
theorem dX9_dropKept_48 : decode cX9_dropKept 48 = .ok (.iconst 0, 1) := by decide +kernel
theorem dX9_dropKept_49 : decode cX9_dropKept 49 = .ok (.bastore, 1) := by decide +kernel
theorem dX9_dropKept_50 : decode cX9_dropKept 50 = .ok (.iinc 3 1, 3) := by decide +kernel
theorem dX9_dropKept_53 : decode cX9_dropKept 53 = .ok (.goto (-51), 3) := by decide +kernel
theorem dX9_dropKept_56 : decode cX9_dropKept 56 = .ok (.return_, 1) := by decide +kernel
theorem dX9_keptOf_0 : decode cX9_keptOf 0 = .ok (.iconst 0, 1) := by decide +kernel
theorem dX9_keptOf_1 : decode cX9_keptOf 1 = .ok (.istore_n 2, 1) := by decide +kernel
theorem dX9_keptOf_2 : decode cX9_keptOf 2 = .ok (.iconst 0, 1) := by decide +kernel
theorem dX9_keptOf_3 : decode cX9_keptOf 3 = .ok (.istore_n 3, 1) := by decide +kernel
theorem dX9_keptOf_4 : decode cX9_keptOf 4 = .ok (.iload_n 3, 1) := by decide +kernel
theorem dX9_keptOf_5 : decode cX9_keptOf 5 = .ok (.aload_n 0, 1) := by decide +kernel
theorem dX9_keptOf_6 : decode cX9_keptOf 6 = .ok (.getfield 205, 3) := by decide +kernel
theorem dX9_keptOf_9 : decode cX9_keptOf 9 = .ok (.if_icmp .ge 36, 3) := by decide +kernel
theorem dX9_keptOf_12 : decode cX9_keptOf 12 = .ok (.iload_n 2, 1) := by decide +kernel
theorem dX9_keptOf_13 : decode cX9_keptOf 13 = .ok (.aload_n 0, 1) := by decide +kernel
theorem dX9_keptOf_14 : decode cX9_keptOf 14 = .ok (.getfield 150, 3) := by decide +kernel
theorem dX9_keptOf_17 : decode cX9_keptOf 17 = .ok (.iload_n 3, 1) := by decide +kernel
theorem dX9_keptOf_18 : decode cX9_keptOf 18 = .ok (.baload, 1) := by decide +kernel
theorem dX9_keptOf_19 : decode cX9_keptOf 19 = .ok (.ifCond .eq 17, 3) := by decide +kernel
theorem dX9_keptOf_22 : decode cX9_keptOf 22 = .ok (.aload_n 0, 1) := by decide +kernel
theorem dX9_keptOf_23 : decode cX9_keptOf 23 = .ok (.getfield 135, 3) := by decide +kernel
theorem dX9_keptOf_26 : decode cX9_keptOf 26 = .ok (.iload_n 3, 1) := by decide +kernel
theorem dX9_keptOf_27 : decode cX9_keptOf 27 = .ok (.iaload, 1) := by decide +kernel
theorem dX9_keptOf_28 : decode cX9_keptOf 28 = .ok (.iload_n 1, 1) := by decide +kernel
theorem dX9_keptOf_29 : decode cX9_keptOf 29 = .ok (.if_icmp .ne 7, 3) := by decide +kernel
theorem dX9_keptOf_32 : decode cX9_keptOf 32 = .ok (.iconst 1, 1) := by decide +kernel
theorem dX9_keptOf_33 : decode cX9_keptOf 33 = .ok (.goto 4, 3) := by decide +kernel
theorem dX9_keptOf_36 : decode cX9_keptOf 36 = .ok (.iconst 0, 1) := by decide +kernel
theorem dX9_keptOf_37 : decode cX9_keptOf 37 = .ok (.iadd, 1) := by decide +kernel
theorem dX9_keptOf_38 : decode cX9_keptOf 38 = .ok (.istore_n 2, 1) := by decide +kernel
theorem dX9_keptOf_39 : decode cX9_keptOf 39 = .ok (.iinc 3 1, 3) := by decide +kernel
theorem dX9_keptOf_42 : decode cX9_keptOf 42 = .ok (.goto (-38), 3) := by decide +kernel
theorem dX9_keptOf_45 : decode cX9_keptOf 45 = .ok (.iload_n 2, 1) := by decide +kernel
theorem dX9_keptOf_46 : decode cX9_keptOf 46 = .ok (.ireturn, 1) := by decide +kernel
theorem dX9_shift_0 : decode cX9_shift 0 = .ok (.aload_n 0, 1) := by decide +kernel
theorem dX9_shift_1 : decode cX9_shift 1 = .ok (.getfield 123, 3) := by decide +kernel
theorem dX9_shift_4 : decode cX9_shift 4 = .ok (.iload_n 1, 1) := by decide +kernel
theorem dX9_shift_5 : decode cX9_shift 5 = .ok (.dup2, 1) := by decide +kernel
theorem dX9_shift_6 : decode cX9_shift 6 = .ok (.iaload, 1) := by decide +kernel
theorem dX9_shift_7 : decode cX9_shift 7 = .ok (.iconst 1, 1) := by decide +kernel
theorem dX9_shift_8 : decode cX9_shift 8 = .ok (.isub, 1) := by decide +kernel
theorem dX9_shift_9 : decode cX9_shift 9 = .ok (.iastore, 1) := by decide +kernel
theorem dX9_shift_10 : decode cX9_shift 10 = .ok (.bipush 8, 2) := by decide +kernel
theorem dX9_shift_12 : decode cX9_shift 12 = .ok (.iload_n 1, 1) := by decide +kernel
theorem dX9_shift_13 : decode cX9_shift 13 = .ok (.imul, 1) := by decide +kernel
theorem dX9_shift_14 : decode cX9_shift 14 = .ok (.istore_n 2, 1) := by decide +kernel
theorem dX9_shift_15 : decode cX9_shift 15 = .ok (.iload_n 2, 1) := by decide +kernel
theorem dX9_shift_16 : decode cX9_shift 16 = .ok (.bipush 8, 2) := by decide +kernel
theorem dX9_shift_18 : decode cX9_shift 18 = .ok (.iload_n 1, 1) := by decide +kernel
theorem dX9_shift_19 : decode cX9_shift 19 = .ok (.imul, 1) := by decide +kernel
theorem dX9_shift_20 : decode cX9_shift 20 = .ok (.aload_n 0, 1) := by decide +kernel
theorem dX9_shift_21 : decode cX9_shift 21 = .ok (.getfield 123, 3) := by decide +kernel
theorem dX9_shift_24 : decode cX9_shift 24 = .ok (.iload_n 1, 1) := by decide +kernel
theorem dX9_shift_25 : decode cX9_shift 25 = .ok (.iaload, 1) := by decide +kernel
theorem dX9_shift_26 : decode cX9_shift 26 = .ok (.iadd, 1) := by decide +kernel
theorem dX9_shift_27 : decode cX9_shift 27 = .ok (.if_icmp .ge 51, 3) := by decide +kernel
theorem dX9_shift_30 : decode cX9_shift 30 = .ok (.aload_n 0, 1) := by decide +kernel
theorem dX9_shift_31 : decode cX9_shift 31 = .ok (.getfield 126, 3) := by decide +kernel
theorem dX9_shift_34 : decode cX9_shift 34 = .ok (.iload_n 2, 1) := by decide +kernel
theorem dX9_shift_35 : decode cX9_shift 35 = .ok (.aload_n 0, 1) := by decide +kernel
theorem dX9_shift_36 : decode cX9_shift 36 = .ok (.getfield 126, 3) := by decide +kernel
theorem dX9_shift_39 : decode cX9_shift 39 = .ok (.iload_n 2, 1) := by decide +kernel
theorem dX9_shift_40 : decode cX9_shift 40 = .ok (.iconst 1, 1) := by decide +kernel
theorem dX9_shift_41 : decode cX9_shift 41 = .ok (.iadd, 1) := by decide +kernel
theorem dX9_shift_42 : decode cX9_shift 42 = .ok (.laload, 1) := by decide +kernel
theorem dX9_shift_43 : decode cX9_shift 43 = .ok (.lastore, 1) := by decide +kernel
theorem dX9_shift_44 : decode cX9_shift 44 = .ok (.aload_n 0, 1) := by decide +kernel
theorem dX9_shift_45 : decode cX9_shift 45 = .ok (.getfield 129, 3) := by decide +kernel
theorem dX9_shift_48 : decode cX9_shift 48 = .ok (.iload_n 2, 1) := by decide +kernel
theorem dX9_shift_49 : decode cX9_shift 49 = .ok (.aload_n 0, 1) := by decide +kernel
theorem dX9_shift_50 : decode cX9_shift 50 = .ok (.getfield 129, 3) := by decide +kernel
theorem dX9_shift_53 : decode cX9_shift 53 = .ok (.iload_n 2, 1) := by decide +kernel
theorem dX9_shift_54 : decode cX9_shift 54 = .ok (.iconst 1, 1) := by decide +kernel
theorem dX9_shift_55 : decode cX9_shift 55 = .ok (.iadd, 1) := by decide +kernel
theorem dX9_shift_56 : decode cX9_shift 56 = .ok (.iaload, 1) := by decide +kernel
theorem dX9_shift_57 : decode cX9_shift 57 = .ok (.iastore, 1) := by decide +kernel
theorem dX9_shift_58 : decode cX9_shift 58 = .ok (.aload_n 0, 1) := by decide +kernel
theorem dX9_shift_59 : decode cX9_shift 59 = .ok (.getfield 132, 3) := by decide +kernel
theorem dX9_shift_62 : decode cX9_shift 62 = .ok (.iload_n 2, 1) := by decide +kernel
theorem dX9_shift_63 : decode cX9_shift 63 = .ok (.aload_n 0, 1) := by decide +kernel
theorem dX9_shift_64 : decode cX9_shift 64 = .ok (.getfield 132, 3) := by decide +kernel
theorem dX9_shift_67 : decode cX9_shift 67 = .ok (.iload_n 2, 1) := by decide +kernel
theorem dX9_shift_68 : decode cX9_shift 68 = .ok (.iconst 1, 1) := by decide +kernel
theorem dX9_shift_69 : decode cX9_shift 69 = .ok (.iadd, 1) := by decide +kernel
theorem dX9_shift_70 : decode cX9_shift 70 = .ok (.iaload, 1) := by decide +kernel
theorem dX9_shift_71 : decode cX9_shift 71 = .ok (.iastore, 1) := by decide +kernel
theorem dX9_shift_72 : decode cX9_shift 72 = .ok (.iinc 2 1, 3) := by decide +kernel
theorem dX9_shift_75 : decode cX9_shift 75 = .ok (.goto (-60), 3) := by decide +kernel
theorem dX9_shift_78 : decode cX9_shift 78 = .ok (.return_, 1) := by decide +kernel
theorem dX9_make_0 : decode cX9_make 0 = .ok (.aload_n 0, 1) := by decide +kernel
theorem dX9_make_1 : decode cX9_make 1 = .ok (.getfield 205, 3) := by decide +kernel
theorem dX9_make_4 : decode cX9_make 4 = .ok (.istore_n 2, 1) := by decide +kernel
theorem dX9_make_5 : decode cX9_make 5 = .ok (.aload_n 0, 1) := by decide +kernel
theorem dX9_make_6 : decode cX9_make 6 = .ok (.iload_n 1, 1) := by decide +kernel
theorem dX9_make_7 : decode cX9_make 7 = .ok (.invokevirtual 208, 3) := by decide +kernel
theorem dX9_make_10 : decode cX9_make 10 = .ok (.istore_n 3, 1) := by decide +kernel
theorem dX9_make_11 : decode cX9_make 11 = .ok (.aload_n 0, 1) := by decide +kernel
theorem dX9_make_12 : decode cX9_make 12 = .ok (.dup, 1) := by decide +kernel
theorem dX9_make_13 : decode cX9_make 13 = .ok (.getfield 205, 3) := by decide +kernel
theorem dX9_make_16 : decode cX9_make 16 = .ok (.iconst 1, 1) := by decide +kernel
theorem dX9_make_17 : decode cX9_make 17 = .ok (.iadd, 1) := by decide +kernel
theorem dX9_make_18 : decode cX9_make 18 = .ok (.putfield 205, 3) := by decide +kernel
theorem dX9_make_21 : decode cX9_make 21 = .ok (.aload_n 0, 1) := by decide +kernel
theorem dX9_make_22 : decode cX9_make 22 = .ok (.getfield 135, 3) := by decide +kernel
theorem dX9_make_25 : decode cX9_make 25 = .ok (.iload_n 2, 1) := by decide +kernel
theorem dX9_make_26 : decode cX9_make 26 = .ok (.iload_n 1, 1) := by decide +kernel
theorem dX9_make_27 : decode cX9_make 27 = .ok (.iastore, 1) := by decide +kernel
theorem dX9_make_28 : decode cX9_make 28 = .ok (.aload_n 0, 1) := by decide +kernel
theorem dX9_make_29 : decode cX9_make 29 = .ok (.getfield 138, 3) := by decide +kernel
theorem dX9_make_32 : decode cX9_make 32 = .ok (.iload_n 2, 1) := by decide +kernel
theorem dX9_make_33 : decode cX9_make 33 = .ok (.aload_n 0, 1) := by decide +kernel
theorem dX9_make_34 : decode cX9_make 34 = .ok (.getfield 69, 3) := by decide +kernel
theorem dX9_make_37 : decode cX9_make 37 = .ok (.iload_n 1, 1) := by decide +kernel
theorem dX9_make_38 : decode cX9_make 38 = .ok (.iaload, 1) := by decide +kernel
theorem dX9_make_39 : decode cX9_make 39 = .ok (.iastore, 1) := by decide +kernel
theorem dX9_make_40 : decode cX9_make 40 = .ok (.aload_n 0, 1) := by decide +kernel
theorem dX9_make_41 : decode cX9_make 41 = .ok (.getfield 147, 3) := by decide +kernel
theorem dX9_make_44 : decode cX9_make 44 = .ok (.iload_n 2, 1) := by decide +kernel
theorem dX9_make_45 : decode cX9_make 45 = .ok (.aload_n 0, 1) := by decide +kernel
theorem dX9_make_46 : decode cX9_make 46 = .ok (.getfield 199, 3) := by decide +kernel
theorem dX9_make_49 : decode cX9_make 49 = .ok (.iastore, 1) := by decide +kernel
theorem dX9_make_50 : decode cX9_make 50 = .ok (.iconst 0, 1) := by decide +kernel
theorem dX9_make_51 : decode cX9_make 51 = .ok (.istore 4, 2) := by decide +kernel
theorem dX9_make_53 : decode cX9_make 53 = .ok (.iload_n 3, 1) := by decide +kernel
theorem dX9_make_54 : decode cX9_make 54 = .ok (.ifCond .eq 237, 3) := by decide +kernel
theorem dX9_make_57 : decode cX9_make 57 = .ok (.aload_n 0, 1) := by decide +kernel
theorem dX9_make_58 : decode cX9_make 58 = .ok (.getfield 69, 3) := by decide +kernel
theorem dX9_make_61 : decode cX9_make 61 = .ok (.iload_n 1, 1) := by decide +kernel
theorem dX9_make_62 : decode cX9_make 62 = .ok (.dup2, 1) := by decide +kernel
theorem dX9_make_63 : decode cX9_make 63 = .ok (.iaload, 1) := by decide +kernel
theorem dX9_make_64 : decode cX9_make 64 = .ok (.iconst 1, 1) := by decide +kernel
theorem dX9_make_65 : decode cX9_make 65 = .ok (.iadd, 1) := by decide +kernel
theorem dX9_make_66 : decode cX9_make 66 = .ok (.iastore, 1) := by decide +kernel
theorem dX9_make_67 : decode cX9_make 67 = .ok (.aload_n 0, 1) := by decide +kernel
theorem dX9_make_68 : decode cX9_make 68 = .ok (.getfield 63, 3) := by decide +kernel
theorem dX9_make_71 : decode cX9_make 71 = .ok (.iload_n 1, 1) := by decide +kernel
theorem dX9_make_72 : decode cX9_make 72 = .ok (.iaload, 1) := by decide +kernel
theorem dX9_make_73 : decode cX9_make 73 = .ok (.ifCond .ne 8, 3) := by decide +kernel
theorem dX9_make_76 : decode cX9_make 76 = .ok (.bipush 40, 2) := by decide +kernel
theorem dX9_make_78 : decode cX9_make 78 = .ok (.goto 9, 3) := by decide +kernel
theorem dX9_make_81 : decode cX9_make 81 = .ok (.aload_n 0, 1) := by decide +kernel
theorem dX9_make_82 : decode cX9_make 82 = .ok (.getfield 63, 3) := by decide +kernel
theorem dX9_make_85 : decode cX9_make 85 = .ok (.iload_n 1, 1) := by decide +kernel
theorem dX9_make_86 : decode cX9_make 86 = .ok (.iaload, 1) := by decide +kernel
theorem dX9_make_87 : decode cX9_make 87 = .ok (.istore 5, 2) := by decide +kernel
theorem dX9_make_89 : decode cX9_make 89 = .ok (.iconst 0, 1) := by decide +kernel
theorem dX9_make_90 : decode cX9_make 90 = .ok (.istore 6, 2) := by decide +kernel
theorem dX9_make_92 : decode cX9_make 92 = .ok (.iload 6, 2) := by decide +kernel
theorem dX9_make_94 : decode cX9_make 94 = .ok (.aload_n 0, 1) := by decide +kernel
theorem dX9_make_95 : decode cX9_make 95 = .ok (.getfield 202, 3) := by decide +kernel
theorem dX9_make_98 : decode cX9_make 98 = .ok (.if_icmp .ge 139, 3) := by decide +kernel
theorem dX9_make_101 : decode cX9_make 101 = .ok (.aload_n 0, 1) := by decide +kernel
theorem dX9_make_102 : decode cX9_make 102 = .ok (.getfield 90, 3) := by decide +kernel
theorem dX9_make_105 : decode cX9_make 105 = .ok (.iload 6, 2) := by decide +kernel
theorem dX9_make_107 : decode cX9_make 107 = .ok (.baload, 1) := by decide +kernel
theorem dX9_make_108 : decode cX9_make 108 = .ok (.ifCond .eq 123, 3) := by decide +kernel
theorem dX9_make_111 : decode cX9_make 111 = .ok (.aload_n 0, 1) := by decide +kernel
theorem dX9_make_112 : decode cX9_make 112 = .ok (.getfield 93, 3) := by decide +kernel
theorem dX9_make_115 : decode cX9_make 115 = .ok (.iload 6, 2) := by decide +kernel
theorem dX9_make_117 : decode cX9_make 117 = .ok (.iaload, 1) := by decide +kernel
theorem dX9_make_118 : decode cX9_make 118 = .ok (.iload_n 1, 1) := by decide +kernel
theorem dX9_make_119 : decode cX9_make 119 = .ok (.if_icmp .ne 112, 3) := by decide +kernel
theorem dX9_make_122 : decode cX9_make 122 = .ok (.aload_n 0, 1) := by decide +kernel
theorem dX9_make_123 : decode cX9_make 123 = .ok (.getfield 111, 3) := by decide +kernel
theorem dX9_make_126 : decode cX9_make 126 = .ok (.iload 6, 2) := by decide +kernel
theorem dX9_make_128 : decode cX9_make 128 = .ok (.iaload, 1) := by decide +kernel
theorem dX9_make_129 : decode cX9_make 129 = .ok (.iconst 2, 1) := by decide +kernel
theorem dX9_make_130 : decode cX9_make 130 = .ok (.if_icmp .ne 101, 3) := by decide +kernel
theorem dX9_make_133 : decode cX9_make 133 = .ok (.aload_n 0, 1) := by decide +kernel
theorem dX9_make_134 : decode cX9_make 134 = .ok (.getfield 123, 3) := by decide +kernel
theorem dX9_make_137 : decode cX9_make 137 = .ok (.iload 6, 2) := by decide +kernel
theorem dX9_make_139 : decode cX9_make 139 = .ok (.iaload, 1) := by decide +kernel
theorem dX9_make_140 : decode cX9_make 140 = .ok (.ifCond .le 91, 3) := by decide +kernel
theorem dX9_make_143 : decode cX9_make 143 = .ok (.iload 4, 2) := by decide +kernel
theorem dX9_make_145 : decode cX9_make 145 = .ok (.iload 5, 2) := by decide +kernel
theorem dX9_make_147 : decode cX9_make 147 = .ok (.if_icmp .ge 84, 3) := by decide +kernel
theorem dX9_make_150 : decode cX9_make 150 = .ok (.bipush 40, 2) := by decide +kernel
theorem dX9_make_152 : decode cX9_make 152 = .ok (.iload_n 2, 1) := by decide +kernel
theorem dX9_make_153 : decode cX9_make 153 = .ok (.imul, 1) := by decide +kernel
theorem dX9_make_154 : decode cX9_make 154 = .ok (.iload 4, 2) := by decide +kernel
theorem dX9_make_156 : decode cX9_make 156 = .ok (.iadd, 1) := by decide +kernel
theorem dX9_make_157 : decode cX9_make 157 = .ok (.istore 7, 2) := by decide +kernel
theorem dX9_make_159 : decode cX9_make 159 = .ok (.aload_n 0, 1) := by decide +kernel
theorem dX9_make_160 : decode cX9_make 160 = .ok (.getfield 154, 3) := by decide +kernel
theorem dX9_make_163 : decode cX9_make 163 = .ok (.iload 7, 2) := by decide +kernel
theorem dX9_make_165 : decode cX9_make 165 = .ok (.aload_n 0, 1) := by decide +kernel
theorem dX9_make_166 : decode cX9_make 166 = .ok (.getfield 126, 3) := by decide +kernel
theorem dX9_make_169 : decode cX9_make 169 = .ok (.bipush 8, 2) := by decide +kernel
theorem dX9_make_171 : decode cX9_make 171 = .ok (.iload 6, 2) := by decide +kernel
theorem dX9_make_173 : decode cX9_make 173 = .ok (.imul, 1) := by decide +kernel
theorem dX9_make_174 : decode cX9_make 174 = .ok (.laload, 1) := by decide +kernel
theorem dX9_make_175 : decode cX9_make 175 = .ok (.lastore, 1) := by decide +kernel
theorem dX9_make_176 : decode cX9_make 176 = .ok (.aload_n 0, 1) := by decide +kernel
theorem dX9_make_177 : decode cX9_make 177 = .ok (.getfield 157, 3) := by decide +kernel
theorem dX9_make_180 : decode cX9_make 180 = .ok (.iload 7, 2) := by decide +kernel
theorem dX9_make_182 : decode cX9_make 182 = .ok (.iload 6, 2) := by decide +kernel
theorem dX9_make_184 : decode cX9_make 184 = .ok (.iastore, 1) := by decide +kernel
theorem dX9_make_185 : decode cX9_make 185 = .ok (.aload_n 0, 1) := by decide +kernel
theorem dX9_make_186 : decode cX9_make 186 = .ok (.getfield 160, 3) := by decide +kernel
theorem dX9_make_189 : decode cX9_make 189 = .ok (.iload 7, 2) := by decide +kernel
theorem dX9_make_191 : decode cX9_make 191 = .ok (.aload_n 0, 1) := by decide +kernel
theorem dX9_make_192 : decode cX9_make 192 = .ok (.getfield 129, 3) := by decide +kernel
theorem dX9_make_195 : decode cX9_make 195 = .ok (.bipush 8, 2) := by decide +kernel
theorem dX9_make_197 : decode cX9_make 197 = .ok (.iload 6, 2) := by decide +kernel
theorem dX9_make_199 : decode cX9_make 199 = .ok (.imul, 1) := by decide +kernel
theorem dX9_make_200 : decode cX9_make 200 = .ok (.iaload, 1) := by decide +kernel
theorem dX9_make_201 : decode cX9_make 201 = .ok (.iastore, 1) := by decide +kernel
theorem dX9_make_202 : decode cX9_make 202 = .ok (.aload_n 0, 1) := by decide +kernel
theorem dX9_make_203 : decode cX9_make 203 = .ok (.getfield 163, 3) := by decide +kernel
theorem dX9_make_206 : decode cX9_make 206 = .ok (.iload 7, 2) := by decide +kernel
theorem dX9_make_208 : decode cX9_make 208 = .ok (.aload_n 0, 1) := by decide +kernel
theorem dX9_make_209 : decode cX9_make 209 = .ok (.getfield 132, 3) := by decide +kernel
theorem dX9_make_212 : decode cX9_make 212 = .ok (.bipush 8, 2) := by decide +kernel
theorem dX9_make_214 : decode cX9_make 214 = .ok (.iload 6, 2) := by decide +kernel
theorem dX9_make_216 : decode cX9_make 216 = .ok (.imul, 1) := by decide +kernel
theorem dX9_make_217 : decode cX9_make 217 = .ok (.iaload, 1) := by decide +kernel
theorem dX9_make_218 : decode cX9_make 218 = .ok (.iastore, 1) := by decide +kernel
theorem dX9_make_219 : decode cX9_make 219 = .ok (.aload_n 0, 1) := by decide +kernel
theorem dX9_make_220 : decode cX9_make 220 = .ok (.iload 6, 2) := by decide +kernel
theorem dX9_make_222 : decode cX9_make 222 = .ok (.invokevirtual 195, 3) := by decide +kernel
theorem dX9_make_225 : decode cX9_make 225 = .ok (.iinc 4 1, 3) := by decide +kernel
theorem dX9_make_228 : decode cX9_make 228 = .ok (.goto (-127), 3) := by decide +kernel
theorem dX9_make_231 : decode cX9_make 231 = .ok (.iinc 6 1, 3) := by decide +kernel
theorem dX9_make_234 : decode cX9_make 234 = .ok (.goto (-142), 3) := by decide +kernel
theorem dX9_make_237 : decode cX9_make 237 = .ok (.aload_n 0, 1) := by decide +kernel
theorem dX9_make_238 : decode cX9_make 238 = .ok (.iload_n 1, 1) := by decide +kernel
theorem dX9_make_239 : decode cX9_make 239 = .ok (.invokevirtual 211, 3) := by decide +kernel
theorem dX9_make_242 : decode cX9_make 242 = .ok (.iconst 5, 1) := by decide +kernel
theorem dX9_make_243 : decode cX9_make 243 = .ok (.if_icmp .ne 41, 3) := by decide +kernel
theorem dX9_make_246 : decode cX9_make 246 = .ok (.iconst 0, 1) := by decide +kernel
theorem dX9_make_247 : decode cX9_make 247 = .ok (.istore 6, 2) := by decide +kernel
theorem dX9_make_249 : decode cX9_make 249 = .ok (.aload_n 0, 1) := by decide +kernel
theorem dX9_make_250 : decode cX9_make 250 = .ok (.getfield 150, 3) := by decide +kernel
theorem dX9_make_253 : decode cX9_make 253 = .ok (.iload 6, 2) := by decide +kernel
theorem dX9_make_255 : decode cX9_make 255 = .ok (.baload, 1) := by decide +kernel
theorem dX9_make_256 : decode cX9_make 256 = .ok (.ifCond .eq 14, 3) := by decide +kernel
theorem dX9_make_259 : decode cX9_make 259 = .ok (.aload_n 0, 1) := by decide +kernel
theorem dX9_make_260 : decode cX9_make 260 = .ok (.getfield 135, 3) := by decide +kernel
theorem dX9_make_263 : decode cX9_make 263 = .ok (.iload 6, 2) := by decide +kernel
theorem dX9_make_265 : decode cX9_make 265 = .ok (.iaload, 1) := by decide +kernel
theorem dX9_make_266 : decode cX9_make 266 = .ok (.iload_n 1, 1) := by decide +kernel
theorem dX9_make_267 : decode cX9_make 267 = .ok (.if_icmp .eq 9, 3) := by decide +kernel
theorem dX9_make_270 : decode cX9_make 270 = .ok (.iinc 6 1, 3) := by decide +kernel
theorem dX9_make_273 : decode cX9_make 273 = .ok (.goto (-24), 3) := by decide +kernel
theorem dX9_make_276 : decode cX9_make 276 = .ok (.aload_n 0, 1) := by decide +kernel
theorem dX9_make_277 : decode cX9_make 277 = .ok (.getfield 150, 3) := by decide +kernel
theorem dX9_make_280 : decode cX9_make 280 = .ok (.iload 6, 2) := by decide +kernel
theorem dX9_make_282 : decode cX9_make 282 = .ok (.iconst 0, 1) := by decide +kernel
theorem dX9_make_283 : decode cX9_make 283 = .ok (.bastore, 1) := by decide +kernel
theorem dX9_make_284 : decode cX9_make 284 = .ok (.aload_n 0, 1) := by decide +kernel
theorem dX9_make_285 : decode cX9_make 285 = .ok (.getfield 150, 3) := by decide +kernel
theorem dX9_make_288 : decode cX9_make 288 = .ok (.iload_n 2, 1) := by decide +kernel
theorem dX9_make_289 : decode cX9_make 289 = .ok (.iconst 1, 1) := by decide +kernel
theorem dX9_make_290 : decode cX9_make 290 = .ok (.bastore, 1) := by decide +kernel
theorem dX9_make_291 : decode cX9_make 291 = .ok (.aload_n 0, 1) := by decide +kernel
theorem dX9_make_292 : decode cX9_make 292 = .ok (.getfield 141, 3) := by decide +kernel
theorem dX9_make_295 : decode cX9_make 295 = .ok (.iload_n 2, 1) := by decide +kernel
theorem dX9_make_296 : decode cX9_make 296 = .ok (.iload 4, 2) := by decide +kernel
theorem dX9_make_298 : decode cX9_make 298 = .ok (.iastore, 1) := by decide +kernel
theorem dX9_make_299 : decode cX9_make 299 = .ok (.aload_n 0, 1) := by decide +kernel
theorem dX9_make_300 : decode cX9_make 300 = .ok (.getfield 144, 3) := by decide +kernel
theorem dX9_make_303 : decode cX9_make 303 = .ok (.iload_n 2, 1) := by decide +kernel
theorem dX9_make_304 : decode cX9_make 304 = .ok (.iload_n 3, 1) := by decide +kernel
theorem dX9_make_305 : decode cX9_make 305 = .ok (.ifCond .eq 15, 3) := by decide +kernel
theorem dX9_make_308 : decode cX9_make 308 = .ok (.aload_n 0, 1) := by decide +kernel
theorem dX9_make_309 : decode cX9_make 309 = .ok (.iload_n 1, 1) := by decide +kernel
theorem dX9_make_310 : decode cX9_make 310 = .ok (.invokevirtual 214, 3) := by decide +kernel
theorem dX9_make_313 : decode cX9_make 313 = .ok (.ifCond .eq 7, 3) := by decide +kernel
theorem dX9_make_316 : decode cX9_make 316 = .ok (.iconst 1, 1) := by decide +kernel
theorem dX9_make_317 : decode cX9_make 317 = .ok (.goto 4, 3) := by decide +kernel
theorem dX9_make_320 : decode cX9_make 320 = .ok (.iconst 0, 1) := by decide +kernel
theorem dX9_make_321 : decode cX9_make 321 = .ok (.bastore, 1) := by decide +kernel
theorem dX9_make_322 : decode cX9_make 322 = .ok (.aload_n 0, 1) := by decide +kernel
theorem dX9_make_323 : decode cX9_make 323 = .ok (.getfield 87, 3) := by decide +kernel
theorem dX9_make_326 : decode cX9_make 326 = .ok (.iload_n 1, 1) := by decide +kernel
theorem dX9_make_327 : decode cX9_make 327 = .ok (.aload_n 0, 1) := by decide +kernel
theorem dX9_make_328 : decode cX9_make 328 = .ok (.getfield 144, 3) := by decide +kernel
theorem dX9_make_331 : decode cX9_make 331 = .ok (.iload_n 2, 1) := by decide +kernel
theorem dX9_make_332 : decode cX9_make 332 = .ok (.baload, 1) := by decide +kernel
theorem dX9_make_333 : decode cX9_make 333 = .ok (.bastore, 1) := by decide +kernel
theorem dX9_make_334 : decode cX9_make 334 = .ok (.aload_n 0, 1) := by decide +kernel
theorem dX9_make_335 : decode cX9_make 335 = .ok (.aload_n 0, 1) := by decide +kernel
theorem dX9_make_336 : decode cX9_make 336 = .ok (.getfield 48, 3) := by decide +kernel
theorem dX9_make_339 : decode cX9_make 339 = .ok (.iload_n 1, 1) := by decide +kernel
theorem dX9_make_340 : decode cX9_make 340 = .ok (.iaload, 1) := by decide +kernel
theorem dX9_make_341 : decode cX9_make 341 = .ok (.iload_n 2, 1) := by decide +kernel
theorem dX9_make_342 : decode cX9_make 342 = .ok (.invokevirtual 217, 3) := by decide +kernel
theorem dX9_make_345 : decode cX9_make 345 = .ok (.aload_n 0, 1) := by decide +kernel
theorem dX9_make_346 : decode cX9_make 346 = .ok (.getfield 35, 3) := by decide +kernel
theorem dX9_make_349 : decode cX9_make 349 = .ok (.aload_n 0, 1) := by decide +kernel
theorem dX9_make_350 : decode cX9_make 350 = .ok (.getfield 48, 3) := by decide +kernel
theorem dX9_make_353 : decode cX9_make 353 = .ok (.iload_n 1, 1) := by decide +kernel
theorem dX9_make_354 : decode cX9_make 354 = .ok (.iaload, 1) := by decide +kernel
theorem dX9_make_355 : decode cX9_make 355 = .ok (.dup2, 1) := by decide +kernel
theorem dX9_make_356 : decode cX9_make 356 = .ok (.iaload, 1) := by decide +kernel
theorem dX9_make_357 : decode cX9_make 357 = .ok (.iconst 1, 1) := by decide +kernel
theorem dX9_make_358 : decode cX9_make 358 = .ok (.isub, 1) := by decide +kernel
theorem dX9_make_359 : decode cX9_make 359 = .ok (.iastore, 1) := by decide +kernel
theorem dX9_make_360 : decode cX9_make 360 = .ok (.aload_n 0, 1) := by decide +kernel
theorem dX9_make_361 : decode cX9_make 361 = .ok (.getfield 78, 3) := by decide +kernel
theorem dX9_make_364 : decode cX9_make 364 = .ok (.iload_n 1, 1) := by decide +kernel
theorem dX9_make_365 : decode cX9_make 365 = .ok (.iconst 1, 1) := by decide +kernel
theorem dX9_make_366 : decode cX9_make 366 = .ok (.bastore, 1) := by decide +kernel
theorem dX9_make_367 : decode cX9_make 367 = .ok (.aload_n 0, 1) := by decide +kernel
theorem dX9_make_368 : decode cX9_make 368 = .ok (.getfield 72, 3) := by decide +kernel
theorem dX9_make_371 : decode cX9_make 371 = .ok (.iload_n 1, 1) := by decide +kernel
theorem dX9_make_372 : decode cX9_make 372 = .ok (.aload_n 0, 1) := by decide +kernel
theorem dX9_make_373 : decode cX9_make 373 = .ok (.getfield 57, 3) := by decide +kernel
theorem dX9_make_376 : decode cX9_make 376 = .ok (.iload_n 1, 1) := by decide +kernel
theorem dX9_make_377 : decode cX9_make 377 = .ok (.iaload, 1) := by decide +kernel
theorem dX9_make_378 : decode cX9_make 378 = .ok (.iastore, 1) := by decide +kernel
theorem dX9_make_379 : decode cX9_make 379 = .ok (.aload_n 0, 1) := by decide +kernel
theorem dX9_make_380 : decode cX9_make 380 = .ok (.getfield 75, 3) := by decide +kernel
theorem dX9_make_383 : decode cX9_make 383 = .ok (.iload_n 1, 1) := by decide +kernel
theorem dX9_make_384 : decode cX9_make 384 = .ok (.aload_n 0, 1) := by decide +kernel
theorem dX9_make_385 : decode cX9_make 385 = .ok (.getfield 60, 3) := by decide +kernel
theorem dX9_make_388 : decode cX9_make 388 = .ok (.iload_n 1, 1) := by decide +kernel
theorem dX9_make_389 : decode cX9_make 389 = .ok (.iaload, 1) := by decide +kernel
theorem dX9_make_390 : decode cX9_make 390 = .ok (.iastore, 1) := by decide +kernel
theorem dX9_make_391 : decode cX9_make 391 = .ok (.aload_n 0, 1) := by decide +kernel
theorem dX9_make_392 : decode cX9_make 392 = .ok (.getfield 81, 3) := by decide +kernel
theorem dX9_make_395 : decode cX9_make 395 = .ok (.iload_n 1, 1) := by decide +kernel
theorem dX9_make_396 : decode cX9_make 396 = .ok (.iconst 0, 1) := by decide +kernel
theorem dX9_make_397 : decode cX9_make 397 = .ok (.bastore, 1) := by decide +kernel
theorem dX9_make_398 : decode cX9_make 398 = .ok (.return_, 1) := by decide +kernel
theorem dX9_leftOf_0 : decode cX9_leftOf 0 = .ok (.iconst 0, 1) := by decide +kernel
theorem dX9_leftOf_1 : decode cX9_leftOf 1 = .ok (.istore_n 2, 1) := by decide +kernel
theorem dX9_leftOf_2 : decode cX9_leftOf 2 = .ok (.iconst 0, 1) := by decide +kernel
theorem dX9_leftOf_3 : decode cX9_leftOf 3 = .ok (.istore_n 3, 1) := by decide +kernel
theorem dX9_leftOf_4 : decode cX9_leftOf 4 = .ok (.iload_n 3, 1) := by decide +kernel
theorem dX9_leftOf_5 : decode cX9_leftOf 5 = .ok (.aload_n 0, 1) := by decide +kernel
theorem dX9_leftOf_6 : decode cX9_leftOf 6 = .ok (.getfield 202, 3) := by decide +kernel
theorem dX9_leftOf_9 : decode cX9_leftOf 9 = .ok (.if_icmp .ge 57, 3) := by decide +kernel
theorem dX9_leftOf_12 : decode cX9_leftOf 12 = .ok (.iload_n 2, 1) := by decide +kernel
theorem dX9_leftOf_13 : decode cX9_leftOf 13 = .ok (.ifCond .ne 41, 3) := by decide +kernel
theorem dX9_leftOf_16 : decode cX9_leftOf 16 = .ok (.aload_n 0, 1) := by decide +kernel
theorem dX9_leftOf_17 : decode cX9_leftOf 17 = .ok (.getfield 90, 3) := by decide +kernel
theorem dX9_leftOf_20 : decode cX9_leftOf 20 = .ok (.iload_n 3, 1) := by decide +kernel
theorem dX9_leftOf_21 : decode cX9_leftOf 21 = .ok (.baload, 1) := by decide +kernel
theorem dX9_leftOf_22 : decode cX9_leftOf 22 = .ok (.ifCond .eq 36, 3) := by decide +kernel
theorem dX9_leftOf_25 : decode cX9_leftOf 25 = .ok (.aload_n 0, 1) := by decide +kernel
theorem dX9_leftOf_26 : decode cX9_leftOf 26 = .ok (.getfield 93, 3) := by decide +kernel
theorem dX9_leftOf_29 : decode cX9_leftOf 29 = .ok (.iload_n 3, 1) := by decide +kernel
theorem dX9_leftOf_30 : decode cX9_leftOf 30 = .ok (.iaload, 1) := by decide +kernel
theorem dX9_leftOf_31 : decode cX9_leftOf 31 = .ok (.iload_n 1, 1) := by decide +kernel
theorem dX9_leftOf_32 : decode cX9_leftOf 32 = .ok (.if_icmp .ne 26, 3) := by decide +kernel
theorem dX9_leftOf_35 : decode cX9_leftOf 35 = .ok (.aload_n 0, 1) := by decide +kernel
theorem dX9_leftOf_36 : decode cX9_leftOf 36 = .ok (.getfield 111, 3) := by decide +kernel
theorem dX9_leftOf_39 : decode cX9_leftOf 39 = .ok (.iload_n 3, 1) := by decide +kernel
theorem dX9_leftOf_40 : decode cX9_leftOf 40 = .ok (.iaload, 1) := by decide +kernel
theorem dX9_leftOf_41 : decode cX9_leftOf 41 = .ok (.iconst 2, 1) := by decide +kernel
theorem dX9_leftOf_42 : decode cX9_leftOf 42 = .ok (.if_icmp .ne 16, 3) := by decide +kernel
theorem dX9_leftOf_45 : decode cX9_leftOf 45 = .ok (.aload_n 0, 1) := by decide +kernel
theorem dX9_leftOf_46 : decode cX9_leftOf 46 = .ok (.getfield 123, 3) := by decide +kernel
theorem dX9_leftOf_49 : decode cX9_leftOf 49 = .ok (.iload_n 3, 1) := by decide +kernel
theorem dX9_leftOf_50 : decode cX9_leftOf 50 = .ok (.iaload, 1) := by decide +kernel
theorem dX9_leftOf_51 : decode cX9_leftOf 51 = .ok (.ifCond .le 7, 3) := by decide +kernel
theorem dX9_leftOf_54 : decode cX9_leftOf 54 = .ok (.iconst 1, 1) := by decide +kernel
theorem dX9_leftOf_55 : decode cX9_leftOf 55 = .ok (.goto 4, 3) := by decide +kernel
theorem dX9_leftOf_58 : decode cX9_leftOf 58 = .ok (.iconst 0, 1) := by decide +kernel
theorem dX9_leftOf_59 : decode cX9_leftOf 59 = .ok (.istore_n 2, 1) := by decide +kernel
theorem dX9_leftOf_60 : decode cX9_leftOf 60 = .ok (.iinc 3 1, 3) := by decide +kernel
theorem dX9_leftOf_63 : decode cX9_leftOf 63 = .ok (.goto (-59), 3) := by decide +kernel
theorem dX9_leftOf_66 : decode cX9_leftOf 66 = .ok (.iload_n 2, 1) := by decide +kernel
theorem dX9_leftOf_67 : decode cX9_leftOf 67 = .ok (.ireturn, 1) := by decide +kernel
theorem dX9_removeSub_0 : decode cX9_removeSub 0 = .ok (.aload_n 0, 1) := by decide +kernel
theorem dX9_removeSub_1 : decode cX9_removeSub 1 = .ok (.getfield 44, 3) := by decide +kernel
theorem dX9_removeSub_4 : decode cX9_removeSub 4 = .ok (.iload_n 1, 1) := by decide +kernel
theorem dX9_removeSub_5 : decode cX9_removeSub 5 = .ok (.iconst 0, 1) := by decide +kernel
theorem dX9_removeSub_6 : decode cX9_removeSub 6 = .ok (.bastore, 1) := by decide +kernel
theorem dX9_removeSub_7 : decode cX9_removeSub 7 = .ok (.iconst 0, 1) := by decide +kernel
theorem dX9_removeSub_8 : decode cX9_removeSub 8 = .ok (.istore_n 2, 1) := by decide +kernel
theorem dX9_removeSub_9 : decode cX9_removeSub 9 = .ok (.iload_n 2, 1) := by decide +kernel
theorem dX9_removeSub_10 : decode cX9_removeSub 10 = .ok (.aload_n 0, 1) := by decide +kernel
theorem dX9_removeSub_11 : decode cX9_removeSub 11 = .ok (.getfield 202, 3) := by decide +kernel
theorem dX9_removeSub_14 : decode cX9_removeSub 14 = .ok (.if_icmp .ge 39, 3) := by decide +kernel
theorem dX9_removeSub_17 : decode cX9_removeSub 17 = .ok (.aload_n 0, 1) := by decide +kernel
theorem dX9_removeSub_18 : decode cX9_removeSub 18 = .ok (.getfield 90, 3) := by decide +kernel
theorem dX9_removeSub_21 : decode cX9_removeSub 21 = .ok (.iload_n 2, 1) := by decide +kernel
theorem dX9_removeSub_22 : decode cX9_removeSub 22 = .ok (.aload_n 0, 1) := by decide +kernel
theorem dX9_removeSub_23 : decode cX9_removeSub 23 = .ok (.getfield 90, 3) := by decide +kernel
theorem dX9_removeSub_26 : decode cX9_removeSub 26 = .ok (.iload_n 2, 1) := by decide +kernel
theorem dX9_removeSub_27 : decode cX9_removeSub 27 = .ok (.baload, 1) := by decide +kernel
theorem dX9_removeSub_28 : decode cX9_removeSub 28 = .ok (.ifCond .eq 17, 3) := by decide +kernel
theorem dX9_removeSub_31 : decode cX9_removeSub 31 = .ok (.aload_n 0, 1) := by decide +kernel
theorem dX9_removeSub_32 : decode cX9_removeSub 32 = .ok (.getfield 93, 3) := by decide +kernel
theorem dX9_removeSub_35 : decode cX9_removeSub 35 = .ok (.iload_n 2, 1) := by decide +kernel
theorem dX9_removeSub_36 : decode cX9_removeSub 36 = .ok (.iaload, 1) := by decide +kernel
theorem dX9_removeSub_37 : decode cX9_removeSub 37 = .ok (.iload_n 1, 1) := by decide +kernel
theorem dX9_removeSub_38 : decode cX9_removeSub 38 = .ok (.if_icmp .eq 7, 3) := by decide +kernel
theorem dX9_removeSub_41 : decode cX9_removeSub 41 = .ok (.iconst 1, 1) := by decide +kernel
theorem dX9_removeSub_42 : decode cX9_removeSub 42 = .ok (.goto 4, 3) := by decide +kernel
theorem dX9_removeSub_45 : decode cX9_removeSub 45 = .ok (.iconst 0, 1) := by decide +kernel
theorem dX9_removeSub_46 : decode cX9_removeSub 46 = .ok (.bastore, 1) := by decide +kernel
theorem dX9_removeSub_47 : decode cX9_removeSub 47 = .ok (.iinc 2 1, 3) := by decide +kernel
theorem dX9_removeSub_50 : decode cX9_removeSub 50 = .ok (.goto (-41), 3) := by decide +kernel
theorem dX9_removeSub_53 : decode cX9_removeSub 53 = .ok (.aload_n 0, 1) := by decide +kernel
theorem dX9_removeSub_54 : decode cX9_removeSub 54 = .ok (.iload_n 1, 1) := by decide +kernel
theorem dX9_removeSub_55 : decode cX9_removeSub 55 = .ok (.iconst (-1), 1) := by decide +kernel
theorem dX9_removeSub_56 : decode cX9_removeSub 56 = .ok (.invokevirtual 221, 3) := by decide +kernel
theorem dX9_removeSub_59 : decode cX9_removeSub 59 = .ok (.return_, 1) := by decide +kernel
theorem dX9_shut_0 : decode cX9_shut 0 = .ok (.aload_n 0, 1) := by decide +kernel
theorem dX9_shut_1 : decode cX9_shut 1 = .ok (.getfield 32, 3) := by decide +kernel
theorem dX9_shut_4 : decode cX9_shut 4 = .ok (.iload_n 1, 1) := by decide +kernel
theorem dX9_shut_5 : decode cX9_shut 5 = .ok (.iconst 2, 1) := by decide +kernel
theorem dX9_shut_6 : decode cX9_shut 6 = .ok (.iastore, 1) := by decide +kernel
theorem dX9_shut_7 : decode cX9_shut 7 = .ok (.aload_n 0, 1) := by decide +kernel
theorem dX9_shut_8 : decode cX9_shut 8 = .ok (.getfield 35, 3) := by decide +kernel
theorem dX9_shut_11 : decode cX9_shut 11 = .ok (.iload_n 1, 1) := by decide +kernel
theorem dX9_shut_12 : decode cX9_shut 12 = .ok (.iconst 0, 1) := by decide +kernel
theorem dX9_shut_13 : decode cX9_shut 13 = .ok (.iastore, 1) := by decide +kernel
theorem dX9_shut_14 : decode cX9_shut 14 = .ok (.iconst 0, 1) := by decide +kernel
theorem dX9_shut_15 : decode cX9_shut 15 = .ok (.istore_n 2, 1) := by decide +kernel
theorem dX9_shut_16 : decode cX9_shut 16 = .ok (.iconst 0, 1) := by decide +kernel
theorem dX9_shut_17 : decode cX9_shut 17 = .ok (.istore_n 3, 1) := by decide +kernel
theorem dX9_shut_18 : decode cX9_shut 18 = .ok (.iload_n 3, 1) := by decide +kernel
theorem dX9_shut_19 : decode cX9_shut 19 = .ok (.aload_n 0, 1) := by decide +kernel
theorem dX9_shut_20 : decode cX9_shut 20 = .ok (.getfield 224, 3) := by decide +kernel
theorem dX9_shut_23 : decode cX9_shut 23 = .ok (.if_icmp .ge 36, 3) := by decide +kernel
theorem dX9_shut_26 : decode cX9_shut 26 = .ok (.aload_n 0, 1) := by decide +kernel
theorem dX9_shut_27 : decode cX9_shut 27 = .ok (.getfield 44, 3) := by decide +kernel
theorem dX9_shut_30 : decode cX9_shut 30 = .ok (.iload_n 3, 1) := by decide +kernel
theorem dX9_shut_31 : decode cX9_shut 31 = .ok (.baload, 1) := by decide +kernel
theorem dX9_shut_32 : decode cX9_shut 32 = .ok (.ifCond .eq 21, 3) := by decide +kernel
theorem dX9_shut_35 : decode cX9_shut 35 = .ok (.aload_n 0, 1) := by decide +kernel
theorem dX9_shut_36 : decode cX9_shut 36 = .ok (.getfield 48, 3) := by decide +kernel
theorem dX9_shut_39 : decode cX9_shut 39 = .ok (.iload_n 3, 1) := by decide +kernel
theorem dX9_shut_40 : decode cX9_shut 40 = .ok (.iaload, 1) := by decide +kernel
theorem dX9_shut_41 : decode cX9_shut 41 = .ok (.iload_n 1, 1) := by decide +kernel
theorem dX9_shut_42 : decode cX9_shut 42 = .ok (.if_icmp .ne 11, 3) := by decide +kernel
theorem dX9_shut_45 : decode cX9_shut 45 = .ok (.aload_n 0, 1) := by decide +kernel
theorem dX9_shut_46 : decode cX9_shut 46 = .ok (.iload_n 3, 1) := by decide +kernel
theorem dX9_shut_47 : decode cX9_shut 47 = .ok (.invokevirtual 227, 3) := by decide +kernel
theorem dX9_shut_50 : decode cX9_shut 50 = .ok (.iinc 2 1, 3) := by decide +kernel
theorem dX9_shut_53 : decode cX9_shut 53 = .ok (.iinc 3 1, 3) := by decide +kernel
theorem dX9_shut_56 : decode cX9_shut 56 = .ok (.goto (-38), 3) := by decide +kernel
theorem dX9_shut_59 : decode cX9_shut 59 = .ok (.iload_n 2, 1) := by decide +kernel
theorem dX9_shut_60 : decode cX9_shut 60 = .ok (.ireturn, 1) := by decide +kernel
theorem dX9_isShort_0 : decode cX9_isShort 0 = .ok (.aload_n 0, 1) := by decide +kernel
theorem dX9_isShort_1 : decode cX9_isShort 1 = .ok (.getfield 81, 3) := by decide +kernel
theorem dX9_isShort_4 : decode cX9_isShort 4 = .ok (.iload_n 1, 1) := by decide +kernel
theorem dX9_isShort_5 : decode cX9_isShort 5 = .ok (.baload, 1) := by decide +kernel
theorem dX9_isShort_6 : decode cX9_isShort 6 = .ok (.ifCond .ne 30, 3) := by decide +kernel
theorem dX9_isShort_9 : decode cX9_isShort 9 = .ok (.aload_n 0, 1) := by decide +kernel
theorem dX9_isShort_10 : decode cX9_isShort 10 = .ok (.getfield 81, 3) := by decide +kernel
theorem dX9_isShort_13 : decode cX9_isShort 13 = .ok (.iload_n 1, 1) := by decide +kernel
theorem dX9_isShort_14 : decode cX9_isShort 14 = .ok (.iconst 1, 1) := by decide +kernel
theorem dX9_isShort_15 : decode cX9_isShort 15 = .ok (.bastore, 1) := by decide +kernel
theorem dX9_isShort_16 : decode cX9_isShort 16 = .ok (.aload_n 0, 1) := by decide +kernel
theorem dX9_isShort_17 : decode cX9_isShort 17 = .ok (.dup, 1) := by decide +kernel
theorem dX9_isShort_18 : decode cX9_isShort 18 = .ok (.getfield 230, 3) := by decide +kernel
theorem dX9_isShort_21 : decode cX9_isShort 21 = .ok (.iconst 1, 1) := by decide +kernel
theorem dX9_isShort_22 : decode cX9_isShort 22 = .ok (.iadd, 1) := by decide +kernel
theorem dX9_isShort_23 : decode cX9_isShort 23 = .ok (.putfield 230, 3) := by decide +kernel
theorem dX9_isShort_26 : decode cX9_isShort 26 = .ok (.aload_n 0, 1) := by decide +kernel
theorem dX9_isShort_27 : decode cX9_isShort 27 = .ok (.getfield 84, 3) := by decide +kernel
theorem dX9_isShort_30 : decode cX9_isShort 30 = .ok (.iload_n 1, 1) := by decide +kernel
theorem dX9_isShort_31 : decode cX9_isShort 31 = .ok (.aload_n 0, 1) := by decide +kernel
theorem dX9_isShort_32 : decode cX9_isShort 32 = .ok (.getfield 230, 3) := by decide +kernel
theorem dX9_isShort_35 : decode cX9_isShort 35 = .ok (.iastore, 1) := by decide +kernel
theorem dX9_isShort_36 : decode cX9_isShort 36 = .ok (.aload_n 0, 1) := by decide +kernel
theorem dX9_isShort_37 : decode cX9_isShort 37 = .ok (.getfield 75, 3) := by decide +kernel
theorem dX9_isShort_40 : decode cX9_isShort 40 = .ok (.iload_n 1, 1) := by decide +kernel
theorem dX9_isShort_41 : decode cX9_isShort 41 = .ok (.dup2, 1) := by decide +kernel
theorem dX9_isShort_42 : decode cX9_isShort 42 = .ok (.iaload, 1) := by decide +kernel
theorem dX9_isShort_43 : decode cX9_isShort 43 = .ok (.iconst 1, 1) := by decide +kernel
theorem dX9_isShort_44 : decode cX9_isShort 44 = .ok (.isub, 1) := by decide +kernel
theorem dX9_isShort_45 : decode cX9_isShort 45 = .ok (.iastore, 1) := by decide +kernel
theorem dX9_isShort_46 : decode cX9_isShort 46 = .ok (.aload_n 0, 1) := by decide +kernel
theorem dX9_isShort_47 : decode cX9_isShort 47 = .ok (.getfield 75, 3) := by decide +kernel
theorem dX9_isShort_50 : decode cX9_isShort 50 = .ok (.iload_n 1, 1) := by decide +kernel
theorem dX9_isShort_51 : decode cX9_isShort 51 = .ok (.iaload, 1) := by decide +kernel
theorem dX9_isShort_52 : decode cX9_isShort 52 = .ok (.ifCond .gt 8, 3) := by decide +kernel
theorem dX9_isShort_55 : decode cX9_isShort 55 = .ok (.aload_n 0, 1) := by decide +kernel
theorem dX9_isShort_56 : decode cX9_isShort 56 = .ok (.iload_n 1, 1) := by decide +kernel
theorem dX9_isShort_57 : decode cX9_isShort 57 = .ok (.invokevirtual 227, 3) := by decide +kernel
theorem dX9_isShort_60 : decode cX9_isShort 60 = .ok (.return_, 1) := by decide +kernel
theorem dX9_mayMake_0 : decode cX9_mayMake 0 = .ok (.aload_n 0, 1) := by decide +kernel
theorem dX9_mayMake_1 : decode cX9_mayMake 1 = .ok (.getfield 35, 3) := by decide +kernel
theorem dX9_mayMake_4 : decode cX9_mayMake 4 = .ok (.aload_n 0, 1) := by decide +kernel
theorem dX9_mayMake_5 : decode cX9_mayMake 5 = .ok (.getfield 48, 3) := by decide +kernel
theorem dX9_mayMake_8 : decode cX9_mayMake 8 = .ok (.iload_n 1, 1) := by decide +kernel
theorem dX9_mayMake_9 : decode cX9_mayMake 9 = .ok (.iaload, 1) := by decide +kernel
theorem dX9_mayMake_10 : decode cX9_mayMake 10 = .ok (.iaload, 1) := by decide +kernel
theorem dX9_mayMake_11 : decode cX9_mayMake 11 = .ok (.ifCond .le 17, 3) := by decide +kernel
theorem dX9_mayMake_14 : decode cX9_mayMake 14 = .ok (.aload_n 0, 1) := by decide +kernel
theorem dX9_mayMake_15 : decode cX9_mayMake 15 = .ok (.getfield 205, 3) := by decide +kernel
