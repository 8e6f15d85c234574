theorem dX0_init_0 : decode cX0_init 0 = .ok (.aload_n 0, 1) := by decide +kernel
theorem dX0_init_1 : decode cX0_init 1 = .ok (.invokespecial 1, 3) := by decide +kernel
theorem dX0_init_4 : decode cX0_init 4 = .ok (.aload_n 0, 1) := by decide +kernel
theorem dX0_init_5 : decode cX0_init 5 = .ok (.iconst 0, 1) := by decide +kernel
theorem dX0_init_6 : decode cX0_init 6 = .ok (.putfield 7, 3) := by decide +kernel
theorem dX0_init_9 : decode cX0_init 9 = .ok (.aload_n 0, 1) := by decide +kernel
theorem dX0_init_10 : decode cX0_init 10 = .ok (.lload_n 1, 1) := by decide +kernel
theorem dX0_init_11 : decode cX0_init 11 = .ok (.putfield 13, 3) := by decide +kernel
theorem dX0_init_14 : decode cX0_init 14 = .ok (.aload_n 0, 1) := by decide +kernel
theorem dX0_init_15 : decode cX0_init 15 = .ok (.iload_n 3, 1) := by decide +kernel
theorem dX0_init_16 : decode cX0_init 16 = .ok (.putfield 17, 3) := by decide +kernel
theorem dX0_init_19 : decode cX0_init 19 = .ok (.aload_n 0, 1) := by decide +kernel
theorem dX0_init_20 : decode cX0_init 20 = .ok (.iload 4, 2) := by decide +kernel
theorem dX0_init_22 : decode cX0_init 22 = .ok (.putfield 21, 3) := by decide +kernel
theorem dX0_init_25 : decode cX0_init 25 = .ok (.return_, 1) := by decide +kernel
theorem dX1_init_0 : decode cX1_init 0 = .ok (.aload_n 0, 1) := by decide +kernel
theorem dX1_init_1 : decode cX1_init 1 = .ok (.invokespecial 1, 3) := by decide +kernel
theorem dX1_init_4 : decode cX1_init 4 = .ok (.aload_n 0, 1) := by decide +kernel
theorem dX1_init_5 : decode cX1_init 5 = .ok (.iconst 0, 1) := by decide +kernel
theorem dX1_init_6 : decode cX1_init 6 = .ok (.putfield 9, 3) := by decide +kernel
theorem dX1_init_9 : decode cX1_init 9 = .ok (.aload_n 0, 1) := by decide +kernel
theorem dX1_init_10 : decode cX1_init 10 = .ok (.iconst 0, 1) := by decide +kernel
theorem dX1_init_11 : decode cX1_init 11 = .ok (.putfield 13, 3) := by decide +kernel
theorem dX1_init_14 : decode cX1_init 14 = .ok (.aload_n 0, 1) := by decide +kernel
theorem dX1_init_15 : decode cX1_init 15 = .ok (.lconst 0, 1) := by decide +kernel
theorem dX1_init_16 : decode cX1_init 16 = .ok (.putfield 17, 3) := by decide +kernel
theorem dX1_init_19 : decode cX1_init 19 = .ok (.aload_n 0, 1) := by decide +kernel
theorem dX1_init_20 : decode cX1_init 20 = .ok (.iconst 0, 1) := by decide +kernel
theorem dX1_init_21 : decode cX1_init 21 = .ok (.putfield 21, 3) := by decide +kernel
theorem dX1_init_24 : decode cX1_init 24 = .ok (.aload_n 0, 1) := by decide +kernel
theorem dX1_init_25 : decode cX1_init 25 = .ok (.iload_n 1, 1) := by decide +kernel
theorem dX1_init_26 : decode cX1_init 26 = .ok (.putfield 24, 3) := by decide +kernel
theorem dX1_init_29 : decode cX1_init 29 = .ok (.aload_n 0, 1) := by decide +kernel
theorem dX1_init_30 : decode cX1_init 30 = .ok (.aload_n 2, 1) := by decide +kernel
theorem dX1_init_31 : decode cX1_init 31 = .ok (.putfield 27, 3) := by decide +kernel
theorem dX1_init_34 : decode cX1_init 34 = .ok (.aload_n 0, 1) := by decide +kernel
theorem dX1_init_35 : decode cX1_init 35 = .ok (.aload_n 3, 1) := by decide +kernel
theorem dX1_init_36 : decode cX1_init 36 = .ok (.putfield 31, 3) := by decide +kernel
theorem dX1_init_39 : decode cX1_init 39 = .ok (.aload_n 0, 1) := by decide +kernel
theorem dX1_init_40 : decode cX1_init 40 = .ok (.iload 4, 2) := by decide +kernel
theorem dX1_init_42 : decode cX1_init 42 = .ok (.putfield 35, 3) := by decide +kernel
theorem dX1_init_45 : decode cX1_init 45 = .ok (.aload_n 0, 1) := by decide +kernel
theorem dX1_init_46 : decode cX1_init 46 = .ok (.iload 5, 2) := by decide +kernel
theorem dX1_init_48 : decode cX1_init 48 = .ok (.putfield 38, 3) := by decide +kernel
theorem dX1_init_51 : decode cX1_init 51 = .ok (.aload_n 0, 1) := by decide +kernel
theorem dX1_init_52 : decode cX1_init 52 = .ok (.lload 6, 2) := by decide +kernel
theorem dX1_init_54 : decode cX1_init 54 = .ok (.putfield 41, 3) := by decide +kernel
theorem dX1_init_57 : decode cX1_init 57 = .ok (.aload_n 0, 1) := by decide +kernel
theorem dX1_init_58 : decode cX1_init 58 = .ok (.aload 8, 2) := by decide +kernel
theorem dX1_init_60 : decode cX1_init 60 = .ok (.putfield 44, 3) := by decide +kernel
theorem dX1_init_63 : decode cX1_init 63 = .ok (.return_, 1) := by decide +kernel
theorem dX1_mayHave_0 : decode cX1_mayHave 0 = .ok (.iload_n 0, 1) := by decide +kernel
theorem dX1_mayHave_1 : decode cX1_mayHave 1 = .ok (.iconst 1, 1) := by decide +kernel
theorem dX1_mayHave_2 : decode cX1_mayHave 2 = .ok (.bipush 100, 2) := by decide +kernel
theorem dX1_mayHave_4 : decode cX1_mayHave 4 = .ok (.invokestatic 48, 3) := by decide +kernel
theorem dX1_mayHave_7 : decode cX1_mayHave 7 = .ok (.ifCond .eq 32, 3) := by decide +kernel
theorem dX1_mayHave_10 : decode cX1_mayHave 10 = .ok (.iload_n 1, 1) := by decide +kernel
theorem dX1_mayHave_11 : decode cX1_mayHave 11 = .ok (.iconst 1, 1) := by decide +kernel
theorem dX1_mayHave_12 : decode cX1_mayHave 12 = .ok (.bipush 8, 2) := by decide +kernel
theorem dX1_mayHave_14 : decode cX1_mayHave 14 = .ok (.invokestatic 48, 3) := by decide +kernel
theorem dX1_mayHave_17 : decode cX1_mayHave 17 = .ok (.ifCond .eq 22, 3) := by decide +kernel
theorem dX1_mayHave_20 : decode cX1_mayHave 20 = .ok (.iload_n 2, 1) := by decide +kernel
theorem dX1_mayHave_21 : decode cX1_mayHave 21 = .ok (.iconst 0, 1) := by decide +kernel
theorem dX1_mayHave_22 : decode cX1_mayHave 22 = .ok (.iconst 2, 1) := by decide +kernel
theorem dX1_mayHave_23 : decode cX1_mayHave 23 = .ok (.invokestatic 48, 3) := by decide +kernel
theorem dX1_mayHave_26 : decode cX1_mayHave 26 = .ok (.ifCond .eq 13, 3) := by decide +kernel
theorem dX1_mayHave_29 : decode cX1_mayHave 29 = .ok (.lload_n 3, 1) := by decide +kernel
theorem dX1_mayHave_30 : decode cX1_mayHave 30 = .ok (.lconst 0, 1) := by decide +kernel
theorem dX1_mayHave_31 : decode cX1_mayHave 31 = .ok (.lcmp, 1) := by decide +kernel
theorem dX1_mayHave_32 : decode cX1_mayHave 32 = .ok (.ifCond .lt 7, 3) := by decide +kernel
theorem dX1_mayHave_35 : decode cX1_mayHave 35 = .ok (.iconst 1, 1) := by decide +kernel
theorem dX1_mayHave_36 : decode cX1_mayHave 36 = .ok (.goto 4, 3) := by decide +kernel
theorem dX1_mayHave_39 : decode cX1_mayHave 39 = .ok (.iconst 0, 1) := by decide +kernel
theorem dX1_mayHave_40 : decode cX1_mayHave 40 = .ok (.ireturn, 1) := by decide +kernel
theorem dX1_switchTo_0 : decode cX1_switchTo 0 = .ok (.aload_n 0, 1) := by decide +kernel
theorem dX1_switchTo_1 : decode cX1_switchTo 1 = .ok (.getfield 9, 3) := by decide +kernel
theorem dX1_switchTo_4 : decode cX1_switchTo 4 = .ok (.ifCond .ne 7, 3) := by decide +kernel
theorem dX1_switchTo_7 : decode cX1_switchTo 7 = .ok (.iconst 1, 1) := by decide +kernel
theorem dX1_switchTo_8 : decode cX1_switchTo 8 = .ok (.goto 4, 3) := by decide +kernel
theorem dX1_switchTo_11 : decode cX1_switchTo 11 = .ok (.iconst 0, 1) := by decide +kernel
theorem dX1_switchTo_12 : decode cX1_switchTo 12 = .ok (.istore_n 3, 1) := by decide +kernel
theorem dX1_switchTo_13 : decode cX1_switchTo 13 = .ok (.aload_n 0, 1) := by decide +kernel
theorem dX1_switchTo_14 : decode cX1_switchTo 14 = .ok (.iload_n 1, 1) := by decide +kernel
theorem dX1_switchTo_15 : decode cX1_switchTo 15 = .ok (.putfield 9, 3) := by decide +kernel
theorem dX1_switchTo_18 : decode cX1_switchTo 18 = .ok (.iload_n 1, 1) := by decide +kernel
theorem dX1_switchTo_19 : decode cX1_switchTo 19 = .ok (.ifCond .ne 21, 3) := by decide +kernel
theorem dX1_switchTo_22 : decode cX1_switchTo 22 = .ok (.aload_n 0, 1) := by decide +kernel
theorem dX1_switchTo_23 : decode cX1_switchTo 23 = .ok (.iconst 0, 1) := by decide +kernel
theorem dX1_switchTo_24 : decode cX1_switchTo 24 = .ok (.putfield 13, 3) := by decide +kernel
theorem dX1_switchTo_27 : decode cX1_switchTo 27 = .ok (.aload_n 0, 1) := by decide +kernel
theorem dX1_switchTo_28 : decode cX1_switchTo 28 = .ok (.getfield 44, 3) := by decide +kernel
theorem dX1_switchTo_31 : decode cX1_switchTo 31 = .ok (.getfield 56, 3) := by decide +kernel
theorem dX1_switchTo_34 : decode cX1_switchTo 34 = .ok (.invokevirtual 60, 3) := by decide +kernel
theorem dX1_switchTo_37 : decode cX1_switchTo 37 = .ok (.goto 12, 3) := by decide +kernel
theorem dX1_switchTo_40 : decode cX1_switchTo 40 = .ok (.iload_n 3, 1) := by decide +kernel
theorem dX1_switchTo_41 : decode cX1_switchTo 41 = .ok (.ifCond .eq 8, 3) := by decide +kernel
theorem dX1_switchTo_44 : decode cX1_switchTo 44 = .ok (.aload_n 0, 1) := by decide +kernel
theorem dX1_switchTo_45 : decode cX1_switchTo 45 = .ok (.iload_n 2, 1) := by decide +kernel
theorem dX1_switchTo_46 : decode cX1_switchTo 46 = .ok (.invokevirtual 65, 3) := by decide +kernel
theorem dX1_switchTo_49 : decode cX1_switchTo 49 = .ok (.return_, 1) := by decide +kernel
theorem dX1_sample_0 : decode cX1_sample 0 = .ok (.aload_n 0, 1) := by decide +kernel
theorem dX1_sample_1 : decode cX1_sample 1 = .ok (.getfield 31, 3) := by decide +kernel
theorem dX1_sample_4 : decode cX1_sample 4 = .ok (.getfield 69, 3) := by decide +kernel
theorem dX1_sample_7 : decode cX1_sample 7 = .ok (.lstore_n 2, 1) := by decide +kernel
theorem dX1_sample_8 : decode cX1_sample 8 = .ok (.aload_n 0, 1) := by decide +kernel
theorem dX1_sample_9 : decode cX1_sample 9 = .ok (.getfield 13, 3) := by decide +kernel
theorem dX1_sample_12 : decode cX1_sample 12 = .ok (.ifCond .eq 11, 3) := by decide +kernel
theorem dX1_sample_15 : decode cX1_sample 15 = .ok (.aload_n 0, 1) := by decide +kernel
theorem dX1_sample_16 : decode cX1_sample 16 = .ok (.lload_n 2, 1) := by decide +kernel
theorem dX1_sample_17 : decode cX1_sample 17 = .ok (.invokevirtual 74, 3) := by decide +kernel
theorem dX1_sample_20 : decode cX1_sample 20 = .ok (.ifCond .eq 33, 3) := by decide +kernel
theorem dX1_sample_23 : decode cX1_sample 23 = .ok (.aload_n 0, 1) := by decide +kernel
theorem dX1_sample_24 : decode cX1_sample 24 = .ok (.iconst 1, 1) := by decide +kernel
theorem dX1_sample_25 : decode cX1_sample 25 = .ok (.putfield 13, 3) := by decide +kernel
theorem dX1_sample_28 : decode cX1_sample 28 = .ok (.aload_n 0, 1) := by decide +kernel
theorem dX1_sample_29 : decode cX1_sample 29 = .ok (.lload_n 2, 1) := by decide +kernel
theorem dX1_sample_30 : decode cX1_sample 30 = .ok (.putfield 17, 3) := by decide +kernel
theorem dX1_sample_33 : decode cX1_sample 33 = .ok (.aload_n 0, 1) := by decide +kernel
theorem dX1_sample_34 : decode cX1_sample 34 = .ok (.getfield 44, 3) := by decide +kernel
theorem dX1_sample_37 : decode cX1_sample 37 = .ok (.new 78, 3) := by decide +kernel
theorem dX1_sample_40 : decode cX1_sample 40 = .ok (.dup, 1) := by decide +kernel
theorem dX1_sample_41 : decode cX1_sample 41 = .ok (.lload_n 2, 1) := by decide +kernel
theorem dX1_sample_42 : decode cX1_sample 42 = .ok (.aload_n 0, 1) := by decide +kernel
theorem dX1_sample_43 : decode cX1_sample 43 = .ok (.getfield 24, 3) := by decide +kernel
theorem dX1_sample_46 : decode cX1_sample 46 = .ok (.iload_n 1, 1) := by decide +kernel
theorem dX1_sample_47 : decode cX1_sample 47 = .ok (.invokespecial 80, 3) := by decide +kernel
theorem dX1_sample_50 : decode cX1_sample 50 = .ok (.invokevirtual 83, 3) := by decide +kernel
theorem dX1_sample_53 : decode cX1_sample 53 = .ok (.return_, 1) := by decide +kernel
theorem dX1_isBeyondBand_0 : decode cX1_isBeyondBand 0 = .ok (.lload_n 1, 1) := by decide +kernel
theorem dX1_isBeyondBand_1 : decode cX1_isBeyondBand 1 = .ok (.aload_n 0, 1) := by decide +kernel
theorem dX1_isBeyondBand_2 : decode cX1_isBeyondBand 2 = .ok (.getfield 17, 3) := by decide +kernel
theorem dX1_isBeyondBand_5 : decode cX1_isBeyondBand 5 = .ok (.invokestatic 87, 3) := by decide +kernel
theorem dX1_isBeyondBand_8 : decode cX1_isBeyondBand 8 = .ok (.lload_n 1, 1) := by decide +kernel
theorem dX1_isBeyondBand_9 : decode cX1_isBeyondBand 9 = .ok (.aload_n 0, 1) := by decide +kernel
theorem dX1_isBeyondBand_10 : decode cX1_isBeyondBand 10 = .ok (.getfield 17, 3) := by decide +kernel
theorem dX1_isBeyondBand_13 : decode cX1_isBeyondBand 13 = .ok (.invokestatic 93, 3) := by decide +kernel
theorem dX1_isBeyondBand_16 : decode cX1_isBeyondBand 16 = .ok (.lsub, 1) := by decide +kernel
theorem dX1_isBeyondBand_17 : decode cX1_isBeyondBand 17 = .ok (.lstore_n 3, 1) := by decide +kernel
theorem dX1_isBeyondBand_18 : decode cX1_isBeyondBand 18 = .ok (.lload_n 3, 1) := by decide +kernel
theorem dX1_isBeyondBand_19 : decode cX1_isBeyondBand 19 = .ok (.lconst 0, 1) := by decide +kernel
theorem dX1_isBeyondBand_20 : decode cX1_isBeyondBand 20 = .ok (.lcmp, 1) := by decide +kernel
theorem dX1_isBeyondBand_21 : decode cX1_isBeyondBand 21 = .ok (.ifCond .lt 12, 3) := by decide +kernel
theorem dX1_isBeyondBand_24 : decode cX1_isBeyondBand 24 = .ok (.lload_n 3, 1) := by decide +kernel
theorem dX1_isBeyondBand_25 : decode cX1_isBeyondBand 25 = .ok (.aload_n 0, 1) := by decide +kernel
theorem dX1_isBeyondBand_26 : decode cX1_isBeyondBand 26 = .ok (.getfield 41, 3) := by decide +kernel
theorem dX1_isBeyondBand_29 : decode cX1_isBeyondBand 29 = .ok (.lcmp, 1) := by decide +kernel
theorem dX1_isBeyondBand_30 : decode cX1_isBeyondBand 30 = .ok (.ifCond .le 7, 3) := by decide +kernel
theorem dX1_isBeyondBand_33 : decode cX1_isBeyondBand 33 = .ok (.iconst 1, 1) := by decide +kernel
theorem dX1_isBeyondBand_34 : decode cX1_isBeyondBand 34 = .ok (.goto 4, 3) := by decide +kernel
theorem dX1_isBeyondBand_37 : decode cX1_isBeyondBand 37 = .ok (.iconst 0, 1) := by decide +kernel
theorem dX1_isBeyondBand_38 : decode cX1_isBeyondBand 38 = .ok (.ireturn, 1) := by decide +kernel
theorem dX2_init_0 : decode cX2_init 0 = .ok (.aload_n 0, 1) := by decide +kernel
theorem dX2_init_1 : decode cX2_init 1 = .ok (.invokespecial 1, 3) := by decide +kernel
theorem dX2_init_4 : decode cX2_init 4 = .ok (.aload_n 0, 1) := by decide +kernel
theorem dX2_init_5 : decode cX2_init 5 = .ok (.iconst 0, 1) := by decide +kernel
theorem dX2_init_6 : decode cX2_init 6 = .ok (.putfield 7, 3) := by decide +kernel
theorem dX2_init_9 : decode cX2_init 9 = .ok (.aload_n 0, 1) := by decide +kernel
theorem dX2_init_10 : decode cX2_init 10 = .ok (.iconst 0, 1) := by decide +kernel
theorem dX2_init_11 : decode cX2_init 11 = .ok (.putfield 13, 3) := by decide +kernel
theorem dX2_init_14 : decode cX2_init 14 = .ok (.aload_n 0, 1) := by decide +kernel
theorem dX2_init_15 : decode cX2_init 15 = .ok (.iload_n 1, 1) := by decide +kernel
theorem dX2_init_16 : decode cX2_init 16 = .ok (.putfield 16, 3) := by decide +kernel
theorem dX2_init_19 : decode cX2_init 19 = .ok (.aload_n 0, 1) := by decide +kernel
theorem dX2_init_20 : decode cX2_init 20 = .ok (.iload_n 2, 1) := by decide +kernel
theorem dX2_init_21 : decode cX2_init 21 = .ok (.putfield 20, 3) := by decide +kernel
theorem dX2_init_24 : decode cX2_init 24 = .ok (.aload_n 0, 1) := by decide +kernel
theorem dX2_init_25 : decode cX2_init 25 = .ok (.iload_n 3, 1) := by decide +kernel
theorem dX2_init_26 : decode cX2_init 26 = .ok (.putfield 23, 3) := by decide +kernel
theorem dX2_init_29 : decode cX2_init 29 = .ok (.aload_n 0, 1) := by decide +kernel
theorem dX2_init_30 : decode cX2_init 30 = .ok (.iload 4, 2) := by decide +kernel
theorem dX2_init_32 : decode cX2_init 32 = .ok (.putfield 26, 3) := by decide +kernel
theorem dX2_init_35 : decode cX2_init 35 = .ok (.aload_n 0, 1) := by decide +kernel
theorem dX2_init_36 : decode cX2_init 36 = .ok (.aload 5, 2) := by decide +kernel
theorem dX2_init_38 : decode cX2_init 38 = .ok (.putfield 29, 3) := by decide +kernel
theorem dX2_init_41 : decode cX2_init 41 = .ok (.return_, 1) := by decide +kernel
theorem dX3_init_0 : decode cX3_init 0 = .ok (.aload_n 0, 1) := by decide +kernel
theorem dX3_init_1 : decode cX3_init 1 = .ok (.invokespecial 1, 3) := by decide +kernel
theorem dX3_init_4 : decode cX3_init 4 = .ok (.aload_n 0, 1) := by decide +kernel
theorem dX3_init_5 : decode cX3_init 5 = .ok (.lconst 0, 1) := by decide +kernel
theorem dX3_init_6 : decode cX3_init 6 = .ok (.putfield 7, 3) := by decide +kernel
theorem dX3_init_9 : decode cX3_init 9 = .ok (.aload_n 0, 1) := by decide +kernel
theorem dX3_init_10 : decode cX3_init 10 = .ok (.iload_n 1, 1) := by decide +kernel
theorem dX3_init_11 : decode cX3_init 11 = .ok (.putfield 13, 3) := by decide +kernel
theorem dX3_init_14 : decode cX3_init 14 = .ok (.aload_n 0, 1) := by decide +kernel
theorem dX3_init_15 : decode cX3_init 15 = .ok (.iload_n 2, 1) := by decide +kernel
theorem dX3_init_16 : decode cX3_init 16 = .ok (.putfield 17, 3) := by decide +kernel
theorem dX3_init_19 : decode cX3_init 19 = .ok (.return_, 1) := by decide +kernel
theorem dX4_init_0 : decode cX4_init 0 = .ok (.aload_n 0, 1) := by decide +kernel
theorem dX4_init_1 : decode cX4_init 1 = .ok (.invokespecial 1, 3) := by decide +kernel
theorem dX4_init_4 : decode cX4_init 4 = .ok (.aload_n 0, 1) := by decide +kernel
theorem dX4_init_5 : decode cX4_init 5 = .ok (.new 7, 3) := by decide +kernel
theorem dX4_init_8 : decode cX4_init 8 = .ok (.dup, 1) := by decide +kernel
theorem dX4_init_9 : decode cX4_init 9 = .ok (.invokespecial 9, 3) := by decide +kernel
theorem dX4_init_12 : decode cX4_init 12 = .ok (.putfield 10, 3) := by decide +kernel
theorem dX4_init_15 : decode cX4_init 15 = .ok (.aload_n 0, 1) := by decide +kernel
theorem dX4_init_16 : decode cX4_init 16 = .ok (.iload_n 1, 1) := by decide +kernel
theorem dX4_init_17 : decode cX4_init 17 = .ok (.putfield 16, 3) := by decide +kernel
theorem dX4_init_20 : decode cX4_init 20 = .ok (.aload_n 0, 1) := by decide +kernel
theorem dX4_init_21 : decode cX4_init 21 = .ok (.iload_n 2, 1) := by decide +kernel
theorem dX4_init_22 : decode cX4_init 22 = .ok (.putfield 20, 3) := by decide +kernel
theorem dX4_init_25 : decode cX4_init 25 = .ok (.return_, 1) := by decide +kernel
theorem dX4_put_0 : decode cX4_put 0 = .ok (.aload_n 0, 1) := by decide +kernel
theorem dX4_put_1 : decode cX4_put 1 = .ok (.getfield 10, 3) := by decide +kernel
theorem dX4_put_4 : decode cX4_put 4 = .ok (.invokevirtual 24, 3) := by decide +kernel
theorem dX4_put_7 : decode cX4_put 7 = .ok (.aload_n 0, 1) := by decide +kernel
theorem dX4_put_8 : decode cX4_put 8 = .ok (.getfield 16, 3) := by decide +kernel
theorem dX4_put_11 : decode cX4_put 11 = .ok (.if_icmp .ge 15, 3) := by decide +kernel
theorem dX4_put_14 : decode cX4_put 14 = .ok (.aload_n 0, 1) := by decide +kernel
theorem dX4_put_15 : decode cX4_put 15 = .ok (.getfield 10, 3) := by decide +kernel
theorem dX4_put_18 : decode cX4_put 18 = .ok (.aload_n 1, 1) := by decide +kernel
theorem dX4_put_19 : decode cX4_put 19 = .ok (.invokevirtual 27, 3) := by decide +kernel
theorem dX4_put_22 : decode cX4_put 22 = .ok (.pop, 1) := by decide +kernel
theorem dX4_put_23 : decode cX4_put 23 = .ok (.goto 90, 3) := by decide +kernel
theorem dX4_put_26 : decode cX4_put 26 = .ok (.aload_n 0, 1) := by decide +kernel
theorem dX4_put_27 : decode cX4_put 27 = .ok (.getfield 16, 3) := by decide +kernel
theorem dX4_put_30 : decode cX4_put 30 = .ok (.iconst 1, 1) := by decide +kernel
theorem dX4_put_31 : decode cX4_put 31 = .ok (.if_icmp .ne 16, 3) := by decide +kernel
theorem dX4_put_34 : decode cX4_put 34 = .ok (.aload_n 0, 1) := by decide +kernel
theorem dX4_put_35 : decode cX4_put 35 = .ok (.getfield 10, 3) := by decide +kernel
theorem dX4_put_38 : decode cX4_put 38 = .ok (.iconst 0, 1) := by decide +kernel
theorem dX4_put_39 : decode cX4_put 39 = .ok (.aload_n 1, 1) := by decide +kernel
theorem dX4_put_40 : decode cX4_put 40 = .ok (.invokevirtual 31, 3) := by decide +kernel
theorem dX4_put_43 : decode cX4_put 43 = .ok (.pop, 1) := by decide +kernel
theorem dX4_put_44 : decode cX4_put 44 = .ok (.goto 69, 3) := by decide +kernel
theorem dX4_put_47 : decode cX4_put 47 = .ok (.aload_n 0, 1) := by decide +kernel
theorem dX4_put_48 : decode cX4_put 48 = .ok (.getfield 20, 3) := by decide +kernel
theorem dX4_put_51 : decode cX4_put 51 = .ok (.ifCond .eq 39, 3) := by decide +kernel
theorem dX4_put_54 : decode cX4_put 54 = .ok (.aload_n 0, 1) := by decide +kernel
theorem dX4_put_55 : decode cX4_put 55 = .ok (.getfield 10, 3) := by decide +kernel
theorem dX4_put_58 : decode cX4_put 58 = .ok (.iconst 0, 1) := by decide +kernel
theorem dX4_put_59 : decode cX4_put 59 = .ok (.invokevirtual 35, 3) := by decide +kernel
theorem dX4_put_62 : decode cX4_put 62 = .ok (.pop, 1) := by decide +kernel
theorem dX4_put_63 : decode cX4_put 63 = .ok (.aload_n 0, 1) := by decide +kernel
theorem dX4_put_64 : decode cX4_put 64 = .ok (.getfield 10, 3) := by decide +kernel
theorem dX4_put_67 : decode cX4_put 67 = .ok (.iconst 0, 1) := by decide +kernel
theorem dX4_put_68 : decode cX4_put 68 = .ok (.invokevirtual 39, 3) := by decide +kernel
theorem dX4_put_71 : decode cX4_put 71 = .ok (.checkcast 42, 3) := by decide +kernel
theorem dX4_put_74 : decode cX4_put 74 = .ok (.iconst 1, 1) := by decide +kernel
theorem dX4_put_75 : decode cX4_put 75 = .ok (.putfield 44, 3) := by decide +kernel
theorem dX4_put_78 : decode cX4_put 78 = .ok (.aload_n 0, 1) := by decide +kernel
theorem dX4_put_79 : decode cX4_put 79 = .ok (.getfield 10, 3) := by decide +kernel
theorem dX4_put_82 : decode cX4_put 82 = .ok (.aload_n 1, 1) := by decide +kernel
theorem dX4_put_83 : decode cX4_put 83 = .ok (.invokevirtual 27, 3) := by decide +kernel
theorem dX4_put_86 : decode cX4_put 86 = .ok (.pop, 1) := by decide +kernel
theorem dX4_put_87 : decode cX4_put 87 = .ok (.goto 26, 3) := by decide +kernel
theorem dX4_put_90 : decode cX4_put 90 = .ok (.aload_n 1, 1) := by decide +kernel
theorem dX4_put_91 : decode cX4_put 91 = .ok (.iconst 1, 1) := by decide +kernel
theorem dX4_put_92 : decode cX4_put 92 = .ok (.putfield 44, 3) := by decide +kernel
theorem dX4_put_95 : decode cX4_put 95 = .ok (.aload_n 0, 1) := by decide +kernel
theorem dX4_put_96 : decode cX4_put 96 = .ok (.getfield 10, 3) := by decide +kernel
theorem dX4_put_99 : decode cX4_put 99 = .ok (.aload_n 0, 1) := by decide +kernel
theorem dX4_put_100 : decode cX4_put 100 = .ok (.getfield 10, 3) := by decide +kernel
theorem dX4_put_103 : decode cX4_put 103 = .ok (.invokevirtual 24, 3) := by decide +kernel
theorem dX4_put_106 : decode cX4_put 106 = .ok (.iconst 1, 1) := by decide +kernel
theorem dX4_put_107 : decode cX4_put 107 = .ok (.isub, 1) := by decide +kernel
theorem dX4_put_108 : decode cX4_put 108 = .ok (.aload_n 1, 1) := by decide +kernel
theorem dX4_put_109 : decode cX4_put 109 = .ok (.invokevirtual 31, 3) := by decide +kernel
theorem dX4_put_112 : decode cX4_put 112 = .ok (.pop, 1) := by decide +kernel
theorem dX4_put_113 : decode cX4_put 113 = .ok (.return_, 1) := by decide +kernel
theorem dX4_firstHasBit_0 : decode cX4_firstHasBit 0 = .ok (.aload_n 0, 1) := by decide +kernel
theorem dX4_firstHasBit_1 : decode cX4_firstHasBit 1 = .ok (.getfield 10, 3) := by decide +kernel
theorem dX4_firstHasBit_4 : decode cX4_firstHasBit 4 = .ok (.invokevirtual 47, 3) := by decide +kernel
theorem dX4_firstHasBit_7 : decode cX4_firstHasBit 7 = .ok (.ifCond .ne 24, 3) := by decide +kernel
theorem dX4_firstHasBit_10 : decode cX4_firstHasBit 10 = .ok (.aload_n 0, 1) := by decide +kernel
theorem dX4_firstHasBit_11 : decode cX4_firstHasBit 11 = .ok (.getfield 10, 3) := by decide +kernel
theorem dX4_firstHasBit_14 : decode cX4_firstHasBit 14 = .ok (.iconst 0, 1) := by decide +kernel
theorem dX4_firstHasBit_15 : decode cX4_firstHasBit 15 = .ok (.invokevirtual 39, 3) := by decide +kernel
theorem dX4_firstHasBit_18 : decode cX4_firstHasBit 18 = .ok (.checkcast 42, 3) := by decide +kernel
theorem dX4_firstHasBit_21 : decode cX4_firstHasBit 21 = .ok (.getfield 44, 3) := by decide +kernel
theorem dX4_firstHasBit_24 : decode cX4_firstHasBit 24 = .ok (.ifCond .eq 7, 3) := by decide +kernel
theorem dX4_firstHasBit_27 : decode cX4_firstHasBit 27 = .ok (.iconst 1, 1) := by decide +kernel
theorem dX4_firstHasBit_28 : decode cX4_firstHasBit 28 = .ok (.goto 4, 3) := by decide +kernel
theorem dX4_firstHasBit_31 : decode cX4_firstHasBit 31 = .ok (.iconst 0, 1) := by decide +kernel
theorem dX4_firstHasBit_32 : decode cX4_firstHasBit 32 = .ok (.ireturn, 1) := by decide +kernel
theorem dX5_init_0 : decode cX5_init 0 = .ok (.aload_n 0, 1) := by decide +kernel
theorem dX5_init_1 : decode cX5_init 1 = .ok (.invokespecial 1, 3) := by decide +kernel
theorem dX5_init_4 : decode cX5_init 4 = .ok (.aload_n 0, 1) := by decide +kernel
theorem dX5_init_5 : decode cX5_init 5 = .ok (.iload_n 1, 1) := by decide +kernel
theorem dX5_init_6 : decode cX5_init 6 = .ok (.putfield 7, 3) := by decide +kernel
theorem dX5_init_9 : decode cX5_init 9 = .ok (.aload_n 0, 1) := by decide +kernel
theorem dX5_init_10 : decode cX5_init 10 = .ok (.iload_n 2, 1) := by decide +kernel
theorem dX5_init_11 : decode cX5_init 11 = .ok (.putfield 13, 3) := by decide +kernel
theorem dX5_init_14 : decode cX5_init 14 = .ok (.aload_n 0, 1) := by decide +kernel
theorem dX5_init_15 : decode cX5_init 15 = .ok (.iload_n 3, 1) := by decide +kernel
theorem dX5_init_16 : decode cX5_init 16 = .ok (.putfield 16, 3) := by decide +kernel
theorem dX5_init_19 : decode cX5_init 19 = .ok (.return_, 1) := by decide +kernel
theorem dX5_touches_0 : decode cX5_touches 0 = .ok (.iload_n 2, 1) := by decide +kernel
theorem dX5_touches_1 : decode cX5_touches 1 = .ok (.iconst 1, 1) := by decide +kernel
theorem dX5_touches_2 : decode cX5_touches 2 = .ok (.if_icmp .eq 11, 3) := by decide +kernel
theorem dX5_touches_5 : decode cX5_touches 5 = .ok (.aload_n 0, 1) := by decide +kernel
theorem dX5_touches_6 : decode cX5_touches 6 = .ok (.getfield 7, 3) := by decide +kernel
theorem dX5_touches_9 : decode cX5_touches 9 = .ok (.iload_n 1, 1) := by decide +kernel
theorem dX5_touches_10 : decode cX5_touches 10 = .ok (.if_icmp .eq 15, 3) := by decide +kernel
theorem dX5_touches_13 : decode cX5_touches 13 = .ok (.iload_n 2, 1) := by decide +kernel
theorem dX5_touches_14 : decode cX5_touches 14 = .ok (.ifCond .eq 15, 3) := by decide +kernel
theorem dX5_touches_17 : decode cX5_touches 17 = .ok (.aload_n 0, 1) := by decide +kernel
theorem dX5_touches_18 : decode cX5_touches 18 = .ok (.getfield 13, 3) := by decide +kernel
theorem dX5_touches_21 : decode cX5_touches 21 = .ok (.iload_n 1, 1) := by decide +kernel
theorem dX5_touches_22 : decode cX5_touches 22 = .ok (.if_icmp .ne 7, 3) := by decide +kernel
theorem dX5_touches_25 : decode cX5_touches 25 = .ok (.iconst 1, 1) := by decide +kernel
theorem dX5_touches_26 : decode cX5_touches 26 = .ok (.goto 4, 3) := by decide +kernel
theorem dX5_touches_29 : decode cX5_touches 29 = .ok (.iconst 0, 1) := by decide +kernel
theorem dX5_touches_30 : decode cX5_touches 30 = .ok (.ireturn, 1) := by decide +kernel
theorem dX5_isAmong_0 : decode cX5_isAmong 0 = .ok (.iload_n 1, 1) := by decide +kernel
theorem dX5_isAmong_1 : decode cX5_isAmong 1 = .ok (.aload_n 0, 1) := by decide +kernel
theorem dX5_isAmong_2 : decode cX5_isAmong 2 = .ok (.getfield 16, 3) := by decide +kernel
theorem dX5_isAmong_5 : decode cX5_isAmong 5 = .ok (.iushr, 1) := by decide +kernel
theorem dX5_isAmong_6 : decode cX5_isAmong 6 = .ok (.iconst 1, 1) := by decide +kernel
theorem dX5_isAmong_7 : decode cX5_isAmong 7 = .ok (.iand, 1) := by decide +kernel
theorem dX5_isAmong_8 : decode cX5_isAmong 8 = .ok (.iconst 1, 1) := by decide +kernel
theorem dX5_isAmong_9 : decode cX5_isAmong 9 = .ok (.if_icmp .ne 7, 3) := by decide +kernel
theorem dX5_isAmong_12 : decode cX5_isAmong 12 = .ok (.iconst 1, 1) := by decide +kernel
theorem dX5_isAmong_13 : decode cX5_isAmong 13 = .ok (.goto 4, 3) := by decide +kernel
theorem dX5_isAmong_16 : decode cX5_isAmong 16 = .ok (.iconst 0, 1) := by decide +kernel
theorem dX5_isAmong_17 : decode cX5_isAmong 17 = .ok (.ireturn, 1) := by decide +kernel
theorem dX5_otherEnd_0 : decode cX5_otherEnd 0 = .ok (.aload_n 0, 1) := by decide +kernel
theorem dX5_otherEnd_1 : decode cX5_otherEnd 1 = .ok (.getfield 7, 3) := by decide +kernel
theorem dX5_otherEnd_4 : decode cX5_otherEnd 4 = .ok (.iload_n 1, 1) := by decide +kernel
theorem dX5_otherEnd_5 : decode cX5_otherEnd 5 = .ok (.if_icmp .ne 10, 3) := by decide +kernel
theorem dX5_otherEnd_8 : decode cX5_otherEnd 8 = .ok (.aload_n 0, 1) := by decide +kernel
theorem dX5_otherEnd_9 : decode cX5_otherEnd 9 = .ok (.getfield 13, 3) := by decide +kernel
theorem dX5_otherEnd_12 : decode cX5_otherEnd 12 = .ok (.goto 7, 3) := by decide +kernel
theorem dX5_otherEnd_15 : decode cX5_otherEnd 15 = .ok (.aload_n 0, 1) := by decide +kernel
theorem dX5_otherEnd_16 : decode cX5_otherEnd 16 = .ok (.getfield 7, 3) := by decide +kernel
theorem dX5_otherEnd_19 : decode cX5_otherEnd 19 = .ok (.ireturn, 1) := by decide +kernel
theorem dX6_init_0 : decode cX6_init 0 = .ok (.aload_n 0, 1) := by decide +kernel
theorem dX6_init_1 : decode cX6_init 1 = .ok (.invokespecial 1, 3) := by decide +kernel
theorem dX6_init_4 : decode cX6_init 4 = .ok (.aload_n 0, 1) := by decide +kernel
theorem dX6_init_5 : decode cX6_init 5 = .ok (.new 7, 3) := by decide +kernel
theorem dX6_init_8 : decode cX6_init 8 = .ok (.dup, 1) := by decide +kernel
theorem dX6_init_9 : decode cX6_init 9 = .ok (.invokespecial 9, 3) := by decide +kernel
theorem dX6_init_12 : decode cX6_init 12 = .ok (.putfield 10, 3) := by decide +kernel
theorem dX6_init_15 : decode cX6_init 15 = .ok (.aload_n 0, 1) := by decide +kernel
theorem dX6_init_16 : decode cX6_init 16 = .ok (.iconst 0, 1) := by decide +kernel
theorem dX6_init_17 : decode cX6_init 17 = .ok (.putfield 16, 3) := by decide +kernel
theorem dX6_init_20 : decode cX6_init 20 = .ok (.aload_n 0, 1) := by decide +kernel
theorem dX6_init_21 : decode cX6_init 21 = .ok (.iconst 0, 1) := by decide +kernel
theorem dX6_init_22 : decode cX6_init 22 = .ok (.putfield 20, 3) := by decide +kernel
theorem dX6_init_25 : decode cX6_init 25 = .ok (.aload_n 0, 1) := by decide +kernel
theorem dX6_init_26 : decode cX6_init 26 = .ok (.iload_n 1, 1) := by decide +kernel
theorem dX6_init_27 : decode cX6_init 27 = .ok (.putfield 23, 3) := by decide +kernel
theorem dX6_init_30 : decode cX6_init 30 = .ok (.aload_n 0, 1) := by decide +kernel
theorem dX6_init_31 : decode cX6_init 31 = .ok (.iload_n 2, 1) := by decide +kernel
theorem dX6_init_32 : decode cX6_init 32 = .ok (.putfield 26, 3) := by decide +kernel
theorem dX6_init_35 : decode cX6_init 35 = .ok (.aload_n 0, 1) := by decide +kernel
theorem dX6_init_36 : decode cX6_init 36 = .ok (.iload_n 3, 1) := by decide +kernel
theorem dX6_init_37 : decode cX6_init 37 = .ok (.iload_n 2, 1) := by decide +kernel
theorem dX6_init_38 : decode cX6_init 38 = .ok (.iadd, 1) := by decide +kernel
theorem dX6_init_39 : decode cX6_init 39 = .ok (.putfield 29, 3) := by decide +kernel
theorem dX6_init_42 : decode cX6_init 42 = .ok (.return_, 1) := by decide +kernel
theorem dX6_renew_0 : decode cX6_renew 0 = .ok (.aload_n 0, 1) := by decide +kernel
theorem dX6_renew_1 : decode cX6_renew 1 = .ok (.iload_n 1, 1) := by decide +kernel
theorem dX6_renew_2 : decode cX6_renew 2 = .ok (.aload_n 0, 1) := by decide +kernel
theorem dX6_renew_3 : decode cX6_renew 3 = .ok (.getfield 26, 3) := by decide +kernel
theorem dX6_renew_6 : decode cX6_renew 6 = .ok (.iadd, 1) := by decide +kernel
theorem dX6_renew_7 : decode cX6_renew 7 = .ok (.putfield 29, 3) := by decide +kernel
theorem dX6_renew_10 : decode cX6_renew 10 = .ok (.return_, 1) := by decide +kernel
theorem dX7_init_0 : decode cX7_init 0 = .ok (.aload_n 0, 1) := by decide +kernel
theorem dX7_init_1 : decode cX7_init 1 = .ok (.invokespecial 1, 3) := by decide +kernel
theorem dX7_init_4 : decode cX7_init 4 = .ok (.aload_n 0, 1) := by decide +kernel
theorem dX7_init_5 : decode cX7_init 5 = .ok (.new 7, 3) := by decide +kernel
theorem dX7_init_8 : decode cX7_init 8 = .ok (.dup, 1) := by decide +kernel
theorem dX7_init_9 : decode cX7_init 9 = .ok (.invokespecial 9, 3) := by decide +kernel
theorem dX7_init_12 : decode cX7_init 12 = .ok (.putfield 10, 3) := by decide +kernel
theorem dX7_init_15 : decode cX7_init 15 = .ok (.aload_n 0, 1) := by decide +kernel
theorem dX7_init_16 : decode cX7_init 16 = .ok (.new 7, 3) := by decide +kernel
theorem dX7_init_19 : decode cX7_init 19 = .ok (.dup, 1) := by decide +kernel
theorem dX7_init_20 : decode cX7_init 20 = .ok (.invokespecial 9, 3) := by decide +kernel
theorem dX7_init_23 : decode cX7_init 23 = .ok (.putfield 16, 3) := by decide +kernel
theorem dX7_init_26 : decode cX7_init 26 = .ok (.aload_n 0, 1) := by decide +kernel
theorem dX7_init_27 : decode cX7_init 27 = .ok (.iconst 1, 1) := by decide +kernel
theorem dX7_init_28 : decode cX7_init 28 = .ok (.putfield 19, 3) := by decide +kernel
theorem dX7_init_31 : decode cX7_init 31 = .ok (.aload_n 0, 1) := by decide +kernel
theorem dX7_init_32 : decode cX7_init 32 = .ok (.iconst 1, 1) := by decide +kernel
theorem dX7_init_33 : decode cX7_init 33 = .ok (.putfield 23, 3) := by decide +kernel
theorem dX7_init_36 : decode cX7_init 36 = .ok (.aload_n 0, 1) := by decide +kernel
theorem dX7_init_37 : decode cX7_init 37 = .ok (.iconst 0, 1) := by decide +kernel
theorem dX7_init_38 : decode cX7_init 38 = .ok (.putfield 27, 3) := by decide +kernel
theorem dX7_init_41 : decode cX7_init 41 = .ok (.aload_n 0, 1) := by decide +kernel
theorem dX7_init_42 : decode cX7_init 42 = .ok (.iconst 0, 1) := by decide +kernel
theorem dX7_init_43 : decode cX7_init 43 = .ok (.putfield 30, 3) := by decide +kernel
theorem dX7_init_46 : decode cX7_init 46 = .ok (.aload_n 0, 1) := by decide +kernel
theorem dX7_init_47 : decode cX7_init 47 = .ok (.iconst 0, 1) := by decide +kernel
theorem dX7_init_48 : decode cX7_init 48 = .ok (.putfield 33, 3) := by decide +kernel
theorem dX7_init_51 : decode cX7_init 51 = .ok (.aload_n 0, 1) := by decide +kernel
theorem dX7_init_52 : decode cX7_init 52 = .ok (.iconst 0, 1) := by decide +kernel
theorem dX7_init_53 : decode cX7_init 53 = .ok (.putfield 36, 3) := by decide +kernel
theorem dX7_init_56 : decode cX7_init 56 = .ok (.aload_n 0, 1) := by decide +kernel
theorem dX7_init_57 : decode cX7_init 57 = .ok (.iconst 0, 1) := by decide +kernel
theorem dX7_init_58 : decode cX7_init 58 = .ok (.putfield 39, 3) := by decide +kernel
theorem dX7_init_61 : decode cX7_init 61 = .ok (.aload_n 0, 1) := by decide +kernel
theorem dX7_init_62 : decode cX7_init 62 = .ok (.iload_n 1, 1) := by decide +kernel
theorem dX7_init_63 : decode cX7_init 63 = .ok (.putfield 42, 3) := by decide +kernel
theorem dX7_init_66 : decode cX7_init 66 = .ok (.aload_n 0, 1) := by decide +kernel
theorem dX7_init_67 : decode cX7_init 67 = .ok (.aload_n 2, 1) := by decide +kernel
theorem dX7_init_68 : decode cX7_init 68 = .ok (.putfield 45, 3) := by decide +kernel
theorem dX7_init_71 : decode cX7_init 71 = .ok (.return_, 1) := by decide +kernel
theorem dX7_mayHave_0 : decode cX7_mayHave 0 = .ok (.iload_n 0, 1) := by decide +kernel
theorem dX7_mayHave_1 : decode cX7_mayHave 1 = .ok (.iconst 1, 1) := by decide +kernel
theorem dX7_mayHave_2 : decode cX7_mayHave 2 = .ok (.bipush 100, 2) := by decide +kernel
theorem dX7_mayHave_4 : decode cX7_mayHave 4 = .ok (.invokestatic 49, 3) := by decide +kernel
theorem dX7_mayHave_7 : decode cX7_mayHave 7 = .ok (.ifCond .eq 37, 3) := by decide +kernel
theorem dX7_mayHave_10 : decode cX7_mayHave 10 = .ok (.iload_n 1, 1) := by decide +kernel
theorem dX7_mayHave_11 : decode cX7_mayHave 11 = .ok (.iconst 1, 1) := by decide +kernel
theorem dX7_mayHave_12 : decode cX7_mayHave 12 = .ok (.bipush 20, 2) := by decide +kernel
theorem dX7_mayHave_14 : decode cX7_mayHave 14 = .ok (.invokestatic 49, 3) := by decide +kernel
theorem dX7_mayHave_17 : decode cX7_mayHave 17 = .ok (.ifCond .eq 27, 3) := by decide +kernel
theorem dX7_mayHave_20 : decode cX7_mayHave 20 = .ok (.iload_n 2, 1) := by decide +kernel
theorem dX7_mayHave_21 : decode cX7_mayHave 21 = .ok (.iconst 3, 1) := by decide +kernel
theorem dX7_mayHave_22 : decode cX7_mayHave 22 = .ok (.bipush 100, 2) := by decide +kernel
theorem dX7_mayHave_24 : decode cX7_mayHave 24 = .ok (.invokestatic 49, 3) := by decide +kernel
theorem dX7_mayHave_27 : decode cX7_mayHave 27 = .ok (.ifCond .eq 17, 3) := by decide +kernel
theorem dX7_mayHave_30 : decode cX7_mayHave 30 = .ok (.iload_n 3, 1) := by decide +kernel
theorem dX7_mayHave_31 : decode cX7_mayHave 31 = .ok (.iconst 0, 1) := by decide +kernel
theorem dX7_mayHave_32 : decode cX7_mayHave 32 = .ok (.bipush 10, 2) := by decide +kernel
theorem dX7_mayHave_34 : decode cX7_mayHave 34 = .ok (.invokestatic 49, 3) := by decide +kernel
theorem dX7_mayHave_37 : decode cX7_mayHave 37 = .ok (.ifCond .eq 7, 3) := by decide +kernel
theorem dX7_mayHave_40 : decode cX7_mayHave 40 = .ok (.iconst 1, 1) := by decide +kernel
theorem dX7_mayHave_41 : decode cX7_mayHave 41 = .ok (.goto 4, 3) := by decide +kernel
theorem dX7_mayHave_44 : decode cX7_mayHave 44 = .ok (.iconst 0, 1) := by decide +kernel
theorem dX7_mayHave_45 : decode cX7_mayHave 45 = .ok (.ireturn, 1) := by decide +kernel
theorem dX7_begin_0 : decode cX7_begin 0 = .ok (.aload_n 0, 1) := by decide +kernel
theorem dX7_begin_1 : decode cX7_begin 1 = .ok (.iload_n 1, 1) := by decide +kernel
theorem dX7_begin_2 : decode cX7_begin 2 = .ok (.putfield 55, 3) := by decide +kernel
theorem dX7_begin_5 : decode cX7_begin 5 = .ok (.aload_n 0, 1) := by decide +kernel
theorem dX7_begin_6 : decode cX7_begin 6 = .ok (.iload_n 2, 1) := by decide +kernel
theorem dX7_begin_7 : decode cX7_begin 7 = .ok (.putfield 58, 3) := by decide +kernel
theorem dX7_begin_10 : decode cX7_begin 10 = .ok (.aload_n 0, 1) := by decide +kernel
theorem dX7_begin_11 : decode cX7_begin 11 = .ok (.iload_n 3, 1) := by decide +kernel
theorem dX7_begin_12 : decode cX7_begin 12 = .ok (.putfield 61, 3) := by decide +kernel
theorem dX7_begin_15 : decode cX7_begin 15 = .ok (.aload_n 0, 1) := by decide +kernel
theorem dX7_begin_16 : decode cX7_begin 16 = .ok (.iload 4, 2) := by decide +kernel
theorem dX7_begin_18 : decode cX7_begin 18 = .ok (.putfield 64, 3) := by decide +kernel
theorem dX7_begin_21 : decode cX7_begin 21 = .ok (.aload_n 0, 1) := by decide +kernel
theorem dX7_begin_22 : decode cX7_begin 22 = .ok (.iload 5, 2) := by decide +kernel
theorem dX7_begin_24 : decode cX7_begin 24 = .ok (.putfield 67, 3) := by decide +kernel
theorem dX7_begin_27 : decode cX7_begin 27 = .ok (.aload_n 0, 1) := by decide +kernel
theorem dX7_begin_28 : decode cX7_begin 28 = .ok (.iload_n 3, 1) := by decide +kernel
theorem dX7_begin_29 : decode cX7_begin 29 = .ok (.putfield 70, 3) := by decide +kernel
theorem dX7_begin_32 : decode cX7_begin 32 = .ok (.aload_n 0, 1) := by decide +kernel
theorem dX7_begin_33 : decode cX7_begin 33 = .ok (.iload 4, 2) := by decide +kernel
theorem dX7_begin_35 : decode cX7_begin 35 = .ok (.putfield 73, 3) := by decide +kernel
theorem dX7_begin_38 : decode cX7_begin 38 = .ok (.return_, 1) := by decide +kernel
theorem dX7_isReady_0 : decode cX7_isReady 0 = .ok (.aload_n 0, 1) := by decide +kernel
theorem dX7_isReady_1 : decode cX7_isReady 1 = .ok (.getfield 19, 3) := by decide +kernel
theorem dX7_isReady_4 : decode cX7_isReady 4 = .ok (.ifCond .eq 14, 3) := by decide +kernel
theorem dX7_isReady_7 : decode cX7_isReady 7 = .ok (.aload_n 0, 1) := by decide +kernel
theorem dX7_isReady_8 : decode cX7_isReady 8 = .ok (.invokevirtual 76, 3) := by decide +kernel
theorem dX7_isReady_11 : decode cX7_isReady 11 = .ok (.ifCond .le 7, 3) := by decide +kernel
theorem dX7_isReady_14 : decode cX7_isReady 14 = .ok (.iconst 1, 1) := by decide +kernel
theorem dX7_isReady_15 : decode cX7_isReady 15 = .ok (.goto 4, 3) := by decide +kernel
theorem dX7_isReady_18 : decode cX7_isReady 18 = .ok (.iconst 0, 1) := by decide +kernel
theorem dX7_isReady_19 : decode cX7_isReady 19 = .ok (.ireturn, 1) := by decide +kernel
theorem dX7_wantsToSend_0 : decode cX7_wantsToSend 0 = .ok (.aload_n 0, 1) := by decide +kernel
theorem dX7_wantsToSend_1 : decode cX7_wantsToSend 1 = .ok (.invokevirtual 80, 3) := by decide +kernel
theorem dX7_wantsToSend_4 : decode cX7_wantsToSend 4 = .ok (.ifCond .eq 5, 3) := by decide +kernel
theorem dX7_wantsToSend_7 : decode cX7_wantsToSend 7 = .ok (.iconst 1, 1) := by decide +kernel
theorem dX7_wantsToSend_8 : decode cX7_wantsToSend 8 = .ok (.ireturn, 1) := by decide +kernel
theorem dX7_wantsToSend_9 : decode cX7_wantsToSend 9 = .ok (.aload_n 0, 1) := by decide +kernel
theorem dX7_wantsToSend_10 : decode cX7_wantsToSend 10 = .ok (.getfield 27, 3) := by decide +kernel
theorem dX7_wantsToSend_13 : decode cX7_wantsToSend 13 = .ok (.ifCond .eq 13, 3) := by decide +kernel
theorem dX7_wantsToSend_16 : decode cX7_wantsToSend 16 = .ok (.aload_n 0, 1) := by decide +kernel
theorem dX7_wantsToSend_17 : decode cX7_wantsToSend 17 = .ok (.dup, 1) := by decide +kernel
theorem dX7_wantsToSend_18 : decode cX7_wantsToSend 18 = .ok (.getfield 70, 3) := by decide +kernel
theorem dX7_wantsToSend_21 : decode cX7_wantsToSend 21 = .ok (.iconst 1, 1) := by decide +kernel
theorem dX7_wantsToSend_22 : decode cX7_wantsToSend 22 = .ok (.isub, 1) := by decide +kernel
theorem dX7_wantsToSend_23 : decode cX7_wantsToSend 23 = .ok (.putfield 70, 3) := by decide +kernel
theorem dX7_wantsToSend_26 : decode cX7_wantsToSend 26 = .ok (.aload_n 0, 1) := by decide +kernel
theorem dX7_wantsToSend_27 : decode cX7_wantsToSend 27 = .ok (.getfield 27, 3) := by decide +kernel
theorem dX7_wantsToSend_30 : decode cX7_wantsToSend 30 = .ok (.ifCond .eq 10, 3) := by decide +kernel
theorem dX7_wantsToSend_33 : decode cX7_wantsToSend 33 = .ok (.aload_n 0, 1) := by decide +kernel
theorem dX7_wantsToSend_34 : decode cX7_wantsToSend 34 = .ok (.getfield 70, 3) := by decide +kernel
theorem dX7_wantsToSend_37 : decode cX7_wantsToSend 37 = .ok (.ifCond .gt 7, 3) := by decide +kernel
theorem dX7_wantsToSend_40 : decode cX7_wantsToSend 40 = .ok (.iconst 1, 1) := by decide +kernel
theorem dX7_wantsToSend_41 : decode cX7_wantsToSend 41 = .ok (.goto 4, 3) := by decide +kernel
theorem dX7_wantsToSend_44 : decode cX7_wantsToSend 44 = .ok (.iconst 0, 1) := by decide +kernel
theorem dX7_wantsToSend_45 : decode cX7_wantsToSend 45 = .ok (.ireturn, 1) := by decide +kernel
theorem dX7_countEntries_0 : decode cX7_countEntries 0 = .ok (.iconst 0, 1) := by decide +kernel
theorem dX7_countEntries_1 : decode cX7_countEntries 1 = .ok (.istore_n 1, 1) := by decide +kernel
theorem dX7_countEntries_2 : decode cX7_countEntries 2 = .ok (.iconst 0, 1) := by decide +kernel
theorem dX7_countEntries_3 : decode cX7_countEntries 3 = .ok (.istore_n 2, 1) := by decide +kernel
theorem dX7_countEntries_4 : decode cX7_countEntries 4 = .ok (.iload_n 2, 1) := by decide +kernel
theorem dX7_countEntries_5 : decode cX7_countEntries 5 = .ok (.aload_n 0, 1) := by decide +kernel
theorem dX7_countEntries_6 : decode cX7_countEntries 6 = .ok (.getfield 10, 3) := by decide +kernel
theorem dX7_countEntries_9 : decode cX7_countEntries 9 = .ok (.invokevirtual 84, 3) := by decide +kernel
theorem dX7_countEntries_12 : decode cX7_countEntries 12 = .ok (.if_icmp .ge 42, 3) := by decide +kernel
theorem dX7_countEntries_15 : decode cX7_countEntries 15 = .ok (.aload_n 0, 1) := by decide +kernel
theorem dX7_countEntries_16 : decode cX7_countEntries 16 = .ok (.getfield 10, 3) := by decide +kernel
theorem dX7_countEntries_19 : decode cX7_countEntries 19 = .ok (.iload_n 2, 1) := by decide +kernel
theorem dX7_countEntries_20 : decode cX7_countEntries 20 = .ok (.invokevirtual 87, 3) := by decide +kernel
theorem dX7_countEntries_23 : decode cX7_countEntries 23 = .ok (.checkcast 91, 3) := by decide +kernel
theorem dX7_countEntries_26 : decode cX7_countEntries 26 = .ok (.astore_n 3, 1) := by decide +kernel
theorem dX7_countEntries_27 : decode cX7_countEntries 27 = .ok (.aload_n 3, 1) := by decide +kernel
theorem dX7_countEntries_28 : decode cX7_countEntries 28 = .ok (.getfield 93, 3) := by decide +kernel
theorem dX7_countEntries_31 : decode cX7_countEntries 31 = .ok (.iconst 2, 1) := by decide +kernel
theorem dX7_countEntries_32 : decode cX7_countEntries 32 = .ok (.if_icmp .ne 16, 3) := by decide +kernel
theorem dX7_countEntries_35 : decode cX7_countEntries 35 = .ok (.iload_n 1, 1) := by decide +kernel
theorem dX7_countEntries_36 : decode cX7_countEntries 36 = .ok (.aload_n 3, 1) := by decide +kernel
theorem dX7_countEntries_37 : decode cX7_countEntries 37 = .ok (.getfield 96, 3) := by decide +kernel
theorem dX7_countEntries_40 : decode cX7_countEntries 40 = .ok (.getfield 100, 3) := by decide +kernel
theorem dX7_countEntries_43 : decode cX7_countEntries 43 = .ok (.invokevirtual 84, 3) := by decide +kernel
theorem dX7_countEntries_46 : decode cX7_countEntries 46 = .ok (.iadd, 1) := by decide +kernel
theorem dX7_countEntries_47 : decode cX7_countEntries 47 = .ok (.istore_n 1, 1) := by decide +kernel
theorem dX7_countEntries_48 : decode cX7_countEntries 48 = .ok (.iinc 2 1, 3) := by decide +kernel
theorem dX7_countEntries_51 : decode cX7_countEntries 51 = .ok (.goto (-47), 3) := by decide +kernel
theorem dX7_countEntries_54 : decode cX7_countEntries 54 = .ok (.iload_n 1, 1) := by decide +kernel
theorem dX7_countEntries_55 : decode cX7_countEntries 55 = .ok (.ireturn, 1) := by decide +kernel
theorem dX7_takeEntries_0 : decode cX7_takeEntries 0 = .ok (.aload_n 0, 1) := by decide +kernel
theorem dX7_takeEntries_1 : decode cX7_takeEntries 1 = .ok (.getfield 67, 3) := by decide +kernel
theorem dX7_takeEntries_4 : decode cX7_takeEntries 4 = .ok (.ifCond .ne 8, 3) := by decide +kernel
theorem dX7_takeEntries_7 : decode cX7_takeEntries 7 = .ok (.bipush 40, 2) := by decide +kernel
theorem dX7_takeEntries_9 : decode cX7_takeEntries 9 = .ok (.goto 7, 3) := by decide +kernel
theorem dX7_takeEntries_12 : decode cX7_takeEntries 12 = .ok (.aload_n 0, 1) := by decide +kernel
theorem dX7_takeEntries_13 : decode cX7_takeEntries 13 = .ok (.getfield 67, 3) := by decide +kernel
theorem dX7_takeEntries_16 : decode cX7_takeEntries 16 = .ok (.istore_n 1, 1) := by decide +kernel
theorem dX7_takeEntries_17 : decode cX7_takeEntries 17 = .ok (.aload_n 0, 1) := by decide +kernel
theorem dX7_takeEntries_18 : decode cX7_takeEntries 18 = .ok (.getfield 19, 3) := by decide +kernel
theorem dX7_takeEntries_21 : decode cX7_takeEntries 21 = .ok (.ifCond .eq 14, 3) := by decide +kernel
theorem dX7_takeEntries_24 : decode cX7_takeEntries 24 = .ok (.iload_n 1, 1) := by decide +kernel
theorem dX7_takeEntries_25 : decode cX7_takeEntries 25 = .ok (.aload_n 0, 1) := by decide +kernel
theorem dX7_takeEntries_26 : decode cX7_takeEntries 26 = .ok (.invokevirtual 76, 3) := by decide +kernel
theorem dX7_takeEntries_29 : decode cX7_takeEntries 29 = .ok (.invokestatic 105, 3) := by decide +kernel
theorem dX7_takeEntries_32 : decode cX7_takeEntries 32 = .ok (.goto 4, 3) := by decide +kernel
theorem dX7_takeEntries_35 : decode cX7_takeEntries 35 = .ok (.iconst 0, 1) := by decide +kernel
theorem dX7_takeEntries_36 : decode cX7_takeEntries 36 = .ok (.istore_n 2, 1) := by decide +kernel
theorem dX7_takeEntries_37 : decode cX7_takeEntries 37 = .ok (.iload_n 2, 1) := by decide +kernel
theorem dX7_takeEntries_38 : decode cX7_takeEntries 38 = .ok (.anewarray 111, 3) := by decide +kernel
theorem dX7_takeEntries_41 : decode cX7_takeEntries 41 = .ok (.astore_n 3, 1) := by decide +kernel
theorem dX7_takeEntries_42 : decode cX7_takeEntries 42 = .ok (.iconst 0, 1) := by decide +kernel
theorem dX7_takeEntries_43 : decode cX7_takeEntries 43 = .ok (.istore 4, 2) := by decide +kernel
theorem dX7_takeEntries_45 : decode cX7_takeEntries 45 = .ok (.iconst 0, 1) := by decide +kernel
theorem dX7_takeEntries_46 : decode cX7_takeEntries 46 = .ok (.istore 5, 2) := by decide +kernel
theorem dX7_takeEntries_48 : decode cX7_takeEntries 48 = .ok (.iload 5, 2) := by decide +kernel
theorem dX7_takeEntries_50 : decode cX7_takeEntries 50 = .ok (.aload_n 0, 1) := by decide +kernel
theorem dX7_takeEntries_51 : decode cX7_takeEntries 51 = .ok (.getfield 10, 3) := by decide +kernel
theorem dX7_takeEntries_54 : decode cX7_takeEntries 54 = .ok (.invokevirtual 84, 3) := by decide +kernel
theorem dX7_takeEntries_57 : decode cX7_takeEntries 57 = .ok (.if_icmp .ge 104, 3) := by decide +kernel
theorem dX7_takeEntries_60 : decode cX7_takeEntries 60 = .ok (.iload 4, 2) := by decide +kernel
theorem dX7_takeEntries_62 : decode cX7_takeEntries 62 = .ok (.iload_n 2, 1) := by decide +kernel
theorem dX7_takeEntries_63 : decode cX7_takeEntries 63 = .ok (.if_icmp .ge 98, 3) := by decide +kernel
theorem dX7_takeEntries_66 : decode cX7_takeEntries 66 = .ok (.aload_n 0, 1) := by decide +kernel
theorem dX7_takeEntries_67 : decode cX7_takeEntries 67 = .ok (.getfield 10, 3) := by decide +kernel
theorem dX7_takeEntries_70 : decode cX7_takeEntries 70 = .ok (.iload 5, 2) := by decide +kernel
theorem dX7_takeEntries_72 : decode cX7_takeEntries 72 = .ok (.invokevirtual 87, 3) := by decide +kernel
theorem dX7_takeEntries_75 : decode cX7_takeEntries 75 = .ok (.checkcast 91, 3) := by decide +kernel
theorem dX7_takeEntries_78 : decode cX7_takeEntries 78 = .ok (.astore 6, 2) := by decide +kernel
theorem dX7_takeEntries_80 : decode cX7_takeEntries 80 = .ok (.aload 6, 2) := by decide +kernel
theorem dX7_takeEntries_82 : decode cX7_takeEntries 82 = .ok (.getfield 93, 3) := by decide +kernel
theorem dX7_takeEntries_85 : decode cX7_takeEntries 85 = .ok (.iconst 2, 1) := by decide +kernel
theorem dX7_takeEntries_86 : decode cX7_takeEntries 86 = .ok (.if_icmp .ne 17, 3) := by decide +kernel
theorem dX7_takeEntries_89 : decode cX7_takeEntries 89 = .ok (.aload 6, 2) := by decide +kernel
theorem dX7_takeEntries_91 : decode cX7_takeEntries 91 = .ok (.getfield 96, 3) := by decide +kernel
theorem dX7_takeEntries_94 : decode cX7_takeEntries 94 = .ok (.getfield 100, 3) := by decide +kernel
theorem dX7_takeEntries_97 : decode cX7_takeEntries 97 = .ok (.invokevirtual 84, 3) := by decide +kernel
theorem dX7_takeEntries_100 : decode cX7_takeEntries 100 = .ok (.goto 4, 3) := by decide +kernel
theorem dX7_takeEntries_103 : decode cX7_takeEntries 103 = .ok (.iconst 0, 1) := by decide +kernel
theorem dX7_takeEntries_104 : decode cX7_takeEntries 104 = .ok (.istore 7, 2) := by decide +kernel
theorem dX7_takeEntries_106 : decode cX7_takeEntries 106 = .ok (.iload 7, 2) := by decide +kernel
theorem dX7_takeEntries_108 : decode cX7_takeEntries 108 = .ok (.iload_n 2, 1) := by decide +kernel
theorem dX7_takeEntries_109 : decode cX7_takeEntries 109 = .ok (.iload 4, 2) := by decide +kernel
theorem dX7_takeEntries_111 : decode cX7_takeEntries 111 = .ok (.isub, 1) := by decide +kernel
theorem dX7_takeEntries_112 : decode cX7_takeEntries 112 = .ok (.invokestatic 105, 3) := by decide +kernel
theorem dX7_takeEntries_115 : decode cX7_takeEntries 115 = .ok (.istore 8, 2) := by decide +kernel
theorem dX7_takeEntries_117 : decode cX7_takeEntries 117 = .ok (.iconst 0, 1) := by decide +kernel
theorem dX7_takeEntries_118 : decode cX7_takeEntries 118 = .ok (.istore 9, 2) := by decide +kernel
theorem dX7_takeEntries_120 : decode cX7_takeEntries 120 = .ok (.iload 9, 2) := by decide +kernel
theorem dX7_takeEntries_122 : decode cX7_takeEntries 122 = .ok (.iload 8, 2) := by decide +kernel
theorem dX7_takeEntries_124 : decode cX7_takeEntries 124 = .ok (.if_icmp .ge 31, 3) := by decide +kernel
theorem dX7_takeEntries_127 : decode cX7_takeEntries 127 = .ok (.aload_n 3, 1) := by decide +kernel
theorem dX7_takeEntries_128 : decode cX7_takeEntries 128 = .ok (.iload 4, 2) := by decide +kernel
theorem dX7_takeEntries_130 : decode cX7_takeEntries 130 = .ok (.aload 6, 2) := by decide +kernel
theorem dX7_takeEntries_132 : decode cX7_takeEntries 132 = .ok (.getfield 96, 3) := by decide +kernel
theorem dX7_takeEntries_135 : decode cX7_takeEntries 135 = .ok (.getfield 100, 3) := by decide +kernel
theorem dX7_takeEntries_138 : decode cX7_takeEntries 138 = .ok (.iconst 0, 1) := by decide +kernel
theorem dX7_takeEntries_139 : decode cX7_takeEntries 139 = .ok (.invokevirtual 113, 3) := by decide +kernel
theorem dX7_takeEntries_142 : decode cX7_takeEntries 142 = .ok (.checkcast 111, 3) := by decide +kernel
theorem dX7_takeEntries_145 : decode cX7_takeEntries 145 = .ok (.aastore, 1) := by decide +kernel
theorem dX7_takeEntries_146 : decode cX7_takeEntries 146 = .ok (.iinc 4 1, 3) := by decide +kernel
theorem dX7_takeEntries_149 : decode cX7_takeEntries 149 = .ok (.iinc 9 1, 3) := by decide +kernel
theorem dX7_takeEntries_152 : decode cX7_takeEntries 152 = .ok (.goto (-32), 3) := by decide +kernel
theorem dX7_takeEntries_155 : decode cX7_takeEntries 155 = .ok (.iinc 5 1, 3) := by decide +kernel
theorem dX7_takeEntries_158 : decode cX7_takeEntries 158 = .ok (.goto (-110), 3) := by decide +kernel
theorem dX7_takeEntries_161 : decode cX7_takeEntries 161 = .ok (.aload_n 3, 1) := by decide +kernel
theorem dX7_takeEntries_162 : decode cX7_takeEntries 162 = .ok (.areturn, 1) := by decide +kernel
theorem dX7_keepMessage_0 : decode cX7_keepMessage 0 = .ok (.aload_n 0, 1) := by decide +kernel
theorem dX7_keepMessage_1 : decode cX7_keepMessage 1 = .ok (.getfield 16, 3) := by decide +kernel
theorem dX7_keepMessage_4 : decode cX7_keepMessage 4 = .ok (.invokevirtual 84, 3) := by decide +kernel
theorem dX7_keepMessage_7 : decode cX7_keepMessage 7 = .ok (.iconst 5, 1) := by decide +kernel
theorem dX7_keepMessage_8 : decode cX7_keepMessage 8 = .ok (.if_icmp .lt 27, 3) := by decide +kernel
theorem dX7_keepMessage_11 : decode cX7_keepMessage 11 = .ok (.aload_n 0, 1) := by decide +kernel
theorem dX7_keepMessage_12 : decode cX7_keepMessage 12 = .ok (.getfield 16, 3) := by decide +kernel
theorem dX7_keepMessage_15 : decode cX7_keepMessage 15 = .ok (.iconst 0, 1) := by decide +kernel
theorem dX7_keepMessage_16 : decode cX7_keepMessage 16 = .ok (.invokevirtual 87, 3) := by decide +kernel
theorem dX7_keepMessage_19 : decode cX7_keepMessage 19 = .ok (.checkcast 116, 3) := by decide +kernel
theorem dX7_keepMessage_22 : decode cX7_keepMessage 22 = .ok (.iconst 0, 1) := by decide +kernel
theorem dX7_keepMessage_23 : decode cX7_keepMessage 23 = .ok (.putfield 118, 3) := by decide +kernel
theorem dX7_keepMessage_26 : decode cX7_keepMessage 26 = .ok (.aload_n 0, 1) := by decide +kernel
theorem dX7_keepMessage_27 : decode cX7_keepMessage 27 = .ok (.getfield 16, 3) := by decide +kernel
theorem dX7_keepMessage_30 : decode cX7_keepMessage 30 = .ok (.iconst 0, 1) := by decide +kernel
theorem dX7_keepMessage_31 : decode cX7_keepMessage 31 = .ok (.invokevirtual 113, 3) := by decide +kernel
theorem dX7_keepMessage_34 : decode cX7_keepMessage 34 = .ok (.pop, 1) := by decide +kernel
theorem dX7_keepMessage_35 : decode cX7_keepMessage 35 = .ok (.aload_n 0, 1) := by decide +kernel
theorem dX7_keepMessage_36 : decode cX7_keepMessage 36 = .ok (.getfield 16, 3) := by decide +kernel
theorem dX7_keepMessage_39 : decode cX7_keepMessage 39 = .ok (.aload_n 1, 1) := by decide +kernel
theorem dX7_keepMessage_40 : decode cX7_keepMessage 40 = .ok (.invokevirtual 120, 3) := by decide +kernel
theorem dX7_keepMessage_43 : decode cX7_keepMessage 43 = .ok (.pop, 1) := by decide +kernel
theorem dX7_keepMessage_44 : decode cX7_keepMessage 44 = .ok (.aload_n 1, 1) := by decide +kernel
theorem dX7_keepMessage_45 : decode cX7_keepMessage 45 = .ok (.iconst 1, 1) := by decide +kernel
theorem dX7_keepMessage_46 : decode cX7_keepMessage 46 = .ok (.putfield 118, 3) := by decide +kernel
theorem dX7_keepMessage_49 : decode cX7_keepMessage 49 = .ok (.return_, 1) := by decide +kernel
theorem dX7_keptOf_0 : decode cX7_keptOf 0 = .ok (.iconst 0, 1) := by decide +kernel
theorem dX7_keptOf_1 : decode cX7_keptOf 1 = .ok (.istore_n 2, 1) := by decide +kernel
theorem dX7_keptOf_2 : decode cX7_keptOf 2 = .ok (.iload_n 2, 1) := by decide +kernel
theorem dX7_keptOf_3 : decode cX7_keptOf 3 = .ok (.aload_n 0, 1) := by decide +kernel
theorem dX7_keptOf_4 : decode cX7_keptOf 4 = .ok (.getfield 16, 3) := by decide +kernel
theorem dX7_keptOf_7 : decode cX7_keptOf 7 = .ok (.invokevirtual 84, 3) := by decide +kernel
theorem dX7_keptOf_10 : decode cX7_keptOf 10 = .ok (.if_icmp .ge 39, 3) := by decide +kernel
theorem dX7_keptOf_13 : decode cX7_keptOf 13 = .ok (.aload_n 0, 1) := by decide +kernel
theorem dX7_keptOf_14 : decode cX7_keptOf 14 = .ok (.getfield 16, 3) := by decide +kernel
theorem dX7_keptOf_17 : decode cX7_keptOf 17 = .ok (.iload_n 2, 1) := by decide +kernel
theorem dX7_keptOf_18 : decode cX7_keptOf 18 = .ok (.invokevirtual 87, 3) := by decide +kernel
theorem dX7_keptOf_21 : decode cX7_keptOf 21 = .ok (.checkcast 116, 3) := by decide +kernel
theorem dX7_keptOf_24 : decode cX7_keptOf 24 = .ok (.getfield 124, 3) := by decide +kernel
theorem dX7_keptOf_27 : decode cX7_keptOf 27 = .ok (.iload_n 1, 1) := by decide +kernel
theorem dX7_keptOf_28 : decode cX7_keptOf 28 = .ok (.if_icmp .ne 15, 3) := by decide +kernel
theorem dX7_keptOf_31 : decode cX7_keptOf 31 = .ok (.aload_n 0, 1) := by decide +kernel
theorem dX7_keptOf_32 : decode cX7_keptOf 32 = .ok (.getfield 16, 3) := by decide +kernel
theorem dX7_keptOf_35 : decode cX7_keptOf 35 = .ok (.iload_n 2, 1) := by decide +kernel
theorem dX7_keptOf_36 : decode cX7_keptOf 36 = .ok (.invokevirtual 87, 3) := by decide +kernel
theorem dX7_keptOf_39 : decode cX7_keptOf 39 = .ok (.checkcast 116, 3) := by decide +kernel
theorem dX7_keptOf_42 : decode cX7_keptOf 42 = .ok (.areturn, 1) := by decide +kernel
theorem dX7_keptOf_43 : decode cX7_keptOf 43 = .ok (.iinc 2 1, 3) := by decide +kernel
theorem dX7_keptOf_46 : decode cX7_keptOf 46 = .ok (.goto (-44), 3) := by decide +kernel
theorem dX7_keptOf_49 : decode cX7_keptOf 49 = .ok (.aconst_null, 1) := by decide +kernel
theorem dX7_keptOf_50 : decode cX7_keptOf 50 = .ok (.areturn, 1) := by decide +kernel
theorem dX7_forget_0 : decode cX7_forget 0 = .ok (.iconst 0, 1) := by decide +kernel
theorem dX7_forget_1 : decode cX7_forget 1 = .ok (.istore_n 2, 1) := by decide +kernel
theorem dX7_forget_2 : decode cX7_forget 2 = .ok (.iload_n 2, 1) := by decide +kernel
theorem dX7_forget_3 : decode cX7_forget 3 = .ok (.aload_n 0, 1) := by decide +kernel
theorem dX7_forget_4 : decode cX7_forget 4 = .ok (.getfield 16, 3) := by decide +kernel
theorem dX7_forget_7 : decode cX7_forget 7 = .ok (.invokevirtual 84, 3) := by decide +kernel
theorem dX7_forget_10 : decode cX7_forget 10 = .ok (.if_icmp .ge 53, 3) := by decide +kernel
theorem dX7_forget_13 : decode cX7_forget 13 = .ok (.aload_n 0, 1) := by decide +kernel
theorem dX7_forget_14 : decode cX7_forget 14 = .ok (.getfield 16, 3) := by decide +kernel
theorem dX7_forget_17 : decode cX7_forget 17 = .ok (.iload_n 2, 1) := by decide +kernel
theorem dX7_forget_18 : decode cX7_forget 18 = .ok (.invokevirtual 87, 3) := by decide +kernel
theorem dX7_forget_21 : decode cX7_forget 21 = .ok (.checkcast 116, 3) := by decide +kernel
theorem dX7_forget_24 : decode cX7_forget 24 = .ok (.getfield 124, 3) := by decide +kernel
theorem dX7_forget_27 : decode cX7_forget 27 = .ok (.iload_n 1, 1) := by decide +kernel
theorem dX7_forget_28 : decode cX7_forget 28 = .ok (.if_icmp .ne 29, 3) := by decide +kernel
theorem dX7_forget_31 : decode cX7_forget 31 = .ok (.aload_n 0, 1) := by decide +kernel
theorem dX7_forget_32 : decode cX7_forget 32 = .ok (.getfield 16, 3) := by decide +kernel
theorem dX7_forget_35 : decode cX7_forget 35 = .ok (.iload_n 2, 1) := by decide +kernel
theorem dX7_forget_36 : decode cX7_forget 36 = .ok (.invokevirtual 87, 3) := by decide +kernel
theorem dX7_forget_39 : decode cX7_forget 39 = .ok (.checkcast 116, 3) := by decide +kernel
theorem dX7_forget_42 : decode cX7_forget 42 = .ok (.iconst 0, 1) := by decide +kernel
theorem dX7_forget_43 : decode cX7_forget 43 = .ok (.putfield 118, 3) := by decide +kernel
theorem dX7_forget_46 : decode cX7_forget 46 = .ok (.aload_n 0, 1) := by decide +kernel
theorem dX7_forget_47 : decode cX7_forget 47 = .ok (.getfield 16, 3) := by decide +kernel
theorem dX7_forget_50 : decode cX7_forget 50 = .ok (.iload_n 2, 1) := by decide +kernel
theorem dX7_forget_51 : decode cX7_forget 51 = .ok (.invokevirtual 113, 3) := by decide +kernel
theorem dX7_forget_54 : decode cX7_forget 54 = .ok (.pop, 1) := by decide +kernel
theorem dX7_forget_55 : decode cX7_forget 55 = .ok (.iconst 1, 1) := by decide +kernel
theorem dX7_forget_56 : decode cX7_forget 56 = .ok (.ireturn, 1) := by decide +kernel
theorem dX7_forget_57 : decode cX7_forget 57 = .ok (.iinc 2 1, 3) := by decide +kernel
theorem dX7_forget_60 : decode cX7_forget 60 = .ok (.goto (-58), 3) := by decide +kernel
theorem dX7_forget_63 : decode cX7_forget 63 = .ok (.iconst 0, 1) := by decide +kernel
theorem dX7_forget_64 : decode cX7_forget 64 = .ok (.ireturn, 1) := by decide +kernel
theorem dX7_remove_0 : decode cX7_remove 0 = .ok (.aload_n 1, 1) := by decide +kernel
theorem dX7_remove_1 : decode cX7_remove 1 = .ok (.iconst 1, 1) := by decide +kernel
theorem dX7_remove_2 : decode cX7_remove 2 = .ok (.putfield 125, 3) := by decide +kernel
theorem dX7_remove_5 : decode cX7_remove 5 = .ok (.iconst 0, 1) := by decide +kernel
theorem dX7_remove_6 : decode cX7_remove 6 = .ok (.istore_n 2, 1) := by decide +kernel
theorem dX7_remove_7 : decode cX7_remove 7 = .ok (.iload_n 2, 1) := by decide +kernel
theorem dX7_remove_8 : decode cX7_remove 8 = .ok (.aload_n 0, 1) := by decide +kernel
theorem dX7_remove_9 : decode cX7_remove 9 = .ok (.getfield 10, 3) := by decide +kernel
theorem dX7_remove_12 : decode cX7_remove 12 = .ok (.invokevirtual 84, 3) := by decide +kernel
theorem dX7_remove_15 : decode cX7_remove 15 = .ok (.if_icmp .ge 31, 3) := by decide +kernel
theorem dX7_remove_18 : decode cX7_remove 18 = .ok (.aload_n 0, 1) := by decide +kernel
theorem dX7_remove_19 : decode cX7_remove 19 = .ok (.getfield 10, 3) := by decide +kernel
theorem dX7_remove_22 : decode cX7_remove 22 = .ok (.iload_n 2, 1) := by decide +kernel
theorem dX7_remove_23 : decode cX7_remove 23 = .ok (.invokevirtual 87, 3) := by decide +kernel
theorem dX7_remove_26 : decode cX7_remove 26 = .ok (.aload_n 1, 1) := by decide +kernel
theorem dX7_remove_27 : decode cX7_remove 27 = .ok (.if_acmp .ne 13, 3) := by decide +kernel
theorem dX7_remove_30 : decode cX7_remove 30 = .ok (.aload_n 0, 1) := by decide +kernel
theorem dX7_remove_31 : decode cX7_remove 31 = .ok (.getfield 10, 3) := by decide +kernel
theorem dX7_remove_34 : decode cX7_remove 34 = .ok (.iload_n 2, 1) := by decide +kernel
theorem dX7_remove_35 : decode cX7_remove 35 = .ok (.invokevirtual 113, 3) := by decide +kernel
theorem dX7_remove_38 : decode cX7_remove 38 = .ok (.pop, 1) := by decide +kernel
theorem dX7_remove_39 : decode cX7_remove 39 = .ok (.return_, 1) := by decide +kernel
theorem dX7_remove_40 : decode cX7_remove 40 = .ok (.iinc 2 1, 3) := by decide +kernel
theorem dX7_remove_43 : decode cX7_remove 43 = .ok (.goto (-36), 3) := by decide +kernel
theorem dX7_remove_46 : decode cX7_remove 46 = .ok (.return_, 1) := by decide +kernel
theorem dX7_end_0 : decode cX7_end 0 = .ok (.aload_n 0, 1) := by decide +kernel
theorem dX7_end_1 : decode cX7_end 1 = .ok (.iconst 1, 1) := by decide +kernel
theorem dX7_end_2 : decode cX7_end 2 = .ok (.putfield 39, 3) := by decide +kernel
theorem dX7_end_5 : decode cX7_end 5 = .ok (.iconst 0, 1) := by decide +kernel
theorem dX7_end_6 : decode cX7_end 6 = .ok (.istore_n 1, 1) := by decide +kernel
theorem dX7_end_7 : decode cX7_end 7 = .ok (.iload_n 1, 1) := by decide +kernel
theorem dX7_end_8 : decode cX7_end 8 = .ok (.aload_n 0, 1) := by decide +kernel
theorem dX7_end_9 : decode cX7_end 9 = .ok (.getfield 10, 3) := by decide +kernel
theorem dX7_end_12 : decode cX7_end 12 = .ok (.invokevirtual 84, 3) := by decide +kernel
theorem dX7_end_15 : decode cX7_end 15 = .ok (.if_icmp .ge 24, 3) := by decide +kernel
theorem dX7_end_18 : decode cX7_end 18 = .ok (.aload_n 0, 1) := by decide +kernel
theorem dX7_end_19 : decode cX7_end 19 = .ok (.getfield 10, 3) := by decide +kernel
theorem dX7_end_22 : decode cX7_end 22 = .ok (.iload_n 1, 1) := by decide +kernel
theorem dX7_end_23 : decode cX7_end 23 = .ok (.invokevirtual 87, 3) := by decide +kernel
theorem dX7_end_26 : decode cX7_end 26 = .ok (.checkcast 91, 3) := by decide +kernel
theorem dX7_end_29 : decode cX7_end 29 = .ok (.iconst 1, 1) := by decide +kernel
theorem dX7_end_30 : decode cX7_end 30 = .ok (.putfield 125, 3) := by decide +kernel
theorem dX7_end_33 : decode cX7_end 33 = .ok (.iinc 1 1, 3) := by decide +kernel
theorem dX7_end_36 : decode cX7_end 36 = .ok (.goto (-29), 3) := by decide +kernel
theorem dX7_end_39 : decode cX7_end 39 = .ok (.aload_n 0, 1) := by decide +kernel
theorem dX7_end_40 : decode cX7_end 40 = .ok (.getfield 10, 3) := by decide +kernel
theorem dX7_end_43 : decode cX7_end 43 = .ok (.invokevirtual 126, 3) := by decide +kernel
theorem dX7_end_46 : decode cX7_end 46 = .ok (.iconst 0, 1) := by decide +kernel
theorem dX7_end_47 : decode cX7_end 47 = .ok (.istore_n 1, 1) := by decide +kernel
theorem dX7_end_48 : decode cX7_end 48 = .ok (.iload_n 1, 1) := by decide +kernel
theorem dX7_end_49 : decode cX7_end 49 = .ok (.aload_n 0, 1) := by decide +kernel
theorem dX7_end_50 : decode cX7_end 50 = .ok (.getfield 16, 3) := by decide +kernel
theorem dX7_end_53 : decode cX7_end 53 = .ok (.invokevirtual 84, 3) := by decide +kernel
theorem dX7_end_56 : decode cX7_end 56 = .ok (.if_icmp .ge 24, 3) := by decide +kernel
theorem dX7_end_59 : decode cX7_end 59 = .ok (.aload_n 0, 1) := by decide +kernel
theorem dX7_end_60 : decode cX7_end 60 = .ok (.getfield 16, 3) := by decide +kernel
theorem dX7_end_63 : decode cX7_end 63 = .ok (.iload_n 1, 1) := by decide +kernel
theorem dX7_end_64 : decode cX7_end 64 = .ok (.invokevirtual 87, 3) := by decide +kernel
theorem dX7_end_67 : decode cX7_end 67 = .ok (.checkcast 116, 3) := by decide +kernel
theorem dX7_end_70 : decode cX7_end 70 = .ok (.iconst 0, 1) := by decide +kernel
theorem dX7_end_71 : decode cX7_end 71 = .ok (.putfield 118, 3) := by decide +kernel
theorem dX7_end_74 : decode cX7_end 74 = .ok (.iinc 1 1, 3) := by decide +kernel
theorem dX7_end_77 : decode cX7_end 77 = .ok (.goto (-29), 3) := by decide +kernel
theorem dX7_end_80 : decode cX7_end 80 = .ok (.aload_n 0, 1) := by decide +kernel
theorem dX7_end_81 : decode cX7_end 81 = .ok (.getfield 16, 3) := by decide +kernel
theorem dX7_end_84 : decode cX7_end 84 = .ok (.invokevirtual 126, 3) := by decide +kernel
theorem dX7_end_87 : decode cX7_end 87 = .ok (.return_, 1) := by decide +kernel
theorem dX8_init_0 : decode cX8_init 0 = .ok (.aload_n 0, 1) := by decide +kernel
theorem dX8_init_1 : decode cX8_init 1 = .ok (.invokespecial 1, 3) := by decide +kernel
theorem dX8_init_4 : decode cX8_init 4 = .ok (.aload_n 0, 1) := by decide +kernel
theorem dX8_init_5 : decode cX8_init 5 = .ok (.new 7, 3) := by decide +kernel
theorem dX8_init_8 : decode cX8_init 8 = .ok (.dup, 1) := by decide +kernel
theorem dX8_init_9 : decode cX8_init 9 = .ok (.invokespecial 9, 3) := by decide +kernel
theorem dX8_init_12 : decode cX8_init 12 = .ok (.putfield 10, 3) := by decide +kernel
theorem dX8_init_15 : decode cX8_init 15 = .ok (.aload_n 0, 1) := by decide +kernel
theorem dX8_init_16 : decode cX8_init 16 = .ok (.new 7, 3) := by decide +kernel
theorem dX8_init_19 : decode cX8_init 19 = .ok (.dup, 1) := by decide +kernel
theorem dX8_init_20 : decode cX8_init 20 = .ok (.invokespecial 9, 3) := by decide +kernel
theorem dX8_init_23 : decode cX8_init 23 = .ok (.putfield 16, 3) := by decide +kernel
theorem dX8_init_26 : decode cX8_init 26 = .ok (.aload_n 0, 1) := by decide +kernel
theorem dX8_init_27 : decode cX8_init 27 = .ok (.new 7, 3) := by decide +kernel
theorem dX8_init_30 : decode cX8_init 30 = .ok (.dup, 1) := by decide +kernel
theorem dX8_init_31 : decode cX8_init 31 = .ok (.invokespecial 9, 3) := by decide +kernel
theorem dX8_init_34 : decode cX8_init 34 = .ok (.putfield 19, 3) := by decide +kernel
theorem dX8_init_37 : decode cX8_init 37 = .ok (.aload_n 0, 1) := by decide +kernel
theorem dX8_init_38 : decode cX8_init 38 = .ok (.new 7, 3) := by decide +kernel
theorem dX8_init_41 : decode cX8_init 41 = .ok (.dup, 1) := by decide +kernel
theorem dX8_init_42 : decode cX8_init 42 = .ok (.invokespecial 9, 3) := by decide +kernel
theorem dX8_init_45 : decode cX8_init 45 = .ok (.putfield 22, 3) := by decide +kernel
theorem dX8_init_48 : decode cX8_init 48 = .ok (.aload_n 0, 1) := by decide +kernel
theorem dX8_init_49 : decode cX8_init 49 = .ok (.new 7, 3) := by decide +kernel
theorem dX8_init_52 : decode cX8_init 52 = .ok (.dup, 1) := by decide +kernel
theorem dX8_init_53 : decode cX8_init 53 = .ok (.invokespecial 9, 3) := by decide +kernel
theorem dX8_init_56 : decode cX8_init 56 = .ok (.putfield 25, 3) := by decide +kernel
theorem dX8_init_59 : decode cX8_init 59 = .ok (.aload_n 0, 1) := by decide +kernel
theorem dX8_init_60 : decode cX8_init 60 = .ok (.new 7, 3) := by decide +kernel
theorem dX8_init_63 : decode cX8_init 63 = .ok (.dup, 1) := by decide +kernel
theorem dX8_init_64 : decode cX8_init 64 = .ok (.invokespecial 9, 3) := by decide +kernel
theorem dX8_init_67 : decode cX8_init 67 = .ok (.putfield 28, 3) := by decide +kernel
theorem dX8_init_70 : decode cX8_init 70 = .ok (.aload_n 0, 1) := by decide +kernel
theorem dX8_init_71 : decode cX8_init 71 = .ok (.bipush 10, 2) := by decide +kernel
theorem dX8_init_73 : decode cX8_init 73 = .ok (.newarray .int, 2) := by decide +kernel
theorem dX8_init_75 : decode cX8_init 75 = .ok (.putfield 31, 3) := by decide +kernel
theorem dX8_init_78 : decode cX8_init 78 = .ok (.aload_n 0, 1) := by decide +kernel
theorem dX8_init_79 : decode cX8_init 79 = .ok (.iconst 0, 1) := by decide +kernel
theorem dX8_init_80 : decode cX8_init 80 = .ok (.putfield 35, 3) := by decide +kernel
theorem dX8_init_83 : decode cX8_init 83 = .ok (.aload_n 0, 1) := by decide +kernel
theorem dX8_init_84 : decode cX8_init 84 = .ok (.lconst 0, 1) := by decide +kernel
theorem dX8_init_85 : decode cX8_init 85 = .ok (.putfield 39, 3) := by decide +kernel
theorem dX8_init_88 : decode cX8_init 88 = .ok (.aload_n 0, 1) := by decide +kernel
theorem dX8_init_89 : decode cX8_init 89 = .ok (.iconst 0, 1) := by decide +kernel
theorem dX8_init_90 : decode cX8_init 90 = .ok (.putfield 43, 3) := by decide +kernel
theorem dX8_init_93 : decode cX8_init 93 = .ok (.aload_n 0, 1) := by decide +kernel
theorem dX8_init_94 : decode cX8_init 94 = .ok (.iconst 0, 1) := by decide +kernel
theorem dX8_init_95 : decode cX8_init 95 = .ok (.putfield 46, 3) := by decide +kernel
theorem dX8_init_98 : decode cX8_init 98 = .ok (.return_, 1) := by decide +kernel
theorem dX8_node_0 : decode cX8_node 0 = .ok (.iload_n 1, 1) := by decide +kernel
theorem dX8_node_1 : decode cX8_node 1 = .ok (.iconst 0, 1) := by decide +kernel
theorem dX8_node_2 : decode cX8_node 2 = .ok (.iconst 2, 1) := by decide +kernel
theorem dX8_node_3 : decode cX8_node 3 = .ok (.invokestatic 51, 3) := by decide +kernel
theorem dX8_node_6 : decode cX8_node 6 = .ok (.ifCond .ne 10, 3) := by decide +kernel
theorem dX8_node_9 : decode cX8_node 9 = .ok (.aload_n 0, 1) := by decide +kernel
theorem dX8_node_10 : decode cX8_node 10 = .ok (.bipush (-7), 2) := by decide +kernel
theorem dX8_node_12 : decode cX8_node 12 = .ok (.invokevirtual 55, 3) := by decide +kernel
theorem dX8_node_15 : decode cX8_node 15 = .ok (.ireturn, 1) := by decide +kernel
theorem dX8_node_16 : decode cX8_node 16 = .ok (.aload_n 0, 1) := by decide +kernel
theorem dX8_node_17 : decode cX8_node 17 = .ok (.getfield 10, 3) := by decide +kernel
theorem dX8_node_20 : decode cX8_node 20 = .ok (.invokevirtual 59, 3) := by decide +kernel
theorem dX8_node_23 : decode cX8_node 23 = .ok (.bipush 40, 2) := by decide +kernel
theorem dX8_node_25 : decode cX8_node 25 = .ok (.if_icmp .lt 10, 3) := by decide +kernel
theorem dX8_node_28 : decode cX8_node 28 = .ok (.aload_n 0, 1) := by decide +kernel
theorem dX8_node_29 : decode cX8_node 29 = .ok (.bipush (-8), 2) := by decide +kernel
theorem dX8_node_31 : decode cX8_node 31 = .ok (.invokevirtual 55, 3) := by decide +kernel
theorem dX8_node_34 : decode cX8_node 34 = .ok (.ireturn, 1) := by decide +kernel
theorem dX8_node_35 : decode cX8_node 35 = .ok (.aload_n 0, 1) := by decide +kernel
theorem dX8_node_36 : decode cX8_node 36 = .ok (.getfield 10, 3) := by decide +kernel
theorem dX8_node_39 : decode cX8_node 39 = .ok (.new 49, 3) := by decide +kernel
theorem dX8_node_42 : decode cX8_node 42 = .ok (.dup, 1) := by decide +kernel
theorem dX8_node_43 : decode cX8_node 43 = .ok (.aload_n 0, 1) := by decide +kernel
theorem dX8_node_44 : decode cX8_node 44 = .ok (.getfield 10, 3) := by decide +kernel
theorem dX8_node_47 : decode cX8_node 47 = .ok (.invokevirtual 59, 3) := by decide +kernel
theorem dX8_node_50 : decode cX8_node 50 = .ok (.iload_n 1, 1) := by decide +kernel
theorem dX8_node_51 : decode cX8_node 51 = .ok (.invokespecial 63, 3) := by decide +kernel
theorem dX8_node_54 : decode cX8_node 54 = .ok (.invokevirtual 66, 3) := by decide +kernel
theorem dX8_node_57 : decode cX8_node 57 = .ok (.pop, 1) := by decide +kernel
theorem dX8_node_58 : decode cX8_node 58 = .ok (.aload_n 0, 1) := by decide +kernel
theorem dX8_node_59 : decode cX8_node 59 = .ok (.getfield 10, 3) := by decide +kernel
theorem dX8_node_62 : decode cX8_node 62 = .ok (.invokevirtual 59, 3) := by decide +kernel
theorem dX8_node_65 : decode cX8_node 65 = .ok (.iconst 1, 1) := by decide +kernel
theorem dX8_node_66 : decode cX8_node 66 = .ok (.isub, 1) := by decide +kernel
theorem dX8_node_67 : decode cX8_node 67 = .ok (.ireturn, 1) := by decide +kernel
theorem dX8_refer_0 : decode cX8_refer 0 = .ok (.aload_n 0, 1) := by decide +kernel
theorem dX8_refer_1 : decode cX8_refer 1 = .ok (.iload_n 1, 1) := by decide +kernel
theorem dX8_refer_2 : decode cX8_refer 2 = .ok (.invokevirtual 70, 3) := by decide +kernel
theorem dX8_refer_5 : decode cX8_refer 5 = .ok (.ifnull 11, 3) := by decide +kernel
theorem dX8_refer_8 : decode cX8_refer 8 = .ok (.aload_n 0, 1) := by decide +kernel
theorem dX8_refer_9 : decode cX8_refer 9 = .ok (.iload_n 2, 1) := by decide +kernel
theorem dX8_refer_10 : decode cX8_refer 10 = .ok (.invokevirtual 70, 3) := by decide +kernel
theorem dX8_refer_13 : decode cX8_refer 13 = .ok (.ifnonnull 10, 3) := by decide +kernel
theorem dX8_refer_16 : decode cX8_refer 16 = .ok (.aload_n 0, 1) := by decide +kernel
theorem dX8_refer_17 : decode cX8_refer 17 = .ok (.bipush (-4), 2) := by decide +kernel
theorem dX8_refer_19 : decode cX8_refer 19 = .ok (.invokevirtual 55, 3) := by decide +kernel
theorem dX8_refer_22 : decode cX8_refer 22 = .ok (.ireturn, 1) := by decide +kernel
theorem dX8_refer_23 : decode cX8_refer 23 = .ok (.iload_n 3, 1) := by decide +kernel
theorem dX8_refer_24 : decode cX8_refer 24 = .ok (.iconst 0, 1) := by decide +kernel
theorem dX8_refer_25 : decode cX8_refer 25 = .ok (.bipush 7, 2) := by decide +kernel
theorem dX8_refer_27 : decode cX8_refer 27 = .ok (.invokestatic 51, 3) := by decide +kernel
theorem dX8_refer_30 : decode cX8_refer 30 = .ok (.ifCond .ne 10, 3) := by decide +kernel
theorem dX8_refer_33 : decode cX8_refer 33 = .ok (.aload_n 0, 1) := by decide +kernel
theorem dX8_refer_34 : decode cX8_refer 34 = .ok (.bipush (-7), 2) := by decide +kernel
theorem dX8_refer_36 : decode cX8_refer 36 = .ok (.invokevirtual 55, 3) := by decide +kernel
theorem dX8_refer_39 : decode cX8_refer 39 = .ok (.ireturn, 1) := by decide +kernel
theorem dX8_refer_40 : decode cX8_refer 40 = .ok (.aload_n 0, 1) := by decide +kernel
theorem dX8_refer_41 : decode cX8_refer 41 = .ok (.getfield 16, 3) := by decide +kernel
theorem dX8_refer_44 : decode cX8_refer 44 = .ok (.invokevirtual 59, 3) := by decide +kernel
theorem dX8_refer_47 : decode cX8_refer 47 = .ok (.bipush 100, 2) := by decide +kernel
theorem dX8_refer_49 : decode cX8_refer 49 = .ok (.if_icmp .lt 10, 3) := by decide +kernel
theorem dX8_refer_52 : decode cX8_refer 52 = .ok (.aload_n 0, 1) := by decide +kernel
theorem dX8_refer_53 : decode cX8_refer 53 = .ok (.bipush (-8), 2) := by decide +kernel
theorem dX8_refer_55 : decode cX8_refer 55 = .ok (.invokevirtual 55, 3) := by decide +kernel
theorem dX8_refer_58 : decode cX8_refer 58 = .ok (.ireturn, 1) := by decide +kernel
theorem dX8_refer_59 : decode cX8_refer 59 = .ok (.aload_n 0, 1) := by decide +kernel
theorem dX8_refer_60 : decode cX8_refer 60 = .ok (.getfield 16, 3) := by decide +kernel
theorem dX8_refer_63 : decode cX8_refer 63 = .ok (.new 74, 3) := by decide +kernel
theorem dX8_refer_66 : decode cX8_refer 66 = .ok (.dup, 1) := by decide +kernel
theorem dX8_refer_67 : decode cX8_refer 67 = .ok (.iload_n 1, 1) := by decide +kernel
theorem dX8_refer_68 : decode cX8_refer 68 = .ok (.iload_n 2, 1) := by decide +kernel
theorem dX8_refer_69 : decode cX8_refer 69 = .ok (.iload_n 3, 1) := by decide +kernel
theorem dX8_refer_70 : decode cX8_refer 70 = .ok (.invokespecial 76, 3) := by decide +kernel
theorem dX8_refer_73 : decode cX8_refer 73 = .ok (.invokevirtual 66, 3) := by decide +kernel
theorem dX8_refer_76 : decode cX8_refer 76 = .ok (.pop, 1) := by decide +kernel
theorem dX8_refer_77 : decode cX8_refer 77 = .ok (.aload_n 0, 1) := by decide +kernel
theorem dX8_refer_78 : decode cX8_refer 78 = .ok (.getfield 16, 3) := by decide +kernel
theorem dX8_refer_81 : decode cX8_refer 81 = .ok (.invokevirtual 59, 3) := by decide +kernel
theorem dX8_refer_84 : decode cX8_refer 84 = .ok (.iconst 1, 1) := by decide +kernel
theorem dX8_refer_85 : decode cX8_refer 85 = .ok (.isub, 1) := by decide +kernel
theorem dX8_refer_86 : decode cX8_refer 86 = .ok (.ireturn, 1) := by decide +kernel
theorem dX8_change_0 : decode cX8_change 0 = .ok (.aload_n 0, 1) := by decide +kernel
theorem dX8_change_1 : decode cX8_change 1 = .ok (.iload_n 1, 1) := by decide +kernel
theorem dX8_change_2 : decode cX8_change 2 = .ok (.invokevirtual 79, 3) := by decide +kernel
theorem dX8_change_5 : decode cX8_change 5 = .ok (.astore 4, 2) := by decide +kernel
theorem dX8_change_7 : decode cX8_change 7 = .ok (.aload 4, 2) := by decide +kernel
theorem dX8_change_9 : decode cX8_change 9 = .ok (.ifnonnull 10, 3) := by decide +kernel
theorem dX8_change_12 : decode cX8_change 12 = .ok (.aload_n 0, 1) := by decide +kernel
theorem dX8_change_13 : decode cX8_change 13 = .ok (.bipush (-4), 2) := by decide +kernel
theorem dX8_change_15 : decode cX8_change 15 = .ok (.invokevirtual 55, 3) := by decide +kernel
theorem dX8_change_18 : decode cX8_change 18 = .ok (.ireturn, 1) := by decide +kernel
theorem dX8_change_19 : decode cX8_change 19 = .ok (.aload 4, 2) := by decide +kernel
theorem dX8_change_21 : decode cX8_change 21 = .ok (.lload_n 2, 1) := by decide +kernel
theorem dX8_change_22 : decode cX8_change 22 = .ok (.putfield 82, 3) := by decide +kernel
theorem dX8_change_25 : decode cX8_change 25 = .ok (.iconst 1, 1) := by decide +kernel
theorem dX8_change_26 : decode cX8_change 26 = .ok (.ireturn, 1) := by decide +kernel
theorem dX8_tick_0 : decode cX8_tick 0 = .ok (.iload_n 1, 1) := by decide +kernel
theorem dX8_tick_1 : decode cX8_tick 1 = .ok (.iconst 1, 1) := by decide +kernel
theorem dX8_tick_2 : decode cX8_tick 2 = .ok (.sipush 1000, 3) := by decide +kernel
theorem dX8_tick_5 : decode cX8_tick 5 = .ok (.invokestatic 51, 3) := by decide +kernel
theorem dX8_tick_8 : decode cX8_tick 8 = .ok (.ifCond .ne 10, 3) := by decide +kernel
theorem dX8_tick_11 : decode cX8_tick 11 = .ok (.aload_n 0, 1) := by decide +kernel
theorem dX8_tick_12 : decode cX8_tick 12 = .ok (.bipush (-7), 2) := by decide +kernel
theorem dX8_tick_14 : decode cX8_tick 14 = .ok (.invokevirtual 55, 3) := by decide +kernel
theorem dX8_tick_17 : decode cX8_tick 17 = .ok (.ireturn, 1) := by decide +kernel
theorem dX8_tick_18 : decode cX8_tick 18 = .ok (.aload_n 0, 1) := by decide +kernel
theorem dX8_tick_19 : decode cX8_tick 19 = .ok (.getfield 35, 3) := by decide +kernel
theorem dX8_tick_22 : decode cX8_tick 22 = .ok (.iload_n 1, 1) := by decide +kernel
theorem dX8_tick_23 : decode cX8_tick 23 = .ok (.iadd, 1) := by decide +kernel
theorem dX8_tick_24 : decode cX8_tick 24 = .ok (.ldc 85, 2) := by decide +kernel
theorem dX8_tick_26 : decode cX8_tick 26 = .ok (.if_icmp .le 10, 3) := by decide +kernel
theorem dX8_tick_29 : decode cX8_tick 29 = .ok (.aload_n 0, 1) := by decide +kernel
theorem dX8_tick_30 : decode cX8_tick 30 = .ok (.bipush (-8), 2) := by decide +kernel
theorem dX8_tick_32 : decode cX8_tick 32 = .ok (.invokevirtual 55, 3) := by decide +kernel
theorem dX8_tick_35 : decode cX8_tick 35 = .ok (.ireturn, 1) := by decide +kernel
theorem dX8_tick_36 : decode cX8_tick 36 = .ok (.aload_n 0, 1) := by decide +kernel
theorem dX8_tick_37 : decode cX8_tick 37 = .ok (.getfield 28, 3) := by decide +kernel
theorem dX8_tick_40 : decode cX8_tick 40 = .ok (.invokevirtual 59, 3) := by decide +kernel
theorem dX8_tick_43 : decode cX8_tick 43 = .ok (.istore_n 2, 1) := by decide +kernel
theorem dX8_tick_44 : decode cX8_tick 44 = .ok (.iconst 0, 1) := by decide +kernel
theorem dX8_tick_45 : decode cX8_tick 45 = .ok (.istore_n 3, 1) := by decide +kernel
theorem dX8_tick_46 : decode cX8_tick 46 = .ok (.iload_n 3, 1) := by decide +kernel
theorem dX8_tick_47 : decode cX8_tick 47 = .ok (.iload_n 1, 1) := by decide +kernel
theorem dX8_tick_48 : decode cX8_tick 48 = .ok (.if_icmp .ge 31, 3) := by decide +kernel
theorem dX8_tick_51 : decode cX8_tick 51 = .ok (.aload_n 0, 1) := by decide +kernel
theorem dX8_tick_52 : decode cX8_tick 52 = .ok (.dup, 1) := by decide +kernel
theorem dX8_tick_53 : decode cX8_tick 53 = .ok (.getfield 35, 3) := by decide +kernel
theorem dX8_tick_56 : decode cX8_tick 56 = .ok (.iconst 1, 1) := by decide +kernel
theorem dX8_tick_57 : decode cX8_tick 57 = .ok (.iadd, 1) := by decide +kernel
theorem dX8_tick_58 : decode cX8_tick 58 = .ok (.putfield 35, 3) := by decide +kernel
theorem dX8_tick_61 : decode cX8_tick 61 = .ok (.aload_n 0, 1) := by decide +kernel
theorem dX8_tick_62 : decode cX8_tick 62 = .ok (.invokevirtual 86, 3) := by decide +kernel
theorem dX8_tick_65 : decode cX8_tick 65 = .ok (.aload_n 0, 1) := by decide +kernel
theorem dX8_tick_66 : decode cX8_tick 66 = .ok (.invokevirtual 89, 3) := by decide +kernel
theorem dX8_tick_69 : decode cX8_tick 69 = .ok (.aload_n 0, 1) := by decide +kernel
theorem dX8_tick_70 : decode cX8_tick 70 = .ok (.invokevirtual 92, 3) := by decide +kernel
theorem dX8_tick_73 : decode cX8_tick 73 = .ok (.iinc 3 1, 3) := by decide +kernel
theorem dX8_tick_76 : decode cX8_tick 76 = .ok (.goto (-30), 3) := by decide +kernel
theorem dX8_tick_79 : decode cX8_tick 79 = .ok (.aload_n 0, 1) := by decide +kernel
theorem dX8_tick_80 : decode cX8_tick 80 = .ok (.getfield 28, 3) := by decide +kernel
theorem dX8_tick_83 : decode cX8_tick 83 = .ok (.invokevirtual 59, 3) := by decide +kernel
theorem dX8_tick_86 : decode cX8_tick 86 = .ok (.iload_n 2, 1) := by decide +kernel
theorem dX8_tick_87 : decode cX8_tick 87 = .ok (.isub, 1) := by decide +kernel
theorem dX8_tick_88 : decode cX8_tick 88 = .ok (.ireturn, 1) := by decide +kernel
theorem dX8_session_0 : decode cX8_session 0 = .ok (.iload_n 1, 1) := by decide +kernel
theorem dX8_session_1 : decode cX8_session 1 = .ok (.iconst 1, 1) := by decide +kernel
theorem dX8_session_2 : decode cX8_session 2 = .ok (.sipush 1000, 3) := by decide +kernel
theorem dX8_session_5 : decode cX8_session 5 = .ok (.invokestatic 51, 3) := by decide +kernel
theorem dX8_session_8 : decode cX8_session 8 = .ok (.ifCond .ne 10, 3) := by decide +kernel
theorem dX8_session_11 : decode cX8_session 11 = .ok (.aload_n 0, 1) := by decide +kernel
theorem dX8_session_12 : decode cX8_session 12 = .ok (.bipush (-7), 2) := by decide +kernel
theorem dX8_session_14 : decode cX8_session 14 = .ok (.invokevirtual 55, 3) := by decide +kernel
theorem dX8_session_17 : decode cX8_session 17 = .ok (.ireturn, 1) := by decide +kernel
theorem dX8_session_18 : decode cX8_session 18 = .ok (.aload_n 0, 1) := by decide +kernel
theorem dX8_session_19 : decode cX8_session 19 = .ok (.getfield 19, 3) := by decide +kernel
theorem dX8_session_22 : decode cX8_session 22 = .ok (.invokevirtual 59, 3) := by decide +kernel
theorem dX8_session_25 : decode cX8_session 25 = .ok (.bipush 12, 2) := by decide +kernel
theorem dX8_session_27 : decode cX8_session 27 = .ok (.if_icmp .lt 10, 3) := by decide +kernel
theorem dX8_session_30 : decode cX8_session 30 = .ok (.aload_n 0, 1) := by decide +kernel
theorem dX8_session_31 : decode cX8_session 31 = .ok (.bipush (-8), 2) := by decide +kernel
theorem dX8_session_33 : decode cX8_session 33 = .ok (.invokevirtual 55, 3) := by decide +kernel
theorem dX8_session_36 : decode cX8_session 36 = .ok (.ireturn, 1) := by decide +kernel
theorem dX8_session_37 : decode cX8_session 37 = .ok (.aload_n 0, 1) := by decide +kernel
theorem dX8_session_38 : decode cX8_session 38 = .ok (.getfield 19, 3) := by decide +kernel
theorem dX8_session_41 : decode cX8_session 41 = .ok (.new 95, 3) := by decide +kernel
theorem dX8_session_44 : decode cX8_session 44 = .ok (.dup, 1) := by decide +kernel
theorem dX8_session_45 : decode cX8_session 45 = .ok (.aload_n 0, 1) := by decide +kernel
theorem dX8_session_46 : decode cX8_session 46 = .ok (.getfield 19, 3) := by decide +kernel
theorem dX8_session_49 : decode cX8_session 49 = .ok (.invokevirtual 59, 3) := by decide +kernel
theorem dX8_session_52 : decode cX8_session 52 = .ok (.iload_n 1, 1) := by decide +kernel
theorem dX8_session_53 : decode cX8_session 53 = .ok (.aload_n 0, 1) := by decide +kernel
theorem dX8_session_54 : decode cX8_session 54 = .ok (.getfield 35, 3) := by decide +kernel
theorem dX8_session_57 : decode cX8_session 57 = .ok (.invokespecial 97, 3) := by decide +kernel
theorem dX8_session_60 : decode cX8_session 60 = .ok (.invokevirtual 66, 3) := by decide +kernel
theorem dX8_session_63 : decode cX8_session 63 = .ok (.pop, 1) := by decide +kernel
theorem dX8_session_64 : decode cX8_session 64 = .ok (.aload_n 0, 1) := by decide +kernel
theorem dX8_session_65 : decode cX8_session 65 = .ok (.getfield 19, 3) := by decide +kernel
theorem dX8_session_68 : decode cX8_session 68 = .ok (.invokevirtual 59, 3) := by decide +kernel
theorem dX8_session_71 : decode cX8_session 71 = .ok (.iconst 1, 1) := by decide +kernel
theorem dX8_session_72 : decode cX8_session 72 = .ok (.isub, 1) := by decide +kernel
theorem dX8_session_73 : decode cX8_session 73 = .ok (.ireturn, 1) := by decide +kernel
theorem dX8_activate_0 : decode cX8_activate 0 = .ok (.aload_n 0, 1) := by decide +kernel
theorem dX8_activate_1 : decode cX8_activate 1 = .ok (.iload_n 1, 1) := by decide +kernel
theorem dX8_activate_2 : decode cX8_activate 2 = .ok (.invokevirtual 98, 3) := by decide +kernel
theorem dX8_activate_5 : decode cX8_activate 5 = .ok (.astore_n 2, 1) := by decide +kernel
theorem dX8_activate_6 : decode cX8_activate 6 = .ok (.aload_n 2, 1) := by decide +kernel
theorem dX8_activate_7 : decode cX8_activate 7 = .ok (.ifnull 11, 3) := by decide +kernel
theorem dX8_activate_10 : decode cX8_activate 10 = .ok (.aload_n 2, 1) := by decide +kernel
theorem dX8_activate_11 : decode cX8_activate 11 = .ok (.getfield 102, 3) := by decide +kernel
theorem dX8_activate_14 : decode cX8_activate 14 = .ok (.iconst 2, 1) := by decide +kernel
theorem dX8_activate_15 : decode cX8_activate 15 = .ok (.if_icmp .ne 9, 3) := by decide +kernel
theorem dX8_activate_18 : decode cX8_activate 18 = .ok (.aload_n 0, 1) := by decide +kernel
theorem dX8_activate_19 : decode cX8_activate 19 = .ok (.iload_n 1, 1) := by decide +kernel
theorem dX8_activate_20 : decode cX8_activate 20 = .ok (.invokevirtual 105, 3) := by decide +kernel
theorem dX8_activate_23 : decode cX8_activate 23 = .ok (.ireturn, 1) := by decide +kernel
theorem dX8_activate_24 : decode cX8_activate 24 = .ok (.aload_n 2, 1) := by decide +kernel
theorem dX8_activate_25 : decode cX8_activate 25 = .ok (.iconst 1, 1) := by decide +kernel
theorem dX8_activate_26 : decode cX8_activate 26 = .ok (.putfield 102, 3) := by decide +kernel
theorem dX8_activate_29 : decode cX8_activate 29 = .ok (.aload_n 2, 1) := by decide +kernel
theorem dX8_activate_30 : decode cX8_activate 30 = .ok (.aload_n 0, 1) := by decide +kernel
theorem dX8_activate_31 : decode cX8_activate 31 = .ok (.getfield 35, 3) := by decide +kernel
theorem dX8_activate_34 : decode cX8_activate 34 = .ok (.invokevirtual 108, 3) := by decide +kernel
theorem dX8_activate_37 : decode cX8_activate 37 = .ok (.iconst 1, 1) := by decide +kernel
theorem dX8_activate_38 : decode cX8_activate 38 = .ok (.ireturn, 1) := by decide +kernel
theorem dX8_close_0 : decode cX8_close 0 = .ok (.aload_n 0, 1) := by decide +kernel
theorem dX8_close_1 : decode cX8_close 1 = .ok (.iload_n 1, 1) := by decide +kernel
theorem dX8_close_2 : decode cX8_close 2 = .ok (.invokevirtual 112, 3) := by decide +kernel
theorem dX8_close_5 : decode cX8_close 5 = .ok (.astore_n 2, 1) := by decide +kernel
theorem dX8_close_6 : decode cX8_close 6 = .ok (.aload_n 2, 1) := by decide +kernel
theorem dX8_close_7 : decode cX8_close 7 = .ok (.ifnonnull 9, 3) := by decide +kernel
theorem dX8_close_10 : decode cX8_close 10 = .ok (.aload_n 0, 1) := by decide +kernel
theorem dX8_close_11 : decode cX8_close 11 = .ok (.iload_n 1, 1) := by decide +kernel
theorem dX8_close_12 : decode cX8_close 12 = .ok (.invokevirtual 105, 3) := by decide +kernel
theorem dX8_close_15 : decode cX8_close 15 = .ok (.ireturn, 1) := by decide +kernel
theorem dX8_close_16 : decode cX8_close 16 = .ok (.aload_n 0, 1) := by decide +kernel
theorem dX8_close_17 : decode cX8_close 17 = .ok (.aload_n 2, 1) := by decide +kernel
theorem dX8_close_18 : decode cX8_close 18 = .ok (.invokevirtual 115, 3) := by decide +kernel
theorem dX8_close_21 : decode cX8_close 21 = .ok (.ireturn, 1) := by decide +kernel
theorem dX8_browse_0 : decode cX8_browse 0 = .ok (.aload_n 0, 1) := by decide +kernel
theorem dX8_browse_1 : decode cX8_browse 1 = .ok (.iload_n 1, 1) := by decide +kernel
theorem dX8_browse_2 : decode cX8_browse 2 = .ok (.invokevirtual 112, 3) := by decide +kernel
theorem dX8_browse_5 : decode cX8_browse 5 = .ok (.ifnonnull 9, 3) := by decide +kernel
theorem dX8_browse_8 : decode cX8_browse 8 = .ok (.aload_n 0, 1) := by decide +kernel
theorem dX8_browse_9 : decode cX8_browse 9 = .ok (.iload_n 1, 1) := by decide +kernel
theorem dX8_browse_10 : decode cX8_browse 10 = .ok (.invokevirtual 105, 3) := by decide +kernel
theorem dX8_browse_13 : decode cX8_browse 13 = .ok (.ireturn, 1) := by decide +kernel
theorem dX8_browse_14 : decode cX8_browse 14 = .ok (.aload_n 0, 1) := by decide +kernel
theorem dX8_browse_15 : decode cX8_browse 15 = .ok (.iload_n 2, 1) := by decide +kernel
theorem dX8_browse_16 : decode cX8_browse 16 = .ok (.invokevirtual 70, 3) := by decide +kernel
theorem dX8_browse_19 : decode cX8_browse 19 = .ok (.ifnonnull 10, 3) := by decide +kernel
theorem dX8_browse_22 : decode cX8_browse 22 = .ok (.aload_n 0, 1) := by decide +kernel
theorem dX8_browse_23 : decode cX8_browse 23 = .ok (.bipush (-4), 2) := by decide +kernel
theorem dX8_browse_25 : decode cX8_browse 25 = .ok (.invokevirtual 55, 3) := by decide +kernel
theorem dX8_browse_28 : decode cX8_browse 28 = .ok (.ireturn, 1) := by decide +kernel
theorem dX8_browse_29 : decode cX8_browse 29 = .ok (.iload_n 3, 1) := by decide +kernel
theorem dX8_browse_30 : decode cX8_browse 30 = .ok (.iconst 0, 1) := by decide +kernel
theorem dX8_browse_31 : decode cX8_browse 31 = .ok (.iconst 2, 1) := by decide +kernel
theorem dX8_browse_32 : decode cX8_browse 32 = .ok (.invokestatic 51, 3) := by decide +kernel
theorem dX8_browse_35 : decode cX8_browse 35 = .ok (.ifCond .ne 10, 3) := by decide +kernel
theorem dX8_browse_38 : decode cX8_browse 38 = .ok (.aload_n 0, 1) := by decide +kernel
theorem dX8_browse_39 : decode cX8_browse 39 = .ok (.bipush (-7), 2) := by decide +kernel
theorem dX8_browse_41 : decode cX8_browse 41 = .ok (.invokevirtual 55, 3) := by decide +kernel
theorem dX8_browse_44 : decode cX8_browse 44 = .ok (.ireturn, 1) := by decide +kernel
theorem dX8_browse_45 : decode cX8_browse 45 = .ok (.iconst 0, 1) := by decide +kernel
theorem dX8_browse_46 : decode cX8_browse 46 = .ok (.istore 6, 2) := by decide +kernel
theorem dX8_browse_48 : decode cX8_browse 48 = .ok (.iconst 0, 1) := by decide +kernel
theorem dX8_browse_49 : decode cX8_browse 49 = .ok (.istore 7, 2) := by decide +kernel
theorem dX8_browse_51 : decode cX8_browse 51 = .ok (.iload 7, 2) := by decide +kernel
theorem dX8_browse_53 : decode cX8_browse 53 = .ok (.aload_n 0, 1) := by decide +kernel
theorem dX8_browse_54 : decode cX8_browse 54 = .ok (.getfield 16, 3) := by decide +kernel
theorem dX8_browse_57 : decode cX8_browse 57 = .ok (.invokevirtual 59, 3) := by decide +kernel
theorem dX8_browse_60 : decode cX8_browse 60 = .ok (.if_icmp .ge 60, 3) := by decide +kernel
theorem dX8_browse_63 : decode cX8_browse 63 = .ok (.aload_n 0, 1) := by decide +kernel
theorem dX8_browse_64 : decode cX8_browse 64 = .ok (.getfield 16, 3) := by decide +kernel
theorem dX8_browse_67 : decode cX8_browse 67 = .ok (.iload 7, 2) := by decide +kernel
theorem dX8_browse_69 : decode cX8_browse 69 = .ok (.invokevirtual 119, 3) := by decide +kernel
theorem dX8_browse_72 : decode cX8_browse 72 = .ok (.checkcast 74, 3) := by decide +kernel
theorem dX8_browse_75 : decode cX8_browse 75 = .ok (.astore 8, 2) := by decide +kernel
theorem dX8_browse_77 : decode cX8_browse 77 = .ok (.aload 8, 2) := by decide +kernel
theorem dX8_browse_79 : decode cX8_browse 79 = .ok (.iload_n 2, 1) := by decide +kernel
theorem dX8_browse_80 : decode cX8_browse 80 = .ok (.iload_n 3, 1) := by decide +kernel
theorem dX8_browse_81 : decode cX8_browse 81 = .ok (.invokevirtual 123, 3) := by decide +kernel
theorem dX8_browse_84 : decode cX8_browse 84 = .ok (.ifCond .eq 30, 3) := by decide +kernel
theorem dX8_browse_87 : decode cX8_browse 87 = .ok (.aload 8, 2) := by decide +kernel
theorem dX8_browse_89 : decode cX8_browse 89 = .ok (.iload 4, 2) := by decide +kernel
theorem dX8_browse_91 : decode cX8_browse 91 = .ok (.invokevirtual 127, 3) := by decide +kernel
theorem dX8_browse_94 : decode cX8_browse 94 = .ok (.ifCond .eq 20, 3) := by decide +kernel
theorem dX8_browse_97 : decode cX8_browse 97 = .ok (.iload 6, 2) := by decide +kernel
theorem dX8_browse_99 : decode cX8_browse 99 = .ok (.iload 5, 2) := by decide +kernel
theorem dX8_browse_101 : decode cX8_browse 101 = .ok (.if_icmp .ne 10, 3) := by decide +kernel
theorem dX8_browse_104 : decode cX8_browse 104 = .ok (.aload 8, 2) := by decide +kernel
theorem dX8_browse_106 : decode cX8_browse 106 = .ok (.iload_n 2, 1) := by decide +kernel
theorem dX8_browse_107 : decode cX8_browse 107 = .ok (.invokevirtual 131, 3) := by decide +kernel
theorem dX8_browse_110 : decode cX8_browse 110 = .ok (.ireturn, 1) := by decide +kernel
theorem dX8_browse_111 : decode cX8_browse 111 = .ok (.iinc 6 1, 3) := by decide +kernel
theorem dX8_browse_114 : decode cX8_browse 114 = .ok (.iinc 7 1, 3) := by decide +kernel
theorem dX8_browse_117 : decode cX8_browse 117 = .ok (.goto (-66), 3) := by decide +kernel
theorem dX8_browse_120 : decode cX8_browse 120 = .ok (.aload_n 0, 1) := by decide +kernel
theorem dX8_browse_121 : decode cX8_browse 121 = .ok (.bipush (-9), 2) := by decide +kernel
theorem dX8_browse_123 : decode cX8_browse 123 = .ok (.invokevirtual 55, 3) := by decide +kernel
theorem dX8_browse_126 : decode cX8_browse 126 = .ok (.ireturn, 1) := by decide +kernel
theorem dX8_read_0 : decode cX8_read 0 = .ok (.aload_n 0, 1) := by decide +kernel
theorem dX8_read_1 : decode cX8_read 1 = .ok (.iload_n 1, 1) := by decide +kernel
theorem dX8_read_2 : decode cX8_read 2 = .ok (.invokevirtual 112, 3) := by decide +kernel
theorem dX8_read_5 : decode cX8_read 5 = .ok (.ifnonnull 9, 3) := by decide +kernel
theorem dX8_read_8 : decode cX8_read 8 = .ok (.aload_n 0, 1) := by decide +kernel
theorem dX8_read_9 : decode cX8_read 9 = .ok (.iload_n 1, 1) := by decide +kernel
theorem dX8_read_10 : decode cX8_read 10 = .ok (.invokevirtual 105, 3) := by decide +kernel
theorem dX8_read_13 : decode cX8_read 13 = .ok (.ireturn, 1) := by decide +kernel
theorem dX8_read_14 : decode cX8_read 14 = .ok (.aload_n 0, 1) := by decide +kernel
theorem dX8_read_15 : decode cX8_read 15 = .ok (.iload_n 2, 1) := by decide +kernel
theorem dX8_read_16 : decode cX8_read 16 = .ok (.invokevirtual 79, 3) := by decide +kernel
theorem dX8_read_19 : decode cX8_read 19 = .ok (.astore_n 3, 1) := by decide +kernel
theorem dX8_read_20 : decode cX8_read 20 = .ok (.aload_n 3, 1) := by decide +kernel
theorem dX8_read_21 : decode cX8_read 21 = .ok (.ifnonnull 10, 3) := by decide +kernel
theorem dX8_read_24 : decode cX8_read 24 = .ok (.aload_n 0, 1) := by decide +kernel
theorem dX8_read_25 : decode cX8_read 25 = .ok (.bipush (-4), 2) := by decide +kernel
theorem dX8_read_27 : decode cX8_read 27 = .ok (.invokevirtual 55, 3) := by decide +kernel
theorem dX8_read_30 : decode cX8_read 30 = .ok (.ireturn, 1) := by decide +kernel
theorem dX8_read_31 : decode cX8_read 31 = .ok (.aload_n 0, 1) := by decide +kernel
theorem dX8_read_32 : decode cX8_read 32 = .ok (.aload_n 3, 1) := by decide +kernel
theorem dX8_read_33 : decode cX8_read 33 = .ok (.getfield 82, 3) := by decide +kernel
theorem dX8_read_36 : decode cX8_read 36 = .ok (.putfield 39, 3) := by decide +kernel
theorem dX8_read_39 : decode cX8_read 39 = .ok (.iconst 0, 1) := by decide +kernel
theorem dX8_read_40 : decode cX8_read 40 = .ok (.ireturn, 1) := by decide +kernel
theorem dX8_value_0 : decode cX8_value 0 = .ok (.aload_n 0, 1) := by decide +kernel
theorem dX8_value_1 : decode cX8_value 1 = .ok (.getfield 39, 3) := by decide +kernel
theorem dX8_value_4 : decode cX8_value 4 = .ok (.lreturn, 1) := by decide +kernel
theorem dX8_write_0 : decode cX8_write 0 = .ok (.aload_n 0, 1) := by decide +kernel
theorem dX8_write_1 : decode cX8_write 1 = .ok (.iload_n 1, 1) := by decide +kernel
theorem dX8_write_2 : decode cX8_write 2 = .ok (.invokevirtual 112, 3) := by decide +kernel
theorem dX8_write_5 : decode cX8_write 5 = .ok (.ifnonnull 9, 3) := by decide +kernel
theorem dX8_write_8 : decode cX8_write 8 = .ok (.aload_n 0, 1) := by decide +kernel
theorem dX8_write_9 : decode cX8_write 9 = .ok (.iload_n 1, 1) := by decide +kernel
theorem dX8_write_10 : decode cX8_write 10 = .ok (.invokevirtual 105, 3) := by decide +kernel
theorem dX8_write_13 : decode cX8_write 13 = .ok (.ireturn, 1) := by decide +kernel
theorem dX8_write_14 : decode cX8_write 14 = .ok (.aload_n 0, 1) := by decide +kernel
theorem dX8_write_15 : decode cX8_write 15 = .ok (.iload_n 2, 1) := by decide +kernel
theorem dX8_write_16 : decode cX8_write 16 = .ok (.invokevirtual 79, 3) := by decide +kernel
theorem dX8_write_19 : decode cX8_write 19 = .ok (.astore 5, 2) := by decide +kernel
theorem dX8_write_21 : decode cX8_write 21 = .ok (.aload 5, 2) := by decide +kernel
theorem dX8_write_23 : decode cX8_write 23 = .ok (.ifnull 12, 3) := by decide +kernel
theorem dX8_write_26 : decode cX8_write 26 = .ok (.aload 5, 2) := by decide +kernel
theorem dX8_write_28 : decode cX8_write 28 = .ok (.getfield 134, 3) := by decide +kernel
theorem dX8_write_31 : decode cX8_write 31 = .ok (.iconst 2, 1) := by decide +kernel
theorem dX8_write_32 : decode cX8_write 32 = .ok (.if_icmp .eq 10, 3) := by decide +kernel
theorem dX8_write_35 : decode cX8_write 35 = .ok (.aload_n 0, 1) := by decide +kernel
theorem dX8_write_36 : decode cX8_write 36 = .ok (.bipush (-4), 2) := by decide +kernel
theorem dX8_write_38 : decode cX8_write 38 = .ok (.invokevirtual 55, 3) := by decide +kernel
theorem dX8_write_41 : decode cX8_write 41 = .ok (.ireturn, 1) := by decide +kernel
theorem dX8_write_42 : decode cX8_write 42 = .ok (.aload 5, 2) := by decide +kernel
theorem dX8_write_44 : decode cX8_write 44 = .ok (.lload_n 3, 1) := by decide +kernel
theorem dX8_write_45 : decode cX8_write 45 = .ok (.putfield 82, 3) := by decide +kernel
theorem dX8_write_48 : decode cX8_write 48 = .ok (.iconst 1, 1) := by decide +kernel
theorem dX8_write_49 : decode cX8_write 49 = .ok (.ireturn, 1) := by decide +kernel
theorem dX8_subscribe_0 : decode cX8_subscribe 0 = .ok (.aload_n 0, 1) := by decide +kernel
theorem dX8_subscribe_1 : decode cX8_subscribe 1 = .ok (.iload_n 1, 1) := by decide +kernel
theorem dX8_subscribe_2 : decode cX8_subscribe 2 = .ok (.invokevirtual 112, 3) := by decide +kernel
theorem dX8_subscribe_5 : decode cX8_subscribe 5 = .ok (.astore 6, 2) := by decide +kernel
theorem dX8_subscribe_7 : decode cX8_subscribe 7 = .ok (.aload 6, 2) := by decide +kernel
theorem dX8_subscribe_9 : decode cX8_subscribe 9 = .ok (.ifnonnull 9, 3) := by decide +kernel
theorem dX8_subscribe_12 : decode cX8_subscribe 12 = .ok (.aload_n 0, 1) := by decide +kernel
theorem dX8_subscribe_13 : decode cX8_subscribe 13 = .ok (.iload_n 1, 1) := by decide +kernel
theorem dX8_subscribe_14 : decode cX8_subscribe 14 = .ok (.invokevirtual 105, 3) := by decide +kernel
theorem dX8_subscribe_17 : decode cX8_subscribe 17 = .ok (.ireturn, 1) := by decide +kernel
theorem dX8_subscribe_18 : decode cX8_subscribe 18 = .ok (.iload_n 2, 1) := by decide +kernel
theorem dX8_subscribe_19 : decode cX8_subscribe 19 = .ok (.iload_n 3, 1) := by decide +kernel
theorem dX8_subscribe_20 : decode cX8_subscribe 20 = .ok (.iload 4, 2) := by decide +kernel
theorem dX8_subscribe_22 : decode cX8_subscribe 22 = .ok (.iload 5, 2) := by decide +kernel
theorem dX8_subscribe_24 : decode cX8_subscribe 24 = .ok (.invokestatic 137, 3) := by decide +kernel
theorem dX8_subscribe_27 : decode cX8_subscribe 27 = .ok (.ifCond .ne 10, 3) := by decide +kernel
theorem dX8_subscribe_30 : decode cX8_subscribe 30 = .ok (.aload_n 0, 1) := by decide +kernel
theorem dX8_subscribe_31 : decode cX8_subscribe 31 = .ok (.bipush (-7), 2) := by decide +kernel
theorem dX8_subscribe_33 : decode cX8_subscribe 33 = .ok (.invokevirtual 55, 3) := by decide +kernel
theorem dX8_subscribe_36 : decode cX8_subscribe 36 = .ok (.ireturn, 1) := by decide +kernel
theorem dX8_subscribe_37 : decode cX8_subscribe 37 = .ok (.aload_n 0, 1) := by decide +kernel
theorem dX8_subscribe_38 : decode cX8_subscribe 38 = .ok (.getfield 22, 3) := by decide +kernel
theorem dX8_subscribe_41 : decode cX8_subscribe 41 = .ok (.invokevirtual 59, 3) := by decide +kernel
theorem dX8_subscribe_44 : decode cX8_subscribe 44 = .ok (.bipush 20, 2) := by decide +kernel
theorem dX8_subscribe_46 : decode cX8_subscribe 46 = .ok (.if_icmp .lt 10, 3) := by decide +kernel
theorem dX8_subscribe_49 : decode cX8_subscribe 49 = .ok (.aload_n 0, 1) := by decide +kernel
theorem dX8_subscribe_50 : decode cX8_subscribe 50 = .ok (.bipush (-8), 2) := by decide +kernel
theorem dX8_subscribe_52 : decode cX8_subscribe 52 = .ok (.invokevirtual 55, 3) := by decide +kernel
theorem dX8_subscribe_55 : decode cX8_subscribe 55 = .ok (.ireturn, 1) := by decide +kernel
theorem dX8_subscribe_56 : decode cX8_subscribe 56 = .ok (.new 138, 3) := by decide +kernel
theorem dX8_subscribe_59 : decode cX8_subscribe 59 = .ok (.dup, 1) := by decide +kernel
theorem dX8_subscribe_60 : decode cX8_subscribe 60 = .ok (.aload_n 0, 1) := by decide +kernel
theorem dX8_subscribe_61 : decode cX8_subscribe 61 = .ok (.getfield 22, 3) := by decide +kernel
theorem dX8_subscribe_64 : decode cX8_subscribe 64 = .ok (.invokevirtual 59, 3) := by decide +kernel
theorem dX8_subscribe_67 : decode cX8_subscribe 67 = .ok (.aload 6, 2) := by decide +kernel
theorem dX8_subscribe_69 : decode cX8_subscribe 69 = .ok (.invokespecial 143, 3) := by decide +kernel
theorem dX8_subscribe_72 : decode cX8_subscribe 72 = .ok (.astore 7, 2) := by decide +kernel
theorem dX8_subscribe_74 : decode cX8_subscribe 74 = .ok (.aload 7, 2) := by decide +kernel
theorem dX8_subscribe_76 : decode cX8_subscribe 76 = .ok (.aload_n 0, 1) := by decide +kernel
theorem dX8_subscribe_77 : decode cX8_subscribe 77 = .ok (.getfield 35, 3) := by decide +kernel
theorem dX8_subscribe_80 : decode cX8_subscribe 80 = .ok (.iload_n 2, 1) := by decide +kernel
theorem dX8_subscribe_81 : decode cX8_subscribe 81 = .ok (.iload_n 3, 1) := by decide +kernel
theorem dX8_subscribe_82 : decode cX8_subscribe 82 = .ok (.iload 4, 2) := by decide +kernel
theorem dX8_subscribe_84 : decode cX8_subscribe 84 = .ok (.iload 5, 2) := by decide +kernel
theorem dX8_subscribe_86 : decode cX8_subscribe 86 = .ok (.invokevirtual 146, 3) := by decide +kernel
theorem dX8_subscribe_89 : decode cX8_subscribe 89 = .ok (.aload_n 0, 1) := by decide +kernel
theorem dX8_subscribe_90 : decode cX8_subscribe 90 = .ok (.getfield 22, 3) := by decide +kernel
theorem dX8_subscribe_93 : decode cX8_subscribe 93 = .ok (.aload 7, 2) := by decide +kernel
theorem dX8_subscribe_95 : decode cX8_subscribe 95 = .ok (.invokevirtual 66, 3) := by decide +kernel
theorem dX8_subscribe_98 : decode cX8_subscribe 98 = .ok (.pop, 1) := by decide +kernel
theorem dX8_subscribe_99 : decode cX8_subscribe 99 = .ok (.aload 7, 2) := by decide +kernel
theorem dX8_subscribe_101 : decode cX8_subscribe 101 = .ok (.getfield 150, 3) := by decide +kernel
theorem dX8_subscribe_104 : decode cX8_subscribe 104 = .ok (.ireturn, 1) := by decide +kernel
theorem dX8_modify_0 : decode cX8_modify 0 = .ok (.aload_n 0, 1) := by decide +kernel
theorem dX8_modify_1 : decode cX8_modify 1 = .ok (.iload_n 1, 1) := by decide +kernel
theorem dX8_modify_2 : decode cX8_modify 2 = .ok (.invokevirtual 112, 3) := by decide +kernel
theorem dX8_modify_5 : decode cX8_modify 5 = .ok (.astore 7, 2) := by decide +kernel
theorem dX8_modify_7 : decode cX8_modify 7 = .ok (.aload 7, 2) := by decide +kernel
theorem dX8_modify_9 : decode cX8_modify 9 = .ok (.ifnonnull 9, 3) := by decide +kernel
theorem dX8_modify_12 : decode cX8_modify 12 = .ok (.aload_n 0, 1) := by decide +kernel
theorem dX8_modify_13 : decode cX8_modify 13 = .ok (.iload_n 1, 1) := by decide +kernel
theorem dX8_modify_14 : decode cX8_modify 14 = .ok (.invokevirtual 105, 3) := by decide +kernel
theorem dX8_modify_17 : decode cX8_modify 17 = .ok (.ireturn, 1) := by decide +kernel
theorem dX8_modify_18 : decode cX8_modify 18 = .ok (.aload_n 0, 1) := by decide +kernel
theorem dX8_modify_19 : decode cX8_modify 19 = .ok (.aload 7, 2) := by decide +kernel
theorem dX8_modify_21 : decode cX8_modify 21 = .ok (.iload_n 2, 1) := by decide +kernel
theorem dX8_modify_22 : decode cX8_modify 22 = .ok (.invokevirtual 153, 3) := by decide +kernel
theorem dX8_modify_25 : decode cX8_modify 25 = .ok (.astore 8, 2) := by decide +kernel
theorem dX8_modify_27 : decode cX8_modify 27 = .ok (.aload 8, 2) := by decide +kernel
theorem dX8_modify_29 : decode cX8_modify 29 = .ok (.ifnonnull 10, 3) := by decide +kernel
theorem dX8_modify_32 : decode cX8_modify 32 = .ok (.aload_n 0, 1) := by decide +kernel
theorem dX8_modify_33 : decode cX8_modify 33 = .ok (.bipush (-5), 2) := by decide +kernel
theorem dX8_modify_35 : decode cX8_modify 35 = .ok (.invokevirtual 55, 3) := by decide +kernel
theorem dX8_modify_38 : decode cX8_modify 38 = .ok (.ireturn, 1) := by decide +kernel
theorem dX8_modify_39 : decode cX8_modify 39 = .ok (.iload_n 3, 1) := by decide +kernel
theorem dX8_modify_40 : decode cX8_modify 40 = .ok (.iload 4, 2) := by decide +kernel
theorem dX8_modify_42 : decode cX8_modify 42 = .ok (.iload 5, 2) := by decide +kernel
theorem dX8_modify_44 : decode cX8_modify 44 = .ok (.iload 6, 2) := by decide +kernel
theorem dX8_modify_46 : decode cX8_modify 46 = .ok (.invokestatic 137, 3) := by decide +kernel
theorem dX8_modify_49 : decode cX8_modify 49 = .ok (.ifCond .ne 10, 3) := by decide +kernel
theorem dX8_modify_52 : decode cX8_modify 52 = .ok (.aload_n 0, 1) := by decide +kernel
theorem dX8_modify_53 : decode cX8_modify 53 = .ok (.bipush (-7), 2) := by decide +kernel
theorem dX8_modify_55 : decode cX8_modify 55 = .ok (.invokevirtual 55, 3) := by decide +kernel
theorem dX8_modify_58 : decode cX8_modify 58 = .ok (.ireturn, 1) := by decide +kernel
theorem dX8_modify_59 : decode cX8_modify 59 = .ok (.aload 8, 2) := by decide +kernel
theorem dX8_modify_61 : decode cX8_modify 61 = .ok (.aload_n 0, 1) := by decide +kernel
theorem dX8_modify_62 : decode cX8_modify 62 = .ok (.getfield 35, 3) := by decide +kernel
theorem dX8_modify_65 : decode cX8_modify 65 = .ok (.iload_n 3, 1) := by decide +kernel
theorem dX8_modify_66 : decode cX8_modify 66 = .ok (.iload 4, 2) := by decide +kernel
theorem dX8_modify_68 : decode cX8_modify 68 = .ok (.iload 5, 2) := by decide +kernel
theorem dX8_modify_70 : decode cX8_modify 70 = .ok (.iload 6, 2) := by decide +kernel
theorem dX8_modify_72 : decode cX8_modify 72 = .ok (.invokevirtual 146, 3) := by decide +kernel
theorem dX8_modify_75 : decode cX8_modify 75 = .ok (.iconst 1, 1) := by decide +kernel
theorem dX8_modify_76 : decode cX8_modify 76 = .ok (.ireturn, 1) := by decide +kernel
theorem dX8_turn_0 : decode cX8_turn 0 = .ok (.aload_n 0, 1) := by decide +kernel
theorem dX8_turn_1 : decode cX8_turn 1 = .ok (.iload_n 1, 1) := by decide +kernel
theorem dX8_turn_2 : decode cX8_turn 2 = .ok (.invokevirtual 112, 3) := by decide +kernel
theorem dX8_turn_5 : decode cX8_turn 5 = .ok (.astore 4, 2) := by decide +kernel
theorem dX8_turn_7 : decode cX8_turn 7 = .ok (.aload 4, 2) := by decide +kernel
theorem dX8_turn_9 : decode cX8_turn 9 = .ok (.ifnonnull 9, 3) := by decide +kernel
theorem dX8_turn_12 : decode cX8_turn 12 = .ok (.aload_n 0, 1) := by decide +kernel
theorem dX8_turn_13 : decode cX8_turn 13 = .ok (.iload_n 1, 1) := by decide +kernel
theorem dX8_turn_14 : decode cX8_turn 14 = .ok (.invokevirtual 105, 3) := by decide +kernel
theorem dX8_turn_17 : decode cX8_turn 17 = .ok (.ireturn, 1) := by decide +kernel
theorem dX8_turn_18 : decode cX8_turn 18 = .ok (.aload_n 0, 1) := by decide +kernel
theorem dX8_turn_19 : decode cX8_turn 19 = .ok (.aload 4, 2) := by decide +kernel
theorem dX8_turn_21 : decode cX8_turn 21 = .ok (.iload_n 2, 1) := by decide +kernel
theorem dX8_turn_22 : decode cX8_turn 22 = .ok (.invokevirtual 153, 3) := by decide +kernel
theorem dX8_turn_25 : decode cX8_turn 25 = .ok (.astore 5, 2) := by decide +kernel
theorem dX8_turn_27 : decode cX8_turn 27 = .ok (.aload 5, 2) := by decide +kernel
theorem dX8_turn_29 : decode cX8_turn 29 = .ok (.ifnonnull 10, 3) := by decide +kernel
theorem dX8_turn_32 : decode cX8_turn 32 = .ok (.aload_n 0, 1) := by decide +kernel
theorem dX8_turn_33 : decode cX8_turn 33 = .ok (.bipush (-5), 2) := by decide +kernel
theorem dX8_turn_35 : decode cX8_turn 35 = .ok (.invokevirtual 55, 3) := by decide +kernel
theorem dX8_turn_38 : decode cX8_turn 38 = .ok (.ireturn, 1) := by decide +kernel
theorem dX8_turn_39 : decode cX8_turn 39 = .ok (.aload 5, 2) := by decide +kernel
theorem dX8_turn_41 : decode cX8_turn 41 = .ok (.getfield 157, 3) := by decide +kernel
theorem dX8_turn_44 : decode cX8_turn 44 = .ok (.iload_n 3, 1) := by decide +kernel
theorem dX8_turn_45 : decode cX8_turn 45 = .ok (.if_icmp .eq 7, 3) := by decide +kernel
theorem dX8_turn_48 : decode cX8_turn 48 = .ok (.iconst 1, 1) := by decide +kernel
theorem dX8_turn_49 : decode cX8_turn 49 = .ok (.goto 4, 3) := by decide +kernel
theorem dX8_turn_52 : decode cX8_turn 52 = .ok (.iconst 0, 1) := by decide +kernel
theorem dX8_turn_53 : decode cX8_turn 53 = .ok (.istore 6, 2) := by decide +kernel
theorem dX8_turn_55 : decode cX8_turn 55 = .ok (.aload 5, 2) := by decide +kernel
theorem dX8_turn_57 : decode cX8_turn 57 = .ok (.iload_n 3, 1) := by decide +kernel
theorem dX8_turn_58 : decode cX8_turn 58 = .ok (.putfield 157, 3) := by decide +kernel
theorem dX8_turn_61 : decode cX8_turn 61 = .ok (.aload 5, 2) := by decide +kernel
theorem dX8_turn_63 : decode cX8_turn 63 = .ok (.aload 5, 2) := by decide +kernel
theorem dX8_turn_65 : decode cX8_turn 65 = .ok (.getfield 161, 3) := by decide +kernel
theorem dX8_turn_68 : decode cX8_turn 68 = .ok (.putfield 164, 3) := by decide +kernel
theorem dX8_turn_71 : decode cX8_turn 71 = .ok (.iload 6, 2) := by decide +kernel
theorem dX8_turn_73 : decode cX8_turn 73 = .ok (.invokestatic 167, 3) := by decide +kernel
theorem dX8_turn_76 : decode cX8_turn 76 = .ok (.ireturn, 1) := by decide +kernel
theorem dX8_transfer_0 : decode cX8_transfer 0 = .ok (.aload_n 0, 1) := by decide +kernel
theorem dX8_transfer_1 : decode cX8_transfer 1 = .ok (.iload_n 1, 1) := by decide +kernel
theorem dX8_transfer_2 : decode cX8_transfer 2 = .ok (.invokevirtual 112, 3) := by decide +kernel
theorem dX8_transfer_5 : decode cX8_transfer 5 = .ok (.astore_n 3, 1) := by decide +kernel
theorem dX8_transfer_6 : decode cX8_transfer 6 = .ok (.aload_n 3, 1) := by decide +kernel
theorem dX8_transfer_7 : decode cX8_transfer 7 = .ok (.ifnonnull 9, 3) := by decide +kernel
theorem dX8_transfer_10 : decode cX8_transfer 10 = .ok (.aload_n 0, 1) := by decide +kernel
theorem dX8_transfer_11 : decode cX8_transfer 11 = .ok (.iload_n 1, 1) := by decide +kernel
theorem dX8_transfer_12 : decode cX8_transfer 12 = .ok (.invokevirtual 105, 3) := by decide +kernel
theorem dX8_transfer_15 : decode cX8_transfer 15 = .ok (.ireturn, 1) := by decide +kernel
theorem dX8_transfer_16 : decode cX8_transfer 16 = .ok (.aload_n 0, 1) := by decide +kernel
theorem dX8_transfer_17 : decode cX8_transfer 17 = .ok (.iload_n 2, 1) := by decide +kernel
theorem dX8_transfer_18 : decode cX8_transfer 18 = .ok (.invokevirtual 171, 3) := by decide +kernel
theorem dX8_transfer_21 : decode cX8_transfer 21 = .ok (.astore 4, 2) := by decide +kernel
theorem dX8_transfer_23 : decode cX8_transfer 23 = .ok (.aload 4, 2) := by decide +kernel
theorem dX8_transfer_25 : decode cX8_transfer 25 = .ok (.ifnonnull 10, 3) := by decide +kernel
theorem dX8_transfer_28 : decode cX8_transfer 28 = .ok (.aload_n 0, 1) := by decide +kernel
theorem dX8_transfer_29 : decode cX8_transfer 29 = .ok (.bipush (-5), 2) := by decide +kernel
theorem dX8_transfer_31 : decode cX8_transfer 31 = .ok (.invokevirtual 55, 3) := by decide +kernel
theorem dX8_transfer_34 : decode cX8_transfer 34 = .ok (.ireturn, 1) := by decide +kernel
theorem dX8_transfer_35 : decode cX8_transfer 35 = .ok (.aload 4, 2) := by decide +kernel
theorem dX8_transfer_37 : decode cX8_transfer 37 = .ok (.getfield 175, 3) := by decide +kernel
theorem dX8_transfer_40 : decode cX8_transfer 40 = .ok (.aload_n 3, 1) := by decide +kernel
theorem dX8_transfer_41 : decode cX8_transfer 41 = .ok (.if_acmp .eq 7, 3) := by decide +kernel
theorem dX8_transfer_44 : decode cX8_transfer 44 = .ok (.iconst 1, 1) := by decide +kernel
theorem dX8_transfer_45 : decode cX8_transfer 45 = .ok (.goto 4, 3) := by decide +kernel
theorem dX8_transfer_48 : decode cX8_transfer 48 = .ok (.iconst 0, 1) := by decide +kernel
theorem dX8_transfer_49 : decode cX8_transfer 49 = .ok (.istore 5, 2) := by decide +kernel
theorem dX8_transfer_51 : decode cX8_transfer 51 = .ok (.aload 4, 2) := by decide +kernel
theorem dX8_transfer_53 : decode cX8_transfer 53 = .ok (.aload_n 3, 1) := by decide +kernel
theorem dX8_transfer_54 : decode cX8_transfer 54 = .ok (.putfield 175, 3) := by decide +kernel
theorem dX8_transfer_57 : decode cX8_transfer 57 = .ok (.aload 4, 2) := by decide +kernel
theorem dX8_transfer_59 : decode cX8_transfer 59 = .ok (.aload 4, 2) := by decide +kernel
theorem dX8_transfer_61 : decode cX8_transfer 61 = .ok (.getfield 161, 3) := by decide +kernel
theorem dX8_transfer_64 : decode cX8_transfer 64 = .ok (.putfield 164, 3) := by decide +kernel
theorem dX8_transfer_67 : decode cX8_transfer 67 = .ok (.iload 5, 2) := by decide +kernel
theorem dX8_transfer_69 : decode cX8_transfer 69 = .ok (.invokestatic 167, 3) := by decide +kernel
theorem dX8_transfer_72 : decode cX8_transfer 72 = .ok (.ireturn, 1) := by decide +kernel
theorem dX8_unsubscribe_0 : decode cX8_unsubscribe 0 = .ok (.aload_n 0, 1) := by decide +kernel
theorem dX8_unsubscribe_1 : decode cX8_unsubscribe 1 = .ok (.iload_n 1, 1) := by decide +kernel
theorem dX8_unsubscribe_2 : decode cX8_unsubscribe 2 = .ok (.invokevirtual 112, 3) := by decide +kernel
theorem dX8_unsubscribe_5 : decode cX8_unsubscribe 5 = .ok (.astore_n 3, 1) := by decide +kernel
theorem dX8_unsubscribe_6 : decode cX8_unsubscribe 6 = .ok (.aload_n 3, 1) := by decide +kernel
theorem dX8_unsubscribe_7 : decode cX8_unsubscribe 7 = .ok (.ifnonnull 9, 3) := by decide +kernel
theorem dX8_unsubscribe_10 : decode cX8_unsubscribe 10 = .ok (.aload_n 0, 1) := by decide +kernel
theorem dX8_unsubscribe_11 : decode cX8_unsubscribe 11 = .ok (.iload_n 1, 1) := by decide +kernel
theorem dX8_unsubscribe_12 : decode cX8_unsubscribe 12 = .ok (.invokevirtual 105, 3) := by decide +kernel
theorem dX8_unsubscribe_15 : decode cX8_unsubscribe 15 = .ok (.ireturn, 1) := by decide +kernel
theorem dX8_unsubscribe_16 : decode cX8_unsubscribe 16 = .ok (.aload_n 0, 1) := by decide +kernel
theorem dX8_unsubscribe_17 : decode cX8_unsubscribe 17 = .ok (.aload_n 3, 1) := by decide +kernel
theorem dX8_unsubscribe_18 : decode cX8_unsubscribe 18 = .ok (.iload_n 2, 1) := by decide +kernel
theorem dX8_unsubscribe_19 : decode cX8_unsubscribe 19 = .ok (.invokevirtual 153, 3) := by decide +kernel
theorem dX8_unsubscribe_22 : decode cX8_unsubscribe 22 = .ok (.astore 4, 2) := by decide +kernel
theorem dX8_unsubscribe_24 : decode cX8_unsubscribe 24 = .ok (.aload 4, 2) := by decide +kernel
theorem dX8_unsubscribe_26 : decode cX8_unsubscribe 26 = .ok (.ifnonnull 10, 3) := by decide +kernel
theorem dX8_unsubscribe_29 : decode cX8_unsubscribe 29 = .ok (.aload_n 0, 1) := by decide +kernel
theorem dX8_unsubscribe_30 : decode cX8_unsubscribe 30 = .ok (.bipush (-5), 2) := by decide +kernel
theorem dX8_unsubscribe_32 : decode cX8_unsubscribe 32 = .ok (.invokevirtual 55, 3) := by decide +kernel
theorem dX8_unsubscribe_35 : decode cX8_unsubscribe 35 = .ok (.ireturn, 1) := by decide +kernel
theorem dX8_unsubscribe_36 : decode cX8_unsubscribe 36 = .ok (.aload 4, 2) := by decide +kernel
theorem dX8_unsubscribe_38 : decode cX8_unsubscribe 38 = .ok (.invokevirtual 179, 3) := by decide +kernel
theorem dX8_unsubscribe_41 : decode cX8_unsubscribe 41 = .ok (.iconst 1, 1) := by decide +kernel
theorem dX8_unsubscribe_42 : decode cX8_unsubscribe 42 = .ok (.ireturn, 1) := by decide +kernel
theorem dX8_item_0 : decode cX8_item 0 = .ok (.aload_n 0, 1) := by decide +kernel
theorem dX8_item_1 : decode cX8_item 1 = .ok (.iload_n 1, 1) := by decide +kernel
theorem dX8_item_2 : decode cX8_item 2 = .ok (.invokevirtual 112, 3) := by decide +kernel
theorem dX8_item_5 : decode cX8_item 5 = .ok (.astore 10, 2) := by decide +kernel
theorem dX8_item_7 : decode cX8_item 7 = .ok (.aload 10, 2) := by decide +kernel
theorem dX8_item_9 : decode cX8_item 9 = .ok (.ifnonnull 9, 3) := by decide +kernel
theorem dX8_item_12 : decode cX8_item 12 = .ok (.aload_n 0, 1) := by decide +kernel
theorem dX8_item_13 : decode cX8_item 13 = .ok (.iload_n 1, 1) := by decide +kernel
theorem dX8_item_14 : decode cX8_item 14 = .ok (.invokevirtual 105, 3) := by decide +kernel
theorem dX8_item_17 : decode cX8_item 17 = .ok (.ireturn, 1) := by decide +kernel
theorem dX8_item_18 : decode cX8_item 18 = .ok (.aload_n 0, 1) := by decide +kernel
theorem dX8_item_19 : decode cX8_item 19 = .ok (.aload 10, 2) := by decide +kernel
theorem dX8_item_21 : decode cX8_item 21 = .ok (.iload_n 2, 1) := by decide +kernel
theorem dX8_item_22 : decode cX8_item 22 = .ok (.invokevirtual 153, 3) := by decide +kernel
theorem dX8_item_25 : decode cX8_item 25 = .ok (.astore 11, 2) := by decide +kernel
theorem dX8_item_27 : decode cX8_item 27 = .ok (.aload 11, 2) := by decide +kernel
theorem dX8_item_29 : decode cX8_item 29 = .ok (.ifnonnull 10, 3) := by decide +kernel
theorem dX8_item_32 : decode cX8_item 32 = .ok (.aload_n 0, 1) := by decide +kernel
theorem dX8_item_33 : decode cX8_item 33 = .ok (.bipush (-5), 2) := by decide +kernel
theorem dX8_item_35 : decode cX8_item 35 = .ok (.invokevirtual 55, 3) := by decide +kernel
theorem dX8_item_38 : decode cX8_item 38 = .ok (.ireturn, 1) := by decide +kernel
theorem dX8_item_39 : decode cX8_item 39 = .ok (.aload_n 0, 1) := by decide +kernel
theorem dX8_item_40 : decode cX8_item 40 = .ok (.iload_n 3, 1) := by decide +kernel
theorem dX8_item_41 : decode cX8_item 41 = .ok (.invokevirtual 79, 3) := by decide +kernel
theorem dX8_item_44 : decode cX8_item 44 = .ok (.astore 12, 2) := by decide +kernel
theorem dX8_item_46 : decode cX8_item 46 = .ok (.aload 12, 2) := by decide +kernel
theorem dX8_item_48 : decode cX8_item 48 = .ok (.ifnonnull 10, 3) := by decide +kernel
theorem dX8_item_51 : decode cX8_item 51 = .ok (.aload_n 0, 1) := by decide +kernel
theorem dX8_item_52 : decode cX8_item 52 = .ok (.bipush (-4), 2) := by decide +kernel
theorem dX8_item_54 : decode cX8_item 54 = .ok (.invokevirtual 55, 3) := by decide +kernel
theorem dX8_item_57 : decode cX8_item 57 = .ok (.ireturn, 1) := by decide +kernel
theorem dX8_item_58 : decode cX8_item 58 = .ok (.iload 4, 2) := by decide +kernel
theorem dX8_item_60 : decode cX8_item 60 = .ok (.iload 5, 2) := by decide +kernel
theorem dX8_item_62 : decode cX8_item 62 = .ok (.iload 7, 2) := by decide +kernel
theorem dX8_item_64 : decode cX8_item 64 = .ok (.lload 8, 2) := by decide +kernel
theorem dX8_item_66 : decode cX8_item 66 = .ok (.invokestatic 182, 3) := by decide +kernel
theorem dX8_item_69 : decode cX8_item 69 = .ok (.ifCond .ne 10, 3) := by decide +kernel
theorem dX8_item_72 : decode cX8_item 72 = .ok (.aload_n 0, 1) := by decide +kernel
theorem dX8_item_73 : decode cX8_item 73 = .ok (.bipush (-7), 2) := by decide +kernel
theorem dX8_item_75 : decode cX8_item 75 = .ok (.invokevirtual 55, 3) := by decide +kernel
theorem dX8_item_78 : decode cX8_item 78 = .ok (.ireturn, 1) := by decide +kernel
theorem dX8_item_79 : decode cX8_item 79 = .ok (.aload_n 0, 1) := by decide +kernel
theorem dX8_item_80 : decode cX8_item 80 = .ok (.getfield 25, 3) := by decide +kernel
theorem dX8_item_83 : decode cX8_item 83 = .ok (.invokevirtual 59, 3) := by decide +kernel
theorem dX8_item_86 : decode cX8_item 86 = .ok (.bipush 60, 2) := by decide +kernel
theorem dX8_item_88 : decode cX8_item 88 = .ok (.if_icmp .lt 10, 3) := by decide +kernel
theorem dX8_item_91 : decode cX8_item 91 = .ok (.aload_n 0, 1) := by decide +kernel
theorem dX8_item_92 : decode cX8_item 92 = .ok (.bipush (-8), 2) := by decide +kernel
theorem dX8_item_94 : decode cX8_item 94 = .ok (.invokevirtual 55, 3) := by decide +kernel
theorem dX8_item_97 : decode cX8_item 97 = .ok (.ireturn, 1) := by decide +kernel
theorem dX8_item_98 : decode cX8_item 98 = .ok (.new 183, 3) := by decide +kernel
theorem dX8_item_101 : decode cX8_item 101 = .ok (.dup, 1) := by decide +kernel
theorem dX8_item_102 : decode cX8_item 102 = .ok (.aload_n 0, 1) := by decide +kernel
theorem dX8_item_103 : decode cX8_item 103 = .ok (.getfield 25, 3) := by decide +kernel
theorem dX8_item_106 : decode cX8_item 106 = .ok (.invokevirtual 59, 3) := by decide +kernel
theorem dX8_item_109 : decode cX8_item 109 = .ok (.aload 11, 2) := by decide +kernel
theorem dX8_item_111 : decode cX8_item 111 = .ok (.aload 12, 2) := by decide +kernel
theorem dX8_item_113 : decode cX8_item 113 = .ok (.aload_n 0, 1) := by decide +kernel
theorem dX8_item_114 : decode cX8_item 114 = .ok (.getfield 35, 3) := by decide +kernel
theorem dX8_item_117 : decode cX8_item 117 = .ok (.iload 4, 2) := by decide +kernel
theorem dX8_item_119 : decode cX8_item 119 = .ok (.lload 8, 2) := by decide +kernel
theorem dX8_item_121 : decode cX8_item 121 = .ok (.new 187, 3) := by decide +kernel
theorem dX8_item_124 : decode cX8_item 124 = .ok (.dup, 1) := by decide +kernel
theorem dX8_item_125 : decode cX8_item 125 = .ok (.iload 5, 2) := by decide +kernel
theorem dX8_item_127 : decode cX8_item 127 = .ok (.iload 6, 2) := by decide +kernel
theorem dX8_item_129 : decode cX8_item 129 = .ok (.invokespecial 189, 3) := by decide +kernel
theorem dX8_item_132 : decode cX8_item 132 = .ok (.invokespecial 192, 3) := by decide +kernel
theorem dX8_item_135 : decode cX8_item 135 = .ok (.astore 13, 2) := by decide +kernel
theorem dX8_item_137 : decode cX8_item 137 = .ok (.aload_n 0, 1) := by decide +kernel
theorem dX8_item_138 : decode cX8_item 138 = .ok (.getfield 25, 3) := by decide +kernel
theorem dX8_item_141 : decode cX8_item 141 = .ok (.aload 13, 2) := by decide +kernel
theorem dX8_item_143 : decode cX8_item 143 = .ok (.invokevirtual 66, 3) := by decide +kernel
theorem dX8_item_146 : decode cX8_item 146 = .ok (.pop, 1) := by decide +kernel
theorem dX8_item_147 : decode cX8_item 147 = .ok (.aload 11, 2) := by decide +kernel
theorem dX8_item_149 : decode cX8_item 149 = .ok (.getfield 195, 3) := by decide +kernel
theorem dX8_item_152 : decode cX8_item 152 = .ok (.aload 13, 2) := by decide +kernel
theorem dX8_item_154 : decode cX8_item 154 = .ok (.invokevirtual 66, 3) := by decide +kernel
theorem dX8_item_157 : decode cX8_item 157 = .ok (.pop, 1) := by decide +kernel
theorem dX8_item_158 : decode cX8_item 158 = .ok (.aload 11, 2) := by decide +kernel
theorem dX8_item_160 : decode cX8_item 160 = .ok (.aload 11, 2) := by decide +kernel
theorem dX8_item_162 : decode cX8_item 162 = .ok (.getfield 161, 3) := by decide +kernel
theorem dX8_item_165 : decode cX8_item 165 = .ok (.putfield 164, 3) := by decide +kernel
theorem dX8_item_168 : decode cX8_item 168 = .ok (.aload 13, 2) := by decide +kernel
theorem dX8_item_170 : decode cX8_item 170 = .ok (.iload 7, 2) := by decide +kernel
theorem dX8_item_172 : decode cX8_item 172 = .ok (.aload_n 0, 1) := by decide +kernel
theorem dX8_item_173 : decode cX8_item 173 = .ok (.getfield 35, 3) := by decide +kernel
theorem dX8_item_176 : decode cX8_item 176 = .ok (.invokevirtual 196, 3) := by decide +kernel
theorem dX8_item_179 : decode cX8_item 179 = .ok (.aload 13, 2) := by decide +kernel
theorem dX8_item_181 : decode cX8_item 181 = .ok (.getfield 199, 3) := by decide +kernel
theorem dX8_item_184 : decode cX8_item 184 = .ok (.ireturn, 1) := by decide +kernel
theorem dX8_mode_0 : decode cX8_mode 0 = .ok (.aload_n 0, 1) := by decide +kernel
theorem dX8_mode_1 : decode cX8_mode 1 = .ok (.iload_n 1, 1) := by decide +kernel
theorem dX8_mode_2 : decode cX8_mode 2 = .ok (.invokevirtual 112, 3) := by decide +kernel
theorem dX8_mode_5 : decode cX8_mode 5 = .ok (.astore 4, 2) := by decide +kernel
theorem dX8_mode_7 : decode cX8_mode 7 = .ok (.aload 4, 2) := by decide +kernel
theorem dX8_mode_9 : decode cX8_mode 9 = .ok (.ifnonnull 9, 3) := by decide +kernel
theorem dX8_mode_12 : decode cX8_mode 12 = .ok (.aload_n 0, 1) := by decide +kernel
theorem dX8_mode_13 : decode cX8_mode 13 = .ok (.iload_n 1, 1) := by decide +kernel
theorem dX8_mode_14 : decode cX8_mode 14 = .ok (.invokevirtual 105, 3) := by decide +kernel
theorem dX8_mode_17 : decode cX8_mode 17 = .ok (.ireturn, 1) := by decide +kernel
theorem dX8_mode_18 : decode cX8_mode 18 = .ok (.aload_n 0, 1) := by decide +kernel
theorem dX8_mode_19 : decode cX8_mode 19 = .ok (.aload 4, 2) := by decide +kernel
theorem dX8_mode_21 : decode cX8_mode 21 = .ok (.iload_n 2, 1) := by decide +kernel
theorem dX8_mode_22 : decode cX8_mode 22 = .ok (.invokevirtual 200, 3) := by decide +kernel
theorem dX8_mode_25 : decode cX8_mode 25 = .ok (.astore 5, 2) := by decide +kernel
theorem dX8_mode_27 : decode cX8_mode 27 = .ok (.aload 5, 2) := by decide +kernel
theorem dX8_mode_29 : decode cX8_mode 29 = .ok (.ifnonnull 10, 3) := by decide +kernel
theorem dX8_mode_32 : decode cX8_mode 32 = .ok (.aload_n 0, 1) := by decide +kernel
theorem dX8_mode_33 : decode cX8_mode 33 = .ok (.bipush (-6), 2) := by decide +kernel
theorem dX8_mode_35 : decode cX8_mode 35 = .ok (.invokevirtual 55, 3) := by decide +kernel
theorem dX8_mode_38 : decode cX8_mode 38 = .ok (.ireturn, 1) := by decide +kernel
theorem dX8_mode_39 : decode cX8_mode 39 = .ok (.iload_n 3, 1) := by decide +kernel
theorem dX8_mode_40 : decode cX8_mode 40 = .ok (.iconst 0, 1) := by decide +kernel
theorem dX8_mode_41 : decode cX8_mode 41 = .ok (.iconst 2, 1) := by decide +kernel
theorem dX8_mode_42 : decode cX8_mode 42 = .ok (.invokestatic 51, 3) := by decide +kernel
theorem dX8_mode_45 : decode cX8_mode 45 = .ok (.ifCond .ne 10, 3) := by decide +kernel
theorem dX8_mode_48 : decode cX8_mode 48 = .ok (.aload_n 0, 1) := by decide +kernel
theorem dX8_mode_49 : decode cX8_mode 49 = .ok (.bipush (-7), 2) := by decide +kernel
theorem dX8_mode_51 : decode cX8_mode 51 = .ok (.invokevirtual 55, 3) := by decide +kernel
theorem dX8_mode_54 : decode cX8_mode 54 = .ok (.ireturn, 1) := by decide +kernel
theorem dX8_mode_55 : decode cX8_mode 55 = .ok (.aload 5, 2) := by decide +kernel
theorem dX8_mode_57 : decode cX8_mode 57 = .ok (.getfield 204, 3) := by decide +kernel
theorem dX8_mode_60 : decode cX8_mode 60 = .ok (.istore 6, 2) := by decide +kernel
theorem dX8_mode_62 : decode cX8_mode 62 = .ok (.aload 5, 2) := by decide +kernel
theorem dX8_mode_64 : decode cX8_mode 64 = .ok (.iload_n 3, 1) := by decide +kernel
theorem dX8_mode_65 : decode cX8_mode 65 = .ok (.aload_n 0, 1) := by decide +kernel
theorem dX8_mode_66 : decode cX8_mode 66 = .ok (.getfield 35, 3) := by decide +kernel
theorem dX8_mode_69 : decode cX8_mode 69 = .ok (.invokevirtual 196, 3) := by decide +kernel
theorem dX8_mode_72 : decode cX8_mode 72 = .ok (.aload 5, 2) := by decide +kernel
theorem dX8_mode_74 : decode cX8_mode 74 = .ok (.getfield 207, 3) := by decide +kernel
theorem dX8_mode_77 : decode cX8_mode 77 = .ok (.aload 5, 2) := by decide +kernel
theorem dX8_mode_79 : decode cX8_mode 79 = .ok (.getfield 207, 3) := by decide +kernel
theorem dX8_mode_82 : decode cX8_mode 82 = .ok (.getfield 161, 3) := by decide +kernel
theorem dX8_mode_85 : decode cX8_mode 85 = .ok (.putfield 164, 3) := by decide +kernel
theorem dX8_mode_88 : decode cX8_mode 88 = .ok (.iload 6, 2) := by decide +kernel
theorem dX8_mode_90 : decode cX8_mode 90 = .ok (.ireturn, 1) := by decide +kernel
theorem dX8_drop_0 : decode cX8_drop 0 = .ok (.aload_n 0, 1) := by decide +kernel
theorem dX8_drop_1 : decode cX8_drop 1 = .ok (.iload_n 1, 1) := by decide +kernel
theorem dX8_drop_2 : decode cX8_drop 2 = .ok (.invokevirtual 112, 3) := by decide +kernel
theorem dX8_drop_5 : decode cX8_drop 5 = .ok (.astore_n 3, 1) := by decide +kernel
theorem dX8_drop_6 : decode cX8_drop 6 = .ok (.aload_n 3, 1) := by decide +kernel
theorem dX8_drop_7 : decode cX8_drop 7 = .ok (.ifnonnull 9, 3) := by decide +kernel
theorem dX8_drop_10 : decode cX8_drop 10 = .ok (.aload_n 0, 1) := by decide +kernel
theorem dX8_drop_11 : decode cX8_drop 11 = .ok (.iload_n 1, 1) := by decide +kernel
theorem dX8_drop_12 : decode cX8_drop 12 = .ok (.invokevirtual 105, 3) := by decide +kernel
theorem dX8_drop_15 : decode cX8_drop 15 = .ok (.ireturn, 1) := by decide +kernel
theorem dX8_drop_16 : decode cX8_drop 16 = .ok (.aload_n 0, 1) := by decide +kernel
theorem dX8_drop_17 : decode cX8_drop 17 = .ok (.aload_n 3, 1) := by decide +kernel
theorem dX8_drop_18 : decode cX8_drop 18 = .ok (.iload_n 2, 1) := by decide +kernel
theorem dX8_drop_19 : decode cX8_drop 19 = .ok (.invokevirtual 200, 3) := by decide +kernel
theorem dX8_drop_22 : decode cX8_drop 22 = .ok (.astore 4, 2) := by decide +kernel
theorem dX8_drop_24 : decode cX8_drop 24 = .ok (.aload 4, 2) := by decide +kernel
theorem dX8_drop_26 : decode cX8_drop 26 = .ok (.ifnonnull 10, 3) := by decide +kernel
theorem dX8_drop_29 : decode cX8_drop 29 = .ok (.aload_n 0, 1) := by decide +kernel
theorem dX8_drop_30 : decode cX8_drop 30 = .ok (.bipush (-6), 2) := by decide +kernel
theorem dX8_drop_32 : decode cX8_drop 32 = .ok (.invokevirtual 55, 3) := by decide +kernel
theorem dX8_drop_35 : decode cX8_drop 35 = .ok (.ireturn, 1) := by decide +kernel
theorem dX8_drop_36 : decode cX8_drop 36 = .ok (.aload 4, 2) := by decide +kernel
theorem dX8_drop_38 : decode cX8_drop 38 = .ok (.getfield 210, 3) := by decide +kernel
theorem dX8_drop_41 : decode cX8_drop 41 = .ok (.getfield 214, 3) := by decide +kernel
theorem dX8_drop_44 : decode cX8_drop 44 = .ok (.invokevirtual 59, 3) := by decide +kernel
theorem dX8_drop_47 : decode cX8_drop 47 = .ok (.istore 5, 2) := by decide +kernel
theorem dX8_drop_49 : decode cX8_drop 49 = .ok (.aload 4, 2) := by decide +kernel
theorem dX8_drop_51 : decode cX8_drop 51 = .ok (.getfield 207, 3) := by decide +kernel
theorem dX8_drop_54 : decode cX8_drop 54 = .ok (.aload 4, 2) := by decide +kernel
theorem dX8_drop_56 : decode cX8_drop 56 = .ok (.invokevirtual 217, 3) := by decide +kernel
theorem dX8_drop_59 : decode cX8_drop 59 = .ok (.aload 4, 2) := by decide +kernel
theorem dX8_drop_61 : decode cX8_drop 61 = .ok (.getfield 207, 3) := by decide +kernel
theorem dX8_drop_64 : decode cX8_drop 64 = .ok (.aload 4, 2) := by decide +kernel
theorem dX8_drop_66 : decode cX8_drop 66 = .ok (.getfield 207, 3) := by decide +kernel
theorem dX8_drop_69 : decode cX8_drop 69 = .ok (.getfield 161, 3) := by decide +kernel
theorem dX8_drop_72 : decode cX8_drop 72 = .ok (.putfield 164, 3) := by decide +kernel
theorem dX8_drop_75 : decode cX8_drop 75 = .ok (.iload 5, 2) := by decide +kernel
theorem dX8_drop_77 : decode cX8_drop 77 = .ok (.ireturn, 1) := by decide +kernel
theorem dX8_publish_0 : decode cX8_publish 0 = .ok (.aload_n 0, 1) := by decide +kernel
theorem dX8_publish_1 : decode cX8_publish 1 = .ok (.iload_n 1, 1) := by decide +kernel
theorem dX8_publish_2 : decode cX8_publish 2 = .ok (.invokevirtual 112, 3) := by decide +kernel
theorem dX8_publish_5 : decode cX8_publish 5 = .ok (.astore 4, 2) := by decide +kernel
theorem dX8_publish_7 : decode cX8_publish 7 = .ok (.aload 4, 2) := by decide +kernel
theorem dX8_publish_9 : decode cX8_publish 9 = .ok (.ifnonnull 9, 3) := by decide +kernel
theorem dX8_publish_12 : decode cX8_publish 12 = .ok (.aload_n 0, 1) := by decide +kernel
theorem dX8_publish_13 : decode cX8_publish 13 = .ok (.iload_n 1, 1) := by decide +kernel
theorem dX8_publish_14 : decode cX8_publish 14 = .ok (.invokevirtual 105, 3) := by decide +kernel
theorem dX8_publish_17 : decode cX8_publish 17 = .ok (.ireturn, 1) := by decide +kernel
theorem dX8_publish_18 : decode cX8_publish 18 = .ok (.aload_n 0, 1) := by decide +kernel
theorem dX8_publish_19 : decode cX8_publish 19 = .ok (.aload 4, 2) := by decide +kernel
theorem dX8_publish_21 : decode cX8_publish 21 = .ok (.invokevirtual 221, 3) := by decide +kernel
theorem dX8_publish_24 : decode cX8_publish 24 = .ok (.ifCond .ne 10, 3) := by decide +kernel
theorem dX8_publish_27 : decode cX8_publish 27 = .ok (.aload_n 0, 1) := by decide +kernel
theorem dX8_publish_28 : decode cX8_publish 28 = .ok (.bipush (-9), 2) := by decide +kernel
theorem dX8_publish_30 : decode cX8_publish 30 = .ok (.invokevirtual 55, 3) := by decide +kernel
theorem dX8_publish_33 : decode cX8_publish 33 = .ok (.ireturn, 1) := by decide +kernel
theorem dX8_publish_34 : decode cX8_publish 34 = .ok (.aload 4, 2) := by decide +kernel
theorem dX8_publish_36 : decode cX8_publish 36 = .ok (.getfield 224, 3) := by decide +kernel
theorem dX8_publish_39 : decode cX8_publish 39 = .ok (.iconst 4, 1) := by decide +kernel
theorem dX8_publish_40 : decode cX8_publish 40 = .ok (.if_icmp .ge 16, 3) := by decide +kernel
theorem dX8_publish_43 : decode cX8_publish 43 = .ok (.aload_n 0, 1) := by decide +kernel
theorem dX8_publish_44 : decode cX8_publish 44 = .ok (.getfield 28, 3) := by decide +kernel
theorem dX8_publish_47 : decode cX8_publish 47 = .ok (.invokevirtual 59, 3) := by decide +kernel
theorem dX8_publish_50 : decode cX8_publish 50 = .ok (.sipush 900, 3) := by decide +kernel
theorem dX8_publish_53 : decode cX8_publish 53 = .ok (.if_icmp .lt 10, 3) := by decide +kernel
theorem dX8_publish_56 : decode cX8_publish 56 = .ok (.aload_n 0, 1) := by decide +kernel
theorem dX8_publish_57 : decode cX8_publish 57 = .ok (.bipush (-8), 2) := by decide +kernel
theorem dX8_publish_59 : decode cX8_publish 59 = .ok (.invokevirtual 55, 3) := by decide +kernel
theorem dX8_publish_62 : decode cX8_publish 62 = .ok (.ireturn, 1) := by decide +kernel
theorem dX8_publish_63 : decode cX8_publish 63 = .ok (.aload_n 0, 1) := by decide +kernel
theorem dX8_publish_64 : decode cX8_publish 64 = .ok (.iload_n 2, 1) := by decide +kernel
theorem dX8_publish_65 : decode cX8_publish 65 = .ok (.iconst (-1), 1) := by decide +kernel
theorem dX8_publish_66 : decode cX8_publish 66 = .ok (.if_icmp .ne 7, 3) := by decide +kernel
theorem dX8_publish_69 : decode cX8_publish 69 = .ok (.iconst 0, 1) := by decide +kernel
theorem dX8_publish_70 : decode cX8_publish 70 = .ok (.goto 11, 3) := by decide +kernel
theorem dX8_publish_73 : decode cX8_publish 73 = .ok (.aload_n 0, 1) := by decide +kernel
theorem dX8_publish_74 : decode cX8_publish 74 = .ok (.aload 4, 2) := by decide +kernel
theorem dX8_publish_76 : decode cX8_publish 76 = .ok (.iload_n 2, 1) := by decide +kernel
theorem dX8_publish_77 : decode cX8_publish 77 = .ok (.iload_n 3, 1) := by decide +kernel
theorem dX8_publish_78 : decode cX8_publish 78 = .ok (.invokevirtual 227, 3) := by decide +kernel
theorem dX8_publish_81 : decode cX8_publish 81 = .ok (.putfield 43, 3) := by decide +kernel
theorem dX8_publish_84 : decode cX8_publish 84 = .ok (.aload 4, 2) := by decide +kernel
theorem dX8_publish_86 : decode cX8_publish 86 = .ok (.dup, 1) := by decide +kernel
theorem dX8_publish_87 : decode cX8_publish 87 = .ok (.getfield 224, 3) := by decide +kernel
theorem dX8_publish_90 : decode cX8_publish 90 = .ok (.iconst 1, 1) := by decide +kernel
theorem dX8_publish_91 : decode cX8_publish 91 = .ok (.iadd, 1) := by decide +kernel
theorem dX8_publish_92 : decode cX8_publish 92 = .ok (.putfield 224, 3) := by decide +kernel
theorem dX8_publish_95 : decode cX8_publish 95 = .ok (.aload_n 0, 1) := by decide +kernel
theorem dX8_publish_96 : decode cX8_publish 96 = .ok (.aload 4, 2) := by decide +kernel
theorem dX8_publish_98 : decode cX8_publish 98 = .ok (.invokevirtual 231, 3) := by decide +kernel
theorem dX8_publish_101 : decode cX8_publish 101 = .ok (.astore 5, 2) := by decide +kernel
theorem dX8_publish_103 : decode cX8_publish 103 = .ok (.aload 5, 2) := by decide +kernel
theorem dX8_publish_105 : decode cX8_publish 105 = .ok (.ifnonnull 11, 3) := by decide +kernel
theorem dX8_publish_108 : decode cX8_publish 108 = .ok (.aload_n 0, 1) := by decide +kernel
theorem dX8_publish_109 : decode cX8_publish 109 = .ok (.aload 4, 2) := by decide +kernel
theorem dX8_publish_111 : decode cX8_publish 111 = .ok (.invokevirtual 235, 3) := by decide +kernel
theorem dX8_publish_114 : decode cX8_publish 114 = .ok (.astore 5, 2) := by decide +kernel
theorem dX8_publish_116 : decode cX8_publish 116 = .ok (.aload 5, 2) := by decide +kernel
theorem dX8_publish_118 : decode cX8_publish 118 = .ok (.ifnonnull 5, 3) := by decide +kernel
theorem dX8_publish_121 : decode cX8_publish 121 = .ok (.iconst 0, 1) := by decide +kernel
theorem dX8_publish_122 : decode cX8_publish 122 = .ok (.ireturn, 1) := by decide +kernel
theorem dX8_publish_123 : decode cX8_publish 123 = .ok (.aload_n 0, 1) := by decide +kernel
theorem dX8_publish_124 : decode cX8_publish 124 = .ok (.aload 5, 2) := by decide +kernel
theorem dX8_publish_126 : decode cX8_publish 126 = .ok (.invokevirtual 238, 3) := by decide +kernel
theorem dX8_publish_129 : decode cX8_publish 129 = .ok (.iconst 1, 1) := by decide +kernel
theorem dX8_publish_130 : decode cX8_publish 130 = .ok (.ireturn, 1) := by decide +kernel
theorem dX8_acknowledged_0 : decode cX8_acknowledged 0 = .ok (.aload_n 0, 1) := by decide +kernel
theorem dX8_acknowledged_1 : decode cX8_acknowledged 1 = .ok (.getfield 43, 3) := by decide +kernel
theorem dX8_acknowledged_4 : decode cX8_acknowledged 4 = .ok (.ireturn, 1) := by decide +kernel
theorem dX8_again_0 : decode cX8_again 0 = .ok (.aload_n 0, 1) := by decide +kernel
theorem dX8_again_1 : decode cX8_again 1 = .ok (.iload_n 1, 1) := by decide +kernel
theorem dX8_again_2 : decode cX8_again 2 = .ok (.invokevirtual 112, 3) := by decide +kernel
theorem dX8_again_5 : decode cX8_again 5 = .ok (.astore 4, 2) := by decide +kernel
theorem dX8_again_7 : decode cX8_again 7 = .ok (.aload 4, 2) := by decide +kernel
theorem dX8_again_9 : decode cX8_again 9 = .ok (.ifnonnull 9, 3) := by decide +kernel
theorem dX8_again_12 : decode cX8_again 12 = .ok (.aload_n 0, 1) := by decide +kernel
theorem dX8_again_13 : decode cX8_again 13 = .ok (.iload_n 1, 1) := by decide +kernel
theorem dX8_again_14 : decode cX8_again 14 = .ok (.invokevirtual 105, 3) := by decide +kernel
theorem dX8_again_17 : decode cX8_again 17 = .ok (.ireturn, 1) := by decide +kernel
theorem dX8_again_18 : decode cX8_again 18 = .ok (.aload_n 0, 1) := by decide +kernel
theorem dX8_again_19 : decode cX8_again 19 = .ok (.aload 4, 2) := by decide +kernel
theorem dX8_again_21 : decode cX8_again 21 = .ok (.iload_n 2, 1) := by decide +kernel
theorem dX8_again_22 : decode cX8_again 22 = .ok (.invokevirtual 153, 3) := by decide +kernel
theorem dX8_again_25 : decode cX8_again 25 = .ok (.astore 5, 2) := by decide +kernel
theorem dX8_again_27 : decode cX8_again 27 = .ok (.aload 5, 2) := by decide +kernel
theorem dX8_again_29 : decode cX8_again 29 = .ok (.ifnonnull 10, 3) := by decide +kernel
theorem dX8_again_32 : decode cX8_again 32 = .ok (.aload_n 0, 1) := by decide +kernel
theorem dX8_again_33 : decode cX8_again 33 = .ok (.bipush (-5), 2) := by decide +kernel
theorem dX8_again_35 : decode cX8_again 35 = .ok (.invokevirtual 55, 3) := by decide +kernel
theorem dX8_again_38 : decode cX8_again 38 = .ok (.ireturn, 1) := by decide +kernel
theorem dX8_again_39 : decode cX8_again 39 = .ok (.aload 5, 2) := by decide +kernel
theorem dX8_again_41 : decode cX8_again 41 = .ok (.iload_n 3, 1) := by decide +kernel
theorem dX8_again_42 : decode cX8_again 42 = .ok (.invokevirtual 242, 3) := by decide +kernel
theorem dX8_again_45 : decode cX8_again 45 = .ok (.astore 6, 2) := by decide +kernel
theorem dX8_again_47 : decode cX8_again 47 = .ok (.aload 6, 2) := by decide +kernel
theorem dX8_again_49 : decode cX8_again 49 = .ok (.ifnonnull 10, 3) := by decide +kernel
theorem dX8_again_52 : decode cX8_again 52 = .ok (.aload_n 0, 1) := by decide +kernel
theorem dX8_again_53 : decode cX8_again 53 = .ok (.bipush (-9), 2) := by decide +kernel
theorem dX8_again_55 : decode cX8_again 55 = .ok (.invokevirtual 55, 3) := by decide +kernel
theorem dX8_again_58 : decode cX8_again 58 = .ok (.ireturn, 1) := by decide +kernel
theorem dX8_again_59 : decode cX8_again 59 = .ok (.aload 4, 2) := by decide +kernel
theorem dX8_again_61 : decode cX8_again 61 = .ok (.getfield 246, 3) := by decide +kernel
theorem dX8_again_64 : decode cX8_again 64 = .ok (.invokevirtual 59, 3) := by decide +kernel
theorem dX8_again_67 : decode cX8_again 67 = .ok (.sipush 200, 3) := by decide +kernel
theorem dX8_again_70 : decode cX8_again 70 = .ok (.if_icmp .lt 10, 3) := by decide +kernel
theorem dX8_again_73 : decode cX8_again 73 = .ok (.aload_n 0, 1) := by decide +kernel
theorem dX8_again_74 : decode cX8_again 74 = .ok (.bipush (-8), 2) := by decide +kernel
theorem dX8_again_76 : decode cX8_again 76 = .ok (.invokevirtual 55, 3) := by decide +kernel
theorem dX8_again_79 : decode cX8_again 79 = .ok (.ireturn, 1) := by decide +kernel
theorem dX8_again_80 : decode cX8_again 80 = .ok (.aload 4, 2) := by decide +kernel
theorem dX8_again_82 : decode cX8_again 82 = .ok (.getfield 246, 3) := by decide +kernel
theorem dX8_again_85 : decode cX8_again 85 = .ok (.aload 6, 2) := by decide +kernel
theorem dX8_again_87 : decode cX8_again 87 = .ok (.invokevirtual 66, 3) := by decide +kernel
theorem dX8_again_90 : decode cX8_again 90 = .ok (.pop, 1) := by decide +kernel
theorem dX8_again_91 : decode cX8_again 91 = .ok (.aload 5, 2) := by decide +kernel
theorem dX8_again_93 : decode cX8_again 93 = .ok (.aload 5, 2) := by decide +kernel
theorem dX8_again_95 : decode cX8_again 95 = .ok (.getfield 161, 3) := by decide +kernel
theorem dX8_again_98 : decode cX8_again 98 = .ok (.putfield 164, 3) := by decide +kernel
theorem dX8_again_101 : decode cX8_again 101 = .ok (.aload 6, 2) := by decide +kernel
theorem dX8_again_103 : decode cX8_again 103 = .ok (.getfield 249, 3) := by decide +kernel
theorem dX8_again_106 : decode cX8_again 106 = .ok (.ireturn, 1) := by decide +kernel
theorem dX8_mail_0 : decode cX8_mail 0 = .ok (.aload_n 0, 1) := by decide +kernel
theorem dX8_mail_1 : decode cX8_mail 1 = .ok (.iload_n 1, 1) := by decide +kernel
theorem dX8_mail_2 : decode cX8_mail 2 = .ok (.invokevirtual 98, 3) := by decide +kernel
theorem dX8_mail_5 : decode cX8_mail 5 = .ok (.astore_n 3, 1) := by decide +kernel
theorem dX8_mail_6 : decode cX8_mail 6 = .ok (.aload_n 3, 1) := by decide +kernel
theorem dX8_mail_7 : decode cX8_mail 7 = .ok (.ifnonnull 5, 3) := by decide +kernel
theorem dX8_mail_10 : decode cX8_mail 10 = .ok (.iconst (-1), 1) := by decide +kernel
theorem dX8_mail_11 : decode cX8_mail 11 = .ok (.ireturn, 1) := by decide +kernel
theorem dX8_mail_12 : decode cX8_mail 12 = .ok (.iload_n 2, 1) := by decide +kernel
theorem dX8_mail_13 : decode cX8_mail 13 = .ok (.ifCond .lt 31, 3) := by decide +kernel
theorem dX8_mail_16 : decode cX8_mail 16 = .ok (.iload_n 2, 1) := by decide +kernel
theorem dX8_mail_17 : decode cX8_mail 17 = .ok (.aload_n 3, 1) := by decide +kernel
theorem dX8_mail_18 : decode cX8_mail 18 = .ok (.getfield 246, 3) := by decide +kernel
theorem dX8_mail_21 : decode cX8_mail 21 = .ok (.invokevirtual 59, 3) := by decide +kernel
theorem dX8_mail_24 : decode cX8_mail 24 = .ok (.if_icmp .ge 20, 3) := by decide +kernel
theorem dX8_mail_27 : decode cX8_mail 27 = .ok (.aload_n 3, 1) := by decide +kernel
theorem dX8_mail_28 : decode cX8_mail 28 = .ok (.getfield 246, 3) := by decide +kernel
theorem dX8_mail_31 : decode cX8_mail 31 = .ok (.iload_n 2, 1) := by decide +kernel
theorem dX8_mail_32 : decode cX8_mail 32 = .ok (.invokevirtual 119, 3) := by decide +kernel
theorem dX8_mail_35 : decode cX8_mail 35 = .ok (.checkcast 250, 3) := by decide +kernel
theorem dX8_mail_38 : decode cX8_mail 38 = .ok (.getfield 249, 3) := by decide +kernel
theorem dX8_mail_41 : decode cX8_mail 41 = .ok (.goto 5, 3) := by decide +kernel
theorem dX8_mail_44 : decode cX8_mail 44 = .ok (.bipush (-9), 2) := by decide +kernel
theorem dX8_mail_46 : decode cX8_mail 46 = .ok (.ireturn, 1) := by decide +kernel
theorem dX8_message_0 : decode cX8_message 0 = .ok (.aload_n 0, 1) := by decide +kernel
theorem dX8_message_1 : decode cX8_message 1 = .ok (.iload_n 1, 1) := by decide +kernel
theorem dX8_message_2 : decode cX8_message 2 = .ok (.invokevirtual 254, 3) := by decide +kernel
theorem dX8_message_5 : decode cX8_message 5 = .ok (.astore_n 3, 1) := by decide +kernel
theorem dX8_message_6 : decode cX8_message 6 = .ok (.aload_n 3, 1) := by decide +kernel
theorem dX8_message_7 : decode cX8_message 7 = .ok (.ifnonnull 6, 3) := by decide +kernel
theorem dX8_message_10 : decode cX8_message 10 = .ok (.bipush (-9), 2) := by decide +kernel
theorem dX8_message_12 : decode cX8_message 12 = .ok (.ireturn, 1) := by decide +kernel
theorem dX8_message_13 : decode cX8_message 13 = .ok (.iload_n 2, 1) := by decide +kernel
theorem dX8_message_14 : decode cX8_message 14 = .ok (.tableswitch 75 0 5 #[38, 43, 48, 54, 62, 67], 38) := by decide +kernel
theorem dX8_message_52 : decode cX8_message 52 = .ok (.aload_n 3, 1) := by decide +kernel
theorem dX8_message_53 : decode cX8_message 53 = .ok (.getfield 257, 3) := by decide +kernel
theorem dX8_message_56 : decode cX8_message 56 = .ok (.ireturn, 1) := by decide +kernel
theorem dX8_message_57 : decode cX8_message 57 = .ok (.aload_n 3, 1) := by decide +kernel
theorem dX8_message_58 : decode cX8_message 58 = .ok (.getfield 260, 3) := by decide +kernel
theorem dX8_message_61 : decode cX8_message 61 = .ok (.ireturn, 1) := by decide +kernel
theorem dX8_message_62 : decode cX8_message 62 = .ok (.aload_n 3, 1) := by decide +kernel
theorem dX8_message_63 : decode cX8_message 63 = .ok (.getfield 261, 3) := by decide +kernel
theorem dX8_message_66 : decode cX8_message 66 = .ok (.arraylength, 1) := by decide +kernel
theorem dX8_message_67 : decode cX8_message 67 = .ok (.ireturn, 1) := by decide +kernel
theorem dX8_message_68 : decode cX8_message 68 = .ok (.aload_n 3, 1) := by decide +kernel
theorem dX8_message_69 : decode cX8_message 69 = .ok (.getfield 264, 3) := by decide +kernel
theorem dX8_message_72 : decode cX8_message 72 = .ok (.invokestatic 167, 3) := by decide +kernel
theorem dX8_message_75 : decode cX8_message 75 = .ok (.ireturn, 1) := by decide +kernel
theorem dX8_message_76 : decode cX8_message 76 = .ok (.aload_n 3, 1) := by decide +kernel
theorem dX8_message_77 : decode cX8_message 77 = .ok (.getfield 267, 3) := by decide +kernel
theorem dX8_message_80 : decode cX8_message 80 = .ok (.ireturn, 1) := by decide +kernel
theorem dX8_message_81 : decode cX8_message 81 = .ok (.aload_n 3, 1) := by decide +kernel
theorem dX8_message_82 : decode cX8_message 82 = .ok (.getfield 268, 3) := by decide +kernel
theorem dX8_message_85 : decode cX8_message 85 = .ok (.invokestatic 167, 3) := by decide +kernel
theorem dX8_message_88 : decode cX8_message 88 = .ok (.ireturn, 1) := by decide +kernel
theorem dX8_message_89 : decode cX8_message 89 = .ok (.bipush (-9), 2) := by decide +kernel
theorem dX8_message_91 : decode cX8_message 91 = .ok (.ireturn, 1) := by decide +kernel
theorem dX8_entry_0 : decode cX8_entry 0 = .ok (.aload_n 0, 1) := by decide +kernel
theorem dX8_entry_1 : decode cX8_entry 1 = .ok (.iload_n 1, 1) := by decide +kernel
theorem dX8_entry_2 : decode cX8_entry 2 = .ok (.invokevirtual 254, 3) := by decide +kernel
theorem dX8_entry_5 : decode cX8_entry 5 = .ok (.astore 4, 2) := by decide +kernel
theorem dX8_entry_7 : decode cX8_entry 7 = .ok (.aload 4, 2) := by decide +kernel
theorem dX8_entry_9 : decode cX8_entry 9 = .ok (.ifnull 17, 3) := by decide +kernel
theorem dX8_entry_12 : decode cX8_entry 12 = .ok (.iload_n 2, 1) := by decide +kernel
theorem dX8_entry_13 : decode cX8_entry 13 = .ok (.ifCond .lt 13, 3) := by decide +kernel
theorem dX8_entry_16 : decode cX8_entry 16 = .ok (.iload_n 2, 1) := by decide +kernel
theorem dX8_entry_17 : decode cX8_entry 17 = .ok (.aload 4, 2) := by decide +kernel
theorem dX8_entry_19 : decode cX8_entry 19 = .ok (.getfield 261, 3) := by decide +kernel
theorem dX8_entry_22 : decode cX8_entry 22 = .ok (.arraylength, 1) := by decide +kernel
theorem dX8_entry_23 : decode cX8_entry 23 = .ok (.if_icmp .lt 7, 3) := by decide +kernel
theorem dX8_entry_26 : decode cX8_entry 26 = .ok (.ldc2_w 271, 3) := by decide +kernel
theorem dX8_entry_29 : decode cX8_entry 29 = .ok (.lreturn, 1) := by decide +kernel
theorem dX8_entry_30 : decode cX8_entry 30 = .ok (.aload 4, 2) := by decide +kernel
theorem dX8_entry_32 : decode cX8_entry 32 = .ok (.getfield 261, 3) := by decide +kernel
theorem dX8_entry_35 : decode cX8_entry 35 = .ok (.iload_n 2, 1) := by decide +kernel
theorem dX8_entry_36 : decode cX8_entry 36 = .ok (.aaload, 1) := by decide +kernel
theorem dX8_entry_37 : decode cX8_entry 37 = .ok (.astore 5, 2) := by decide +kernel
theorem dX8_entry_39 : decode cX8_entry 39 = .ok (.aload 5, 2) := by decide +kernel
theorem dX8_entry_41 : decode cX8_entry 41 = .ok (.ifnonnull 7, 3) := by decide +kernel
theorem dX8_entry_44 : decode cX8_entry 44 = .ok (.ldc2_w 271, 3) := by decide +kernel
theorem dX8_entry_47 : decode cX8_entry 47 = .ok (.lreturn, 1) := by decide +kernel
theorem dX8_entry_48 : decode cX8_entry 48 = .ok (.iload_n 3, 1) := by decide +kernel
theorem dX8_entry_49 : decode cX8_entry 49 = .ok (.tableswitch 61 0 3 #[31, 37, 44, 51], 31) := by decide +kernel
theorem dX8_entry_80 : decode cX8_entry 80 = .ok (.aload 5, 2) := by decide +kernel
theorem dX8_entry_82 : decode cX8_entry 82 = .ok (.getfield 273, 3) := by decide +kernel
theorem dX8_entry_85 : decode cX8_entry 85 = .ok (.lreturn, 1) := by decide +kernel
theorem dX8_entry_86 : decode cX8_entry 86 = .ok (.aload 5, 2) := by decide +kernel
theorem dX8_entry_88 : decode cX8_entry 88 = .ok (.getfield 276, 3) := by decide +kernel
theorem dX8_entry_91 : decode cX8_entry 91 = .ok (.i2l, 1) := by decide +kernel
theorem dX8_entry_92 : decode cX8_entry 92 = .ok (.lreturn, 1) := by decide +kernel
theorem dX8_entry_93 : decode cX8_entry 93 = .ok (.aload 5, 2) := by decide +kernel
theorem dX8_entry_95 : decode cX8_entry 95 = .ok (.getfield 279, 3) := by decide +kernel
theorem dX8_entry_98 : decode cX8_entry 98 = .ok (.i2l, 1) := by decide +kernel
theorem dX8_entry_99 : decode cX8_entry 99 = .ok (.lreturn, 1) := by decide +kernel
theorem dX8_entry_100 : decode cX8_entry 100 = .ok (.aload 5, 2) := by decide +kernel
theorem dX8_entry_102 : decode cX8_entry 102 = .ok (.getfield 280, 3) := by decide +kernel
theorem dX8_entry_105 : decode cX8_entry 105 = .ok (.invokestatic 167, 3) := by decide +kernel
theorem dX8_entry_108 : decode cX8_entry 108 = .ok (.i2l, 1) := by decide +kernel
theorem dX8_entry_109 : decode cX8_entry 109 = .ok (.lreturn, 1) := by decide +kernel
theorem dX8_entry_110 : decode cX8_entry 110 = .ok (.ldc2_w 271, 3) := by decide +kernel
theorem dX8_entry_113 : decode cX8_entry 113 = .ok (.lreturn, 1) := by decide +kernel
theorem dX8_sessionOf_0 : decode cX8_sessionOf 0 = .ok (.aload_n 0, 1) := by decide +kernel
theorem dX8_sessionOf_1 : decode cX8_sessionOf 1 = .ok (.iload_n 1, 1) := by decide +kernel
theorem dX8_sessionOf_2 : decode cX8_sessionOf 2 = .ok (.invokevirtual 98, 3) := by decide +kernel
theorem dX8_sessionOf_5 : decode cX8_sessionOf 5 = .ok (.astore_n 3, 1) := by decide +kernel
theorem dX8_sessionOf_6 : decode cX8_sessionOf 6 = .ok (.aload_n 3, 1) := by decide +kernel
theorem dX8_sessionOf_7 : decode cX8_sessionOf 7 = .ok (.ifnonnull 6, 3) := by decide +kernel
theorem dX8_sessionOf_10 : decode cX8_sessionOf 10 = .ok (.bipush (-9), 2) := by decide +kernel
theorem dX8_sessionOf_12 : decode cX8_sessionOf 12 = .ok (.ireturn, 1) := by decide +kernel
theorem dX8_sessionOf_13 : decode cX8_sessionOf 13 = .ok (.iload_n 2, 1) := by decide +kernel
theorem dX8_sessionOf_14 : decode cX8_sessionOf 14 = .ok (.tableswitch 68 0 4 #[34, 39, 49, 54, 60], 34) := by decide +kernel
theorem dX8_sessionOf_48 : decode cX8_sessionOf 48 = .ok (.aload_n 3, 1) := by decide +kernel
theorem dX8_sessionOf_49 : decode cX8_sessionOf 49 = .ok (.getfield 102, 3) := by decide +kernel
theorem dX8_sessionOf_52 : decode cX8_sessionOf 52 = .ok (.ireturn, 1) := by decide +kernel
theorem dX8_sessionOf_53 : decode cX8_sessionOf 53 = .ok (.aload_n 3, 1) := by decide +kernel
theorem dX8_sessionOf_54 : decode cX8_sessionOf 54 = .ok (.getfield 283, 3) := by decide +kernel
theorem dX8_sessionOf_57 : decode cX8_sessionOf 57 = .ok (.aload_n 0, 1) := by decide +kernel
theorem dX8_sessionOf_58 : decode cX8_sessionOf 58 = .ok (.getfield 35, 3) := by decide +kernel
theorem dX8_sessionOf_61 : decode cX8_sessionOf 61 = .ok (.isub, 1) := by decide +kernel
theorem dX8_sessionOf_62 : decode cX8_sessionOf 62 = .ok (.ireturn, 1) := by decide +kernel
theorem dX8_sessionOf_63 : decode cX8_sessionOf 63 = .ok (.aload_n 3, 1) := by decide +kernel
theorem dX8_sessionOf_64 : decode cX8_sessionOf 64 = .ok (.getfield 224, 3) := by decide +kernel
theorem dX8_sessionOf_67 : decode cX8_sessionOf 67 = .ok (.ireturn, 1) := by decide +kernel
theorem dX8_sessionOf_68 : decode cX8_sessionOf 68 = .ok (.aload_n 0, 1) := by decide +kernel
theorem dX8_sessionOf_69 : decode cX8_sessionOf 69 = .ok (.aload_n 3, 1) := by decide +kernel
theorem dX8_sessionOf_70 : decode cX8_sessionOf 70 = .ok (.invokevirtual 221, 3) := by decide +kernel
theorem dX8_sessionOf_73 : decode cX8_sessionOf 73 = .ok (.ireturn, 1) := by decide +kernel
theorem dX8_sessionOf_74 : decode cX8_sessionOf 74 = .ok (.aload_n 3, 1) := by decide +kernel
theorem dX8_sessionOf_75 : decode cX8_sessionOf 75 = .ok (.getfield 246, 3) := by decide +kernel
theorem dX8_sessionOf_78 : decode cX8_sessionOf 78 = .ok (.invokevirtual 59, 3) := by decide +kernel
theorem dX8_sessionOf_81 : decode cX8_sessionOf 81 = .ok (.ireturn, 1) := by decide +kernel
theorem dX8_sessionOf_82 : decode cX8_sessionOf 82 = .ok (.bipush (-9), 2) := by decide +kernel
theorem dX8_sessionOf_84 : decode cX8_sessionOf 84 = .ok (.ireturn, 1) := by decide +kernel
theorem dX8_subscription_0 : decode cX8_subscription 0 = .ok (.aload_n 0, 1) := by decide +kernel
theorem dX8_subscription_1 : decode cX8_subscription 1 = .ok (.iload_n 1, 1) := by decide +kernel
theorem dX8_subscription_2 : decode cX8_subscription 2 = .ok (.invokevirtual 171, 3) := by decide +kernel
theorem dX8_subscription_5 : decode cX8_subscription 5 = .ok (.astore_n 3, 1) := by decide +kernel
theorem dX8_subscription_6 : decode cX8_subscription 6 = .ok (.aload_n 3, 1) := by decide +kernel
theorem dX8_subscription_7 : decode cX8_subscription 7 = .ok (.ifnonnull 6, 3) := by decide +kernel
theorem dX8_subscription_10 : decode cX8_subscription 10 = .ok (.bipush (-9), 2) := by decide +kernel
theorem dX8_subscription_12 : decode cX8_subscription 12 = .ok (.ireturn, 1) := by decide +kernel
theorem dX8_subscription_13 : decode cX8_subscription 13 = .ok (.iload_n 2, 1) := by decide +kernel
theorem dX8_subscription_14 : decode cX8_subscription 14 = .ok (.tableswitch 113 0 8 #[50, 58, 66, 71, 76, 81, 89, 97, 105], 50) := by decide +kernel
theorem dX8_subscription_64 : decode cX8_subscription 64 = .ok (.aload_n 3, 1) := by decide +kernel
theorem dX8_subscription_65 : decode cX8_subscription 65 = .ok (.getfield 175, 3) := by decide +kernel
theorem dX8_subscription_68 : decode cX8_subscription 68 = .ok (.getfield 285, 3) := by decide +kernel
theorem dX8_subscription_71 : decode cX8_subscription 71 = .ok (.ireturn, 1) := by decide +kernel
theorem dX8_subscription_72 : decode cX8_subscription 72 = .ok (.aload_n 3, 1) := by decide +kernel
theorem dX8_subscription_73 : decode cX8_subscription 73 = .ok (.getfield 157, 3) := by decide +kernel
theorem dX8_subscription_76 : decode cX8_subscription 76 = .ok (.invokestatic 167, 3) := by decide +kernel
theorem dX8_subscription_79 : decode cX8_subscription 79 = .ok (.ireturn, 1) := by decide +kernel
theorem dX8_subscription_80 : decode cX8_subscription 80 = .ok (.aload_n 3, 1) := by decide +kernel
theorem dX8_subscription_81 : decode cX8_subscription 81 = .ok (.getfield 286, 3) := by decide +kernel
theorem dX8_subscription_84 : decode cX8_subscription 84 = .ok (.ireturn, 1) := by decide +kernel
theorem dX8_subscription_85 : decode cX8_subscription 85 = .ok (.aload_n 3, 1) := by decide +kernel
theorem dX8_subscription_86 : decode cX8_subscription 86 = .ok (.getfield 289, 3) := by decide +kernel
theorem dX8_subscription_89 : decode cX8_subscription 89 = .ok (.ireturn, 1) := by decide +kernel
theorem dX8_subscription_90 : decode cX8_subscription 90 = .ok (.aload_n 3, 1) := by decide +kernel
theorem dX8_subscription_91 : decode cX8_subscription 91 = .ok (.getfield 164, 3) := by decide +kernel
theorem dX8_subscription_94 : decode cX8_subscription 94 = .ok (.ireturn, 1) := by decide +kernel
theorem dX8_subscription_95 : decode cX8_subscription 95 = .ok (.aload_n 3, 1) := by decide +kernel
theorem dX8_subscription_96 : decode cX8_subscription 96 = .ok (.getfield 292, 3) := by decide +kernel
theorem dX8_subscription_99 : decode cX8_subscription 99 = .ok (.invokestatic 167, 3) := by decide +kernel
theorem dX8_subscription_102 : decode cX8_subscription 102 = .ok (.ireturn, 1) := by decide +kernel
theorem dX8_subscription_103 : decode cX8_subscription 103 = .ok (.aload_n 3, 1) := by decide +kernel
theorem dX8_subscription_104 : decode cX8_subscription 104 = .ok (.getfield 195, 3) := by decide +kernel
theorem dX8_subscription_107 : decode cX8_subscription 107 = .ok (.invokevirtual 59, 3) := by decide +kernel
theorem dX8_subscription_110 : decode cX8_subscription 110 = .ok (.ireturn, 1) := by decide +kernel
theorem dX8_subscription_111 : decode cX8_subscription 111 = .ok (.aload_n 3, 1) := by decide +kernel
theorem dX8_subscription_112 : decode cX8_subscription 112 = .ok (.getfield 295, 3) := by decide +kernel
theorem dX8_subscription_115 : decode cX8_subscription 115 = .ok (.invokevirtual 59, 3) := by decide +kernel
theorem dX8_subscription_118 : decode cX8_subscription 118 = .ok (.ireturn, 1) := by decide +kernel
theorem dX8_subscription_119 : decode cX8_subscription 119 = .ok (.aload_n 3, 1) := by decide +kernel
theorem dX8_subscription_120 : decode cX8_subscription 120 = .ok (.invokevirtual 297, 3) := by decide +kernel
theorem dX8_subscription_123 : decode cX8_subscription 123 = .ok (.invokestatic 167, 3) := by decide +kernel
theorem dX8_subscription_126 : decode cX8_subscription 126 = .ok (.ireturn, 1) := by decide +kernel
theorem dX8_subscription_127 : decode cX8_subscription 127 = .ok (.bipush (-9), 2) := by decide +kernel
theorem dX8_subscription_129 : decode cX8_subscription 129 = .ok (.ireturn, 1) := by decide +kernel
theorem dX8_itemOf_0 : decode cX8_itemOf 0 = .ok (.aload_n 0, 1) := by decide +kernel
theorem dX8_itemOf_1 : decode cX8_itemOf 1 = .ok (.iload_n 1, 1) := by decide +kernel
theorem dX8_itemOf_2 : decode cX8_itemOf 2 = .ok (.invokevirtual 301, 3) := by decide +kernel
theorem dX8_itemOf_5 : decode cX8_itemOf 5 = .ok (.astore_n 3, 1) := by decide +kernel
theorem dX8_itemOf_6 : decode cX8_itemOf 6 = .ok (.aload_n 3, 1) := by decide +kernel
theorem dX8_itemOf_7 : decode cX8_itemOf 7 = .ok (.ifnonnull 6, 3) := by decide +kernel
theorem dX8_itemOf_10 : decode cX8_itemOf 10 = .ok (.bipush (-9), 2) := by decide +kernel
theorem dX8_itemOf_12 : decode cX8_itemOf 12 = .ok (.ireturn, 1) := by decide +kernel
theorem dX8_itemOf_13 : decode cX8_itemOf 13 = .ok (.iload_n 2, 1) := by decide +kernel
theorem dX8_itemOf_14 : decode cX8_itemOf 14 = .ok (.tableswitch 77 0 4 #[34, 42, 50, 55, 66], 34) := by decide +kernel
