theorem dX0_init_0 : decode cX0_init 0 = .ok (.aload_n 0, 1) := by decide +kernel
theorem dX0_init_1 : decode cX0_init 1 = .ok (.invokespecial 3, 3) := by decide +kernel
theorem dX0_init_4 : decode cX0_init 4 = .ok (.aload_n 0, 1) := by decide +kernel
theorem dX0_init_5 : decode cX0_init 5 = .ok (.iconst 4, 1) := by decide +kernel
theorem dX0_init_6 : decode cX0_init 6 = .ok (.newarray .int, 2) := by decide +kernel
theorem dX0_init_8 : decode cX0_init 8 = .ok (.putfield 9, 3) := by decide +kernel
theorem dX0_init_11 : decode cX0_init 11 = .ok (.return_, 1) := by decide +kernel
theorem dX0_gather_0 : decode cX0_gather 0 = .ok (.iconst 0, 1) := by decide +kernel
theorem dX0_gather_1 : decode cX0_gather 1 = .ok (.istore_n 2, 1) := by decide +kernel
theorem dX0_gather_2 : decode cX0_gather 2 = .ok (.iload_n 2, 1) := by decide +kernel
theorem dX0_gather_3 : decode cX0_gather 3 = .ok (.aload_n 0, 1) := by decide +kernel
theorem dX0_gather_4 : decode cX0_gather 4 = .ok (.getfield 9, 3) := by decide +kernel
theorem dX0_gather_7 : decode cX0_gather 7 = .ok (.arraylength, 1) := by decide +kernel
theorem dX0_gather_8 : decode cX0_gather 8 = .ok (.if_icmp .ge 20, 3) := by decide +kernel
theorem dX0_gather_11 : decode cX0_gather 11 = .ok (.aload_n 0, 1) := by decide +kernel
theorem dX0_gather_12 : decode cX0_gather 12 = .ok (.getfield 9, 3) := by decide +kernel
theorem dX0_gather_15 : decode cX0_gather 15 = .ok (.iload_n 2, 1) := by decide +kernel
theorem dX0_gather_16 : decode cX0_gather 16 = .ok (.aload_n 1, 1) := by decide +kernel
theorem dX0_gather_17 : decode cX0_gather 17 = .ok (.iload_n 2, 1) := by decide +kernel
theorem dX0_gather_18 : decode cX0_gather 18 = .ok (.invokestatic 15, 3) := by decide +kernel
theorem dX0_gather_21 : decode cX0_gather 21 = .ok (.iastore, 1) := by decide +kernel
theorem dX0_gather_22 : decode cX0_gather 22 = .ok (.iinc 2 1, 3) := by decide +kernel
theorem dX0_gather_25 : decode cX0_gather 25 = .ok (.goto (-23), 3) := by decide +kernel
theorem dX0_gather_28 : decode cX0_gather 28 = .ok (.return_, 1) := by decide +kernel
theorem dX0_kindsOf_0 : decode cX0_kindsOf 0 = .ok (.iconst 0, 1) := by decide +kernel
theorem dX0_kindsOf_1 : decode cX0_kindsOf 1 = .ok (.istore_n 2, 1) := by decide +kernel
theorem dX0_kindsOf_2 : decode cX0_kindsOf 2 = .ok (.iconst 0, 1) := by decide +kernel
theorem dX0_kindsOf_3 : decode cX0_kindsOf 3 = .ok (.istore_n 3, 1) := by decide +kernel
theorem dX0_kindsOf_4 : decode cX0_kindsOf 4 = .ok (.iload_n 3, 1) := by decide +kernel
theorem dX0_kindsOf_5 : decode cX0_kindsOf 5 = .ok (.iconst 4, 1) := by decide +kernel
theorem dX0_kindsOf_6 : decode cX0_kindsOf 6 = .ok (.if_icmp .ge 24, 3) := by decide +kernel
theorem dX0_kindsOf_9 : decode cX0_kindsOf 9 = .ok (.aload_n 0, 1) := by decide +kernel
theorem dX0_kindsOf_10 : decode cX0_kindsOf 10 = .ok (.iload_n 1, 1) := by decide +kernel
theorem dX0_kindsOf_11 : decode cX0_kindsOf 11 = .ok (.iload_n 3, 1) := by decide +kernel
theorem dX0_kindsOf_12 : decode cX0_kindsOf 12 = .ok (.invokestatic 19, 3) := by decide +kernel
theorem dX0_kindsOf_15 : decode cX0_kindsOf 15 = .ok (.ifCond .eq 9, 3) := by decide +kernel
theorem dX0_kindsOf_18 : decode cX0_kindsOf 18 = .ok (.iload_n 2, 1) := by decide +kernel
theorem dX0_kindsOf_19 : decode cX0_kindsOf 19 = .ok (.iconst 1, 1) := by decide +kernel
theorem dX0_kindsOf_20 : decode cX0_kindsOf 20 = .ok (.iload_n 3, 1) := by decide +kernel
theorem dX0_kindsOf_21 : decode cX0_kindsOf 21 = .ok (.ishl, 1) := by decide +kernel
theorem dX0_kindsOf_22 : decode cX0_kindsOf 22 = .ok (.ior, 1) := by decide +kernel
theorem dX0_kindsOf_23 : decode cX0_kindsOf 23 = .ok (.istore_n 2, 1) := by decide +kernel
theorem dX0_kindsOf_24 : decode cX0_kindsOf 24 = .ok (.iinc 3 1, 3) := by decide +kernel
theorem dX0_kindsOf_27 : decode cX0_kindsOf 27 = .ok (.goto (-23), 3) := by decide +kernel
theorem dX0_kindsOf_30 : decode cX0_kindsOf 30 = .ok (.iload_n 2, 1) := by decide +kernel
theorem dX0_kindsOf_31 : decode cX0_kindsOf 31 = .ok (.ireturn, 1) := by decide +kernel
theorem dX0_couldBe_0 : decode cX0_couldBe 0 = .ok (.iconst 0, 1) := by decide +kernel
theorem dX0_couldBe_1 : decode cX0_couldBe 1 = .ok (.istore_n 3, 1) := by decide +kernel
theorem dX0_couldBe_2 : decode cX0_couldBe 2 = .ok (.iload_n 3, 1) := by decide +kernel
theorem dX0_couldBe_3 : decode cX0_couldBe 3 = .ok (.aload_n 0, 1) := by decide +kernel
theorem dX0_couldBe_4 : decode cX0_couldBe 4 = .ok (.getfield 23, 3) := by decide +kernel
theorem dX0_couldBe_7 : decode cX0_couldBe 7 = .ok (.if_icmp .ge 42, 3) := by decide +kernel
theorem dX0_couldBe_10 : decode cX0_couldBe 10 = .ok (.aload_n 0, 1) := by decide +kernel
theorem dX0_couldBe_11 : decode cX0_couldBe 11 = .ok (.iload_n 3, 1) := by decide +kernel
theorem dX0_couldBe_12 : decode cX0_couldBe 12 = .ok (.invokevirtual 29, 3) := by decide +kernel
theorem dX0_couldBe_15 : decode cX0_couldBe 15 = .ok (.astore 4, 2) := by decide +kernel
theorem dX0_couldBe_17 : decode cX0_couldBe 17 = .ok (.aload 4, 2) := by decide +kernel
theorem dX0_couldBe_19 : decode cX0_couldBe 19 = .ok (.ifnull 24, 3) := by decide +kernel
theorem dX0_couldBe_22 : decode cX0_couldBe 22 = .ok (.aload 4, 2) := by decide +kernel
theorem dX0_couldBe_24 : decode cX0_couldBe 24 = .ok (.getfield 33, 3) := by decide +kernel
theorem dX0_couldBe_27 : decode cX0_couldBe 27 = .ok (.iload_n 1, 1) := by decide +kernel
theorem dX0_couldBe_28 : decode cX0_couldBe 28 = .ok (.if_icmp .ne 15, 3) := by decide +kernel
theorem dX0_couldBe_31 : decode cX0_couldBe 31 = .ok (.aload_n 0, 1) := by decide +kernel
theorem dX0_couldBe_32 : decode cX0_couldBe 32 = .ok (.aload 4, 2) := by decide +kernel
theorem dX0_couldBe_34 : decode cX0_couldBe 34 = .ok (.iload_n 2, 1) := by decide +kernel
theorem dX0_couldBe_35 : decode cX0_couldBe 35 = .ok (.invokestatic 38, 3) := by decide +kernel
theorem dX0_couldBe_38 : decode cX0_couldBe 38 = .ok (.ifCond .ne 5, 3) := by decide +kernel
theorem dX0_couldBe_41 : decode cX0_couldBe 41 = .ok (.iconst 0, 1) := by decide +kernel
theorem dX0_couldBe_42 : decode cX0_couldBe 42 = .ok (.ireturn, 1) := by decide +kernel
theorem dX0_couldBe_43 : decode cX0_couldBe 43 = .ok (.iinc 3 1, 3) := by decide +kernel
theorem dX0_couldBe_46 : decode cX0_couldBe 46 = .ok (.goto (-44), 3) := by decide +kernel
theorem dX0_couldBe_49 : decode cX0_couldBe 49 = .ok (.iconst 1, 1) := by decide +kernel
theorem dX0_couldBe_50 : decode cX0_couldBe 50 = .ok (.ireturn, 1) := by decide +kernel
theorem dX0_someTenth_0 : decode cX0_someTenth 0 = .ok (.aload_n 0, 1) := by decide +kernel
theorem dX0_someTenth_1 : decode cX0_someTenth 1 = .ok (.aload_n 1, 1) := by decide +kernel
theorem dX0_someTenth_2 : decode cX0_someTenth 2 = .ok (.getfield 42, 3) := by decide +kernel
theorem dX0_someTenth_5 : decode cX0_someTenth 5 = .ok (.invokevirtual 45, 3) := by decide +kernel
theorem dX0_someTenth_8 : decode cX0_someTenth 8 = .ok (.astore_n 3, 1) := by decide +kernel
theorem dX0_someTenth_9 : decode cX0_someTenth 9 = .ok (.aload_n 3, 1) := by decide +kernel
theorem dX0_someTenth_10 : decode cX0_someTenth 10 = .ok (.ifnonnull 5, 3) := by decide +kernel
theorem dX0_someTenth_13 : decode cX0_someTenth 13 = .ok (.iconst 0, 1) := by decide +kernel
theorem dX0_someTenth_14 : decode cX0_someTenth 14 = .ok (.ireturn, 1) := by decide +kernel
theorem dX0_someTenth_15 : decode cX0_someTenth 15 = .ok (.aload_n 3, 1) := by decide +kernel
theorem dX0_someTenth_16 : decode cX0_someTenth 16 = .ok (.getfield 49, 3) := by decide +kernel
theorem dX0_someTenth_19 : decode cX0_someTenth 19 = .ok (.istore 4, 2) := by decide +kernel
theorem dX0_someTenth_21 : decode cX0_someTenth 21 = .ok (.iload 4, 2) := by decide +kernel
theorem dX0_someTenth_23 : decode cX0_someTenth 23 = .ok (.aload_n 3, 1) := by decide +kernel
theorem dX0_someTenth_24 : decode cX0_someTenth 24 = .ok (.getfield 54, 3) := by decide +kernel
theorem dX0_someTenth_27 : decode cX0_someTenth 27 = .ok (.if_icmp .gt 24, 3) := by decide +kernel
theorem dX0_someTenth_30 : decode cX0_someTenth 30 = .ok (.iload_n 2, 1) := by decide +kernel
theorem dX0_someTenth_31 : decode cX0_someTenth 31 = .ok (.iload 4, 2) := by decide +kernel
theorem dX0_someTenth_33 : decode cX0_someTenth 33 = .ok (.invokestatic 57, 3) := by decide +kernel
theorem dX0_someTenth_36 : decode cX0_someTenth 36 = .ok (.aload_n 1, 1) := by decide +kernel
theorem dX0_someTenth_37 : decode cX0_someTenth 37 = .ok (.getfield 61, 3) := by decide +kernel
theorem dX0_someTenth_40 : decode cX0_someTenth 40 = .ok (.if_icmp .ne 5, 3) := by decide +kernel
theorem dX0_someTenth_43 : decode cX0_someTenth 43 = .ok (.iconst 1, 1) := by decide +kernel
theorem dX0_someTenth_44 : decode cX0_someTenth 44 = .ok (.ireturn, 1) := by decide +kernel
theorem dX0_someTenth_45 : decode cX0_someTenth 45 = .ok (.iinc 4 1, 3) := by decide +kernel
theorem dX0_someTenth_48 : decode cX0_someTenth 48 = .ok (.goto (-27), 3) := by decide +kernel
theorem dX0_someTenth_51 : decode cX0_someTenth 51 = .ok (.iconst 0, 1) := by decide +kernel
theorem dX0_someTenth_52 : decode cX0_someTenth 52 = .ok (.ireturn, 1) := by decide +kernel
theorem dX0_allow_0 : decode cX0_allow 0 = .ok (.iconst 0, 1) := by decide +kernel
theorem dX0_allow_1 : decode cX0_allow 1 = .ok (.istore 4, 2) := by decide +kernel
theorem dX0_allow_3 : decode cX0_allow 3 = .ok (.iload 4, 2) := by decide +kernel
theorem dX0_allow_5 : decode cX0_allow 5 = .ok (.aload_n 1, 1) := by decide +kernel
theorem dX0_allow_6 : decode cX0_allow 6 = .ok (.getfield 64, 3) := by decide +kernel
theorem dX0_allow_9 : decode cX0_allow 9 = .ok (.if_icmp .ge 49, 3) := by decide +kernel
theorem dX0_allow_12 : decode cX0_allow 12 = .ok (.iload 4, 2) := by decide +kernel
theorem dX0_allow_14 : decode cX0_allow 14 = .ok (.aload_n 0, 1) := by decide +kernel
theorem dX0_allow_15 : decode cX0_allow 15 = .ok (.getfield 9, 3) := by decide +kernel
theorem dX0_allow_18 : decode cX0_allow 18 = .ok (.arraylength, 1) := by decide +kernel
theorem dX0_allow_19 : decode cX0_allow 19 = .ok (.if_icmp .ge 39, 3) := by decide +kernel
theorem dX0_allow_22 : decode cX0_allow 22 = .ok (.aload_n 1, 1) := by decide +kernel
theorem dX0_allow_23 : decode cX0_allow 23 = .ok (.iload 4, 2) := by decide +kernel
theorem dX0_allow_25 : decode cX0_allow 25 = .ok (.iload_n 2, 1) := by decide +kernel
theorem dX0_allow_26 : decode cX0_allow 26 = .ok (.invokestatic 67, 3) := by decide +kernel
theorem dX0_allow_29 : decode cX0_allow 29 = .ok (.ifCond .eq 23, 3) := by decide +kernel
theorem dX0_allow_32 : decode cX0_allow 32 = .ok (.aload_n 1, 1) := by decide +kernel
theorem dX0_allow_33 : decode cX0_allow 33 = .ok (.aload_n 0, 1) := by decide +kernel
theorem dX0_allow_34 : decode cX0_allow 34 = .ok (.getfield 9, 3) := by decide +kernel
theorem dX0_allow_37 : decode cX0_allow 37 = .ok (.iload 4, 2) := by decide +kernel
theorem dX0_allow_39 : decode cX0_allow 39 = .ok (.iaload, 1) := by decide +kernel
theorem dX0_allow_40 : decode cX0_allow 40 = .ok (.iload 4, 2) := by decide +kernel
theorem dX0_allow_42 : decode cX0_allow 42 = .ok (.iload_n 2, 1) := by decide +kernel
theorem dX0_allow_43 : decode cX0_allow 43 = .ok (.iload_n 3, 1) := by decide +kernel
theorem dX0_allow_44 : decode cX0_allow 44 = .ok (.invokestatic 70, 3) := by decide +kernel
theorem dX0_allow_47 : decode cX0_allow 47 = .ok (.ifCond .ne 5, 3) := by decide +kernel
theorem dX0_allow_50 : decode cX0_allow 50 = .ok (.iconst 0, 1) := by decide +kernel
theorem dX0_allow_51 : decode cX0_allow 51 = .ok (.ireturn, 1) := by decide +kernel
theorem dX0_allow_52 : decode cX0_allow 52 = .ok (.iinc 4 1, 3) := by decide +kernel
theorem dX0_allow_55 : decode cX0_allow 55 = .ok (.goto (-52), 3) := by decide +kernel
theorem dX0_allow_58 : decode cX0_allow 58 = .ok (.iconst 1, 1) := by decide +kernel
theorem dX0_allow_59 : decode cX0_allow 59 = .ok (.ireturn, 1) := by decide +kernel
theorem dX0_isSeen_0 : decode cX0_isSeen 0 = .ok (.iconst 0, 1) := by decide +kernel
theorem dX0_isSeen_1 : decode cX0_isSeen 1 = .ok (.istore_n 3, 1) := by decide +kernel
theorem dX0_isSeen_2 : decode cX0_isSeen 2 = .ok (.iload_n 3, 1) := by decide +kernel
theorem dX0_isSeen_3 : decode cX0_isSeen 3 = .ok (.aload_n 0, 1) := by decide +kernel
theorem dX0_isSeen_4 : decode cX0_isSeen 4 = .ok (.getfield 23, 3) := by decide +kernel
theorem dX0_isSeen_7 : decode cX0_isSeen 7 = .ok (.if_icmp .ge 41, 3) := by decide +kernel
theorem dX0_isSeen_10 : decode cX0_isSeen 10 = .ok (.aload_n 0, 1) := by decide +kernel
theorem dX0_isSeen_11 : decode cX0_isSeen 11 = .ok (.iload_n 3, 1) := by decide +kernel
theorem dX0_isSeen_12 : decode cX0_isSeen 12 = .ok (.invokevirtual 29, 3) := by decide +kernel
theorem dX0_isSeen_15 : decode cX0_isSeen 15 = .ok (.astore 4, 2) := by decide +kernel
theorem dX0_isSeen_17 : decode cX0_isSeen 17 = .ok (.aload 4, 2) := by decide +kernel
theorem dX0_isSeen_19 : decode cX0_isSeen 19 = .ok (.ifnull 23, 3) := by decide +kernel
theorem dX0_isSeen_22 : decode cX0_isSeen 22 = .ok (.aload 4, 2) := by decide +kernel
theorem dX0_isSeen_24 : decode cX0_isSeen 24 = .ok (.getfield 33, 3) := by decide +kernel
theorem dX0_isSeen_27 : decode cX0_isSeen 27 = .ok (.iload_n 1, 1) := by decide +kernel
theorem dX0_isSeen_28 : decode cX0_isSeen 28 = .ok (.if_icmp .ne 14, 3) := by decide +kernel
theorem dX0_isSeen_31 : decode cX0_isSeen 31 = .ok (.aload 4, 2) := by decide +kernel
theorem dX0_isSeen_33 : decode cX0_isSeen 33 = .ok (.getfield 42, 3) := by decide +kernel
theorem dX0_isSeen_36 : decode cX0_isSeen 36 = .ok (.iload_n 2, 1) := by decide +kernel
theorem dX0_isSeen_37 : decode cX0_isSeen 37 = .ok (.if_icmp .ne 5, 3) := by decide +kernel
theorem dX0_isSeen_40 : decode cX0_isSeen 40 = .ok (.iconst 1, 1) := by decide +kernel
theorem dX0_isSeen_41 : decode cX0_isSeen 41 = .ok (.ireturn, 1) := by decide +kernel
theorem dX0_isSeen_42 : decode cX0_isSeen 42 = .ok (.iinc 3 1, 3) := by decide +kernel
theorem dX0_isSeen_45 : decode cX0_isSeen 45 = .ok (.goto (-43), 3) := by decide +kernel
theorem dX0_isSeen_48 : decode cX0_isSeen 48 = .ok (.iconst 0, 1) := by decide +kernel
theorem dX0_isSeen_49 : decode cX0_isSeen 49 = .ok (.ireturn, 1) := by decide +kernel
theorem dX0_someKind_0 : decode cX0_someKind 0 = .ok (.iconst 0, 1) := by decide +kernel
theorem dX0_someKind_1 : decode cX0_someKind 1 = .ok (.istore 5, 2) := by decide +kernel
theorem dX0_someKind_3 : decode cX0_someKind 3 = .ok (.iload 5, 2) := by decide +kernel
theorem dX0_someKind_5 : decode cX0_someKind 5 = .ok (.iconst 4, 1) := by decide +kernel
theorem dX0_someKind_6 : decode cX0_someKind 6 = .ok (.if_icmp .ge 36, 3) := by decide +kernel
theorem dX0_someKind_9 : decode cX0_someKind 9 = .ok (.iload_n 1, 1) := by decide +kernel
theorem dX0_someKind_10 : decode cX0_someKind 10 = .ok (.iload 5, 2) := by decide +kernel
theorem dX0_someKind_12 : decode cX0_someKind 12 = .ok (.ishr, 1) := by decide +kernel
theorem dX0_someKind_13 : decode cX0_someKind 13 = .ok (.iconst 1, 1) := by decide +kernel
theorem dX0_someKind_14 : decode cX0_someKind 14 = .ok (.iand, 1) := by decide +kernel
theorem dX0_someKind_15 : decode cX0_someKind 15 = .ok (.ifCond .eq 21, 3) := by decide +kernel
theorem dX0_someKind_18 : decode cX0_someKind 18 = .ok (.aload_n 0, 1) := by decide +kernel
theorem dX0_someKind_19 : decode cX0_someKind 19 = .ok (.iload_n 2, 1) := by decide +kernel
theorem dX0_someKind_20 : decode cX0_someKind 20 = .ok (.iload_n 3, 1) := by decide +kernel
theorem dX0_someKind_21 : decode cX0_someKind 21 = .ok (.iload 5, 2) := by decide +kernel
theorem dX0_someKind_23 : decode cX0_someKind 23 = .ok (.iload 4, 2) := by decide +kernel
theorem dX0_someKind_25 : decode cX0_someKind 25 = .ok (.invokestatic 57, 3) := by decide +kernel
theorem dX0_someKind_28 : decode cX0_someKind 28 = .ok (.invokestatic 74, 3) := by decide +kernel
theorem dX0_someKind_31 : decode cX0_someKind 31 = .ok (.ifCond .eq 5, 3) := by decide +kernel
theorem dX0_someKind_34 : decode cX0_someKind 34 = .ok (.iconst 1, 1) := by decide +kernel
theorem dX0_someKind_35 : decode cX0_someKind 35 = .ok (.ireturn, 1) := by decide +kernel
theorem dX0_someKind_36 : decode cX0_someKind 36 = .ok (.iinc 5 1, 3) := by decide +kernel
theorem dX0_someKind_39 : decode cX0_someKind 39 = .ok (.goto (-36), 3) := by decide +kernel
theorem dX0_someKind_42 : decode cX0_someKind 42 = .ok (.iconst 0, 1) := by decide +kernel
theorem dX0_someKind_43 : decode cX0_someKind 43 = .ok (.ireturn, 1) := by decide +kernel
theorem dX0_agrees_0 : decode cX0_agrees 0 = .ok (.iconst 0, 1) := by decide +kernel
theorem dX0_agrees_1 : decode cX0_agrees 1 = .ok (.istore 4, 2) := by decide +kernel
theorem dX0_agrees_3 : decode cX0_agrees 3 = .ok (.iload 4, 2) := by decide +kernel
theorem dX0_agrees_5 : decode cX0_agrees 5 = .ok (.aload_n 0, 1) := by decide +kernel
theorem dX0_agrees_6 : decode cX0_agrees 6 = .ok (.getfield 23, 3) := by decide +kernel
theorem dX0_agrees_9 : decode cX0_agrees 9 = .ok (.if_icmp .ge 51, 3) := by decide +kernel
theorem dX0_agrees_12 : decode cX0_agrees 12 = .ok (.aload_n 0, 1) := by decide +kernel
theorem dX0_agrees_13 : decode cX0_agrees 13 = .ok (.iload 4, 2) := by decide +kernel
theorem dX0_agrees_15 : decode cX0_agrees 15 = .ok (.invokevirtual 29, 3) := by decide +kernel
theorem dX0_agrees_18 : decode cX0_agrees 18 = .ok (.astore 5, 2) := by decide +kernel
theorem dX0_agrees_20 : decode cX0_agrees 20 = .ok (.aload 5, 2) := by decide +kernel
theorem dX0_agrees_22 : decode cX0_agrees 22 = .ok (.ifnull 32, 3) := by decide +kernel
theorem dX0_agrees_25 : decode cX0_agrees 25 = .ok (.aload 5, 2) := by decide +kernel
theorem dX0_agrees_27 : decode cX0_agrees 27 = .ok (.getfield 33, 3) := by decide +kernel
theorem dX0_agrees_30 : decode cX0_agrees 30 = .ok (.iload_n 1, 1) := by decide +kernel
theorem dX0_agrees_31 : decode cX0_agrees 31 = .ok (.if_icmp .ne 23, 3) := by decide +kernel
theorem dX0_agrees_34 : decode cX0_agrees 34 = .ok (.aload 5, 2) := by decide +kernel
theorem dX0_agrees_36 : decode cX0_agrees 36 = .ok (.getfield 42, 3) := by decide +kernel
theorem dX0_agrees_39 : decode cX0_agrees 39 = .ok (.iload_n 2, 1) := by decide +kernel
theorem dX0_agrees_40 : decode cX0_agrees 40 = .ok (.if_icmp .ne 14, 3) := by decide +kernel
theorem dX0_agrees_43 : decode cX0_agrees 43 = .ok (.aload 5, 2) := by decide +kernel
theorem dX0_agrees_45 : decode cX0_agrees 45 = .ok (.getfield 61, 3) := by decide +kernel
theorem dX0_agrees_48 : decode cX0_agrees 48 = .ok (.iload_n 3, 1) := by decide +kernel
theorem dX0_agrees_49 : decode cX0_agrees 49 = .ok (.if_icmp .eq 5, 3) := by decide +kernel
theorem dX0_agrees_52 : decode cX0_agrees 52 = .ok (.iconst 0, 1) := by decide +kernel
theorem dX0_agrees_53 : decode cX0_agrees 53 = .ok (.ireturn, 1) := by decide +kernel
theorem dX0_agrees_54 : decode cX0_agrees 54 = .ok (.iinc 4 1, 3) := by decide +kernel
theorem dX0_agrees_57 : decode cX0_agrees 57 = .ok (.goto (-54), 3) := by decide +kernel
theorem dX0_agrees_60 : decode cX0_agrees 60 = .ok (.iconst 1, 1) := by decide +kernel
theorem dX0_agrees_61 : decode cX0_agrees 61 = .ok (.ireturn, 1) := by decide +kernel
theorem dX1_init_0 : decode cX1_init 0 = .ok (.aload_n 0, 1) := by decide +kernel
theorem dX1_init_1 : decode cX1_init 1 = .ok (.invokespecial 3, 3) := by decide +kernel
theorem dX1_init_4 : decode cX1_init 4 = .ok (.aload_n 0, 1) := by decide +kernel
theorem dX1_init_5 : decode cX1_init 5 = .ok (.iconst 4, 1) := by decide +kernel
theorem dX1_init_6 : decode cX1_init 6 = .ok (.anewarray 9, 3) := by decide +kernel
theorem dX1_init_9 : decode cX1_init 9 = .ok (.putfield 11, 3) := by decide +kernel
theorem dX1_init_12 : decode cX1_init 12 = .ok (.iconst 0, 1) := by decide +kernel
theorem dX1_init_13 : decode cX1_init 13 = .ok (.istore_n 1, 1) := by decide +kernel
theorem dX1_init_14 : decode cX1_init 14 = .ok (.iload_n 1, 1) := by decide +kernel
theorem dX1_init_15 : decode cX1_init 15 = .ok (.aload_n 0, 1) := by decide +kernel
theorem dX1_init_16 : decode cX1_init 16 = .ok (.getfield 11, 3) := by decide +kernel
theorem dX1_init_19 : decode cX1_init 19 = .ok (.arraylength, 1) := by decide +kernel
theorem dX1_init_20 : decode cX1_init 20 = .ok (.if_icmp .ge 22, 3) := by decide +kernel
theorem dX1_init_23 : decode cX1_init 23 = .ok (.aload_n 0, 1) := by decide +kernel
theorem dX1_init_24 : decode cX1_init 24 = .ok (.getfield 11, 3) := by decide +kernel
theorem dX1_init_27 : decode cX1_init 27 = .ok (.iload_n 1, 1) := by decide +kernel
theorem dX1_init_28 : decode cX1_init 28 = .ok (.new 9, 3) := by decide +kernel
theorem dX1_init_31 : decode cX1_init 31 = .ok (.dup, 1) := by decide +kernel
theorem dX1_init_32 : decode cX1_init 32 = .ok (.invokespecial 17, 3) := by decide +kernel
theorem dX1_init_35 : decode cX1_init 35 = .ok (.aastore, 1) := by decide +kernel
theorem dX1_init_36 : decode cX1_init 36 = .ok (.iinc 1 1, 3) := by decide +kernel
theorem dX1_init_39 : decode cX1_init 39 = .ok (.goto (-25), 3) := by decide +kernel
theorem dX1_init_42 : decode cX1_init 42 = .ok (.aload_n 0, 1) := by decide +kernel
theorem dX1_init_43 : decode cX1_init 43 = .ok (.iconst 5, 1) := by decide +kernel
theorem dX1_init_44 : decode cX1_init 44 = .ok (.anewarray 18, 3) := by decide +kernel
theorem dX1_init_47 : decode cX1_init 47 = .ok (.putfield 20, 3) := by decide +kernel
theorem dX1_init_50 : decode cX1_init 50 = .ok (.iconst 0, 1) := by decide +kernel
theorem dX1_init_51 : decode cX1_init 51 = .ok (.istore_n 1, 1) := by decide +kernel
theorem dX1_init_52 : decode cX1_init 52 = .ok (.iload_n 1, 1) := by decide +kernel
theorem dX1_init_53 : decode cX1_init 53 = .ok (.aload_n 0, 1) := by decide +kernel
theorem dX1_init_54 : decode cX1_init 54 = .ok (.getfield 20, 3) := by decide +kernel
theorem dX1_init_57 : decode cX1_init 57 = .ok (.arraylength, 1) := by decide +kernel
theorem dX1_init_58 : decode cX1_init 58 = .ok (.if_icmp .ge 22, 3) := by decide +kernel
theorem dX1_init_61 : decode cX1_init 61 = .ok (.aload_n 0, 1) := by decide +kernel
theorem dX1_init_62 : decode cX1_init 62 = .ok (.getfield 20, 3) := by decide +kernel
theorem dX1_init_65 : decode cX1_init 65 = .ok (.iload_n 1, 1) := by decide +kernel
theorem dX1_init_66 : decode cX1_init 66 = .ok (.new 18, 3) := by decide +kernel
theorem dX1_init_69 : decode cX1_init 69 = .ok (.dup, 1) := by decide +kernel
theorem dX1_init_70 : decode cX1_init 70 = .ok (.invokespecial 24, 3) := by decide +kernel
theorem dX1_init_73 : decode cX1_init 73 = .ok (.aastore, 1) := by decide +kernel
theorem dX1_init_74 : decode cX1_init 74 = .ok (.iinc 1 1, 3) := by decide +kernel
theorem dX1_init_77 : decode cX1_init 77 = .ok (.goto (-25), 3) := by decide +kernel
theorem dX1_init_80 : decode cX1_init 80 = .ok (.aload_n 0, 1) := by decide +kernel
theorem dX1_init_81 : decode cX1_init 81 = .ok (.bipush 6, 2) := by decide +kernel
theorem dX1_init_83 : decode cX1_init 83 = .ok (.anewarray 25, 3) := by decide +kernel
theorem dX1_init_86 : decode cX1_init 86 = .ok (.putfield 27, 3) := by decide +kernel
theorem dX1_init_89 : decode cX1_init 89 = .ok (.iconst 0, 1) := by decide +kernel
theorem dX1_init_90 : decode cX1_init 90 = .ok (.istore_n 1, 1) := by decide +kernel
theorem dX1_init_91 : decode cX1_init 91 = .ok (.iload_n 1, 1) := by decide +kernel
theorem dX1_init_92 : decode cX1_init 92 = .ok (.aload_n 0, 1) := by decide +kernel
theorem dX1_init_93 : decode cX1_init 93 = .ok (.getfield 27, 3) := by decide +kernel
theorem dX1_init_96 : decode cX1_init 96 = .ok (.arraylength, 1) := by decide +kernel
theorem dX1_init_97 : decode cX1_init 97 = .ok (.if_icmp .ge 22, 3) := by decide +kernel
theorem dX1_init_100 : decode cX1_init 100 = .ok (.aload_n 0, 1) := by decide +kernel
theorem dX1_init_101 : decode cX1_init 101 = .ok (.getfield 27, 3) := by decide +kernel
theorem dX1_init_104 : decode cX1_init 104 = .ok (.iload_n 1, 1) := by decide +kernel
theorem dX1_init_105 : decode cX1_init 105 = .ok (.new 25, 3) := by decide +kernel
theorem dX1_init_108 : decode cX1_init 108 = .ok (.dup, 1) := by decide +kernel
theorem dX1_init_109 : decode cX1_init 109 = .ok (.invokespecial 31, 3) := by decide +kernel
theorem dX1_init_112 : decode cX1_init 112 = .ok (.aastore, 1) := by decide +kernel
theorem dX1_init_113 : decode cX1_init 113 = .ok (.iinc 1 1, 3) := by decide +kernel
theorem dX1_init_116 : decode cX1_init 116 = .ok (.goto (-25), 3) := by decide +kernel
theorem dX1_init_119 : decode cX1_init 119 = .ok (.aload_n 0, 1) := by decide +kernel
theorem dX1_init_120 : decode cX1_init 120 = .ok (.invokevirtual 32, 3) := by decide +kernel
theorem dX1_init_123 : decode cX1_init 123 = .ok (.return_, 1) := by decide +kernel
theorem dX1_begin_0 : decode cX1_begin 0 = .ok (.aload_n 0, 1) := by decide +kernel
theorem dX1_begin_1 : decode cX1_begin 1 = .ok (.iconst 0, 1) := by decide +kernel
theorem dX1_begin_2 : decode cX1_begin 2 = .ok (.putfield 35, 3) := by decide +kernel
theorem dX1_begin_5 : decode cX1_begin 5 = .ok (.aload_n 0, 1) := by decide +kernel
theorem dX1_begin_6 : decode cX1_begin 6 = .ok (.iconst 0, 1) := by decide +kernel
theorem dX1_begin_7 : decode cX1_begin 7 = .ok (.putfield 39, 3) := by decide +kernel
theorem dX1_begin_10 : decode cX1_begin 10 = .ok (.aload_n 0, 1) := by decide +kernel
theorem dX1_begin_11 : decode cX1_begin 11 = .ok (.iconst 0, 1) := by decide +kernel
theorem dX1_begin_12 : decode cX1_begin 12 = .ok (.putfield 42, 3) := by decide +kernel
theorem dX1_begin_15 : decode cX1_begin 15 = .ok (.aload_n 0, 1) := by decide +kernel
theorem dX1_begin_16 : decode cX1_begin 16 = .ok (.iconst 0, 1) := by decide +kernel
theorem dX1_begin_17 : decode cX1_begin 17 = .ok (.putfield 45, 3) := by decide +kernel
theorem dX1_begin_20 : decode cX1_begin 20 = .ok (.aload_n 0, 1) := by decide +kernel
theorem dX1_begin_21 : decode cX1_begin 21 = .ok (.bipush 20, 2) := by decide +kernel
theorem dX1_begin_23 : decode cX1_begin 23 = .ok (.putfield 48, 3) := by decide +kernel
theorem dX1_begin_26 : decode cX1_begin 26 = .ok (.return_, 1) := by decide +kernel
theorem dX1_copy_0 : decode cX1_copy 0 = .ok (.aload_n 0, 1) := by decide +kernel
theorem dX1_copy_1 : decode cX1_copy 1 = .ok (.aload_n 1, 1) := by decide +kernel
theorem dX1_copy_2 : decode cX1_copy 2 = .ok (.getfield 45, 3) := by decide +kernel
theorem dX1_copy_5 : decode cX1_copy 5 = .ok (.putfield 45, 3) := by decide +kernel
theorem dX1_copy_8 : decode cX1_copy 8 = .ok (.aload_n 0, 1) := by decide +kernel
theorem dX1_copy_9 : decode cX1_copy 9 = .ok (.aload_n 1, 1) := by decide +kernel
theorem dX1_copy_10 : decode cX1_copy 10 = .ok (.getfield 48, 3) := by decide +kernel
theorem dX1_copy_13 : decode cX1_copy 13 = .ok (.putfield 48, 3) := by decide +kernel
theorem dX1_copy_16 : decode cX1_copy 16 = .ok (.aload_n 0, 1) := by decide +kernel
theorem dX1_copy_17 : decode cX1_copy 17 = .ok (.aload_n 1, 1) := by decide +kernel
theorem dX1_copy_18 : decode cX1_copy 18 = .ok (.getfield 35, 3) := by decide +kernel
theorem dX1_copy_21 : decode cX1_copy 21 = .ok (.putfield 35, 3) := by decide +kernel
theorem dX1_copy_24 : decode cX1_copy 24 = .ok (.iconst 0, 1) := by decide +kernel
theorem dX1_copy_25 : decode cX1_copy 25 = .ok (.istore_n 2, 1) := by decide +kernel
theorem dX1_copy_26 : decode cX1_copy 26 = .ok (.iload_n 2, 1) := by decide +kernel
theorem dX1_copy_27 : decode cX1_copy 27 = .ok (.aload_n 0, 1) := by decide +kernel
theorem dX1_copy_28 : decode cX1_copy 28 = .ok (.getfield 35, 3) := by decide +kernel
theorem dX1_copy_31 : decode cX1_copy 31 = .ok (.if_icmp .ge 22, 3) := by decide +kernel
theorem dX1_copy_34 : decode cX1_copy 34 = .ok (.aload_n 0, 1) := by decide +kernel
theorem dX1_copy_35 : decode cX1_copy 35 = .ok (.iload_n 2, 1) := by decide +kernel
theorem dX1_copy_36 : decode cX1_copy 36 = .ok (.invokevirtual 51, 3) := by decide +kernel
theorem dX1_copy_39 : decode cX1_copy 39 = .ok (.aload_n 1, 1) := by decide +kernel
theorem dX1_copy_40 : decode cX1_copy 40 = .ok (.iload_n 2, 1) := by decide +kernel
theorem dX1_copy_41 : decode cX1_copy 41 = .ok (.invokevirtual 51, 3) := by decide +kernel
theorem dX1_copy_44 : decode cX1_copy 44 = .ok (.invokestatic 55, 3) := by decide +kernel
theorem dX1_copy_47 : decode cX1_copy 47 = .ok (.iinc 2 1, 3) := by decide +kernel
theorem dX1_copy_50 : decode cX1_copy 50 = .ok (.goto (-24), 3) := by decide +kernel
theorem dX1_copy_53 : decode cX1_copy 53 = .ok (.aload_n 0, 1) := by decide +kernel
theorem dX1_copy_54 : decode cX1_copy 54 = .ok (.aload_n 1, 1) := by decide +kernel
theorem dX1_copy_55 : decode cX1_copy 55 = .ok (.getfield 39, 3) := by decide +kernel
theorem dX1_copy_58 : decode cX1_copy 58 = .ok (.putfield 39, 3) := by decide +kernel
theorem dX1_copy_61 : decode cX1_copy 61 = .ok (.iconst 0, 1) := by decide +kernel
theorem dX1_copy_62 : decode cX1_copy 62 = .ok (.istore_n 2, 1) := by decide +kernel
theorem dX1_copy_63 : decode cX1_copy 63 = .ok (.iload_n 2, 1) := by decide +kernel
theorem dX1_copy_64 : decode cX1_copy 64 = .ok (.aload_n 0, 1) := by decide +kernel
theorem dX1_copy_65 : decode cX1_copy 65 = .ok (.getfield 39, 3) := by decide +kernel
theorem dX1_copy_68 : decode cX1_copy 68 = .ok (.if_icmp .ge 22, 3) := by decide +kernel
theorem dX1_copy_71 : decode cX1_copy 71 = .ok (.aload_n 0, 1) := by decide +kernel
theorem dX1_copy_72 : decode cX1_copy 72 = .ok (.iload_n 2, 1) := by decide +kernel
theorem dX1_copy_73 : decode cX1_copy 73 = .ok (.invokevirtual 59, 3) := by decide +kernel
theorem dX1_copy_76 : decode cX1_copy 76 = .ok (.aload_n 1, 1) := by decide +kernel
theorem dX1_copy_77 : decode cX1_copy 77 = .ok (.iload_n 2, 1) := by decide +kernel
theorem dX1_copy_78 : decode cX1_copy 78 = .ok (.invokevirtual 59, 3) := by decide +kernel
theorem dX1_copy_81 : decode cX1_copy 81 = .ok (.invokestatic 63, 3) := by decide +kernel
theorem dX1_copy_84 : decode cX1_copy 84 = .ok (.iinc 2 1, 3) := by decide +kernel
theorem dX1_copy_87 : decode cX1_copy 87 = .ok (.goto (-24), 3) := by decide +kernel
theorem dX1_copy_90 : decode cX1_copy 90 = .ok (.aload_n 0, 1) := by decide +kernel
theorem dX1_copy_91 : decode cX1_copy 91 = .ok (.aload_n 1, 1) := by decide +kernel
theorem dX1_copy_92 : decode cX1_copy 92 = .ok (.getfield 42, 3) := by decide +kernel
theorem dX1_copy_95 : decode cX1_copy 95 = .ok (.putfield 42, 3) := by decide +kernel
theorem dX1_copy_98 : decode cX1_copy 98 = .ok (.iconst 0, 1) := by decide +kernel
theorem dX1_copy_99 : decode cX1_copy 99 = .ok (.istore_n 2, 1) := by decide +kernel
theorem dX1_copy_100 : decode cX1_copy 100 = .ok (.iload_n 2, 1) := by decide +kernel
theorem dX1_copy_101 : decode cX1_copy 101 = .ok (.aload_n 0, 1) := by decide +kernel
theorem dX1_copy_102 : decode cX1_copy 102 = .ok (.getfield 42, 3) := by decide +kernel
theorem dX1_copy_105 : decode cX1_copy 105 = .ok (.if_icmp .ge 22, 3) := by decide +kernel
theorem dX1_copy_108 : decode cX1_copy 108 = .ok (.aload_n 0, 1) := by decide +kernel
theorem dX1_copy_109 : decode cX1_copy 109 = .ok (.iload_n 2, 1) := by decide +kernel
theorem dX1_copy_110 : decode cX1_copy 110 = .ok (.invokevirtual 67, 3) := by decide +kernel
theorem dX1_copy_113 : decode cX1_copy 113 = .ok (.aload_n 1, 1) := by decide +kernel
theorem dX1_copy_114 : decode cX1_copy 114 = .ok (.iload_n 2, 1) := by decide +kernel
theorem dX1_copy_115 : decode cX1_copy 115 = .ok (.invokevirtual 67, 3) := by decide +kernel
theorem dX1_copy_118 : decode cX1_copy 118 = .ok (.invokestatic 71, 3) := by decide +kernel
theorem dX1_copy_121 : decode cX1_copy 121 = .ok (.iinc 2 1, 3) := by decide +kernel
theorem dX1_copy_124 : decode cX1_copy 124 = .ok (.goto (-24), 3) := by decide +kernel
theorem dX1_copy_127 : decode cX1_copy 127 = .ok (.return_, 1) := by decide +kernel
theorem dX1_copyJudge_0 : decode cX1_copyJudge 0 = .ok (.aload_n 0, 1) := by decide +kernel
theorem dX1_copyJudge_1 : decode cX1_copyJudge 1 = .ok (.ifnull 12, 3) := by decide +kernel
theorem dX1_copyJudge_4 : decode cX1_copyJudge 4 = .ok (.aload_n 1, 1) := by decide +kernel
theorem dX1_copyJudge_5 : decode cX1_copyJudge 5 = .ok (.ifnull 8, 3) := by decide +kernel
theorem dX1_copyJudge_8 : decode cX1_copyJudge 8 = .ok (.aload_n 0, 1) := by decide +kernel
theorem dX1_copyJudge_9 : decode cX1_copyJudge 9 = .ok (.aload_n 1, 1) := by decide +kernel
theorem dX1_copyJudge_10 : decode cX1_copyJudge 10 = .ok (.invokevirtual 75, 3) := by decide +kernel
theorem dX1_copyJudge_13 : decode cX1_copyJudge 13 = .ok (.return_, 1) := by decide +kernel
theorem dX1_copySuit_0 : decode cX1_copySuit 0 = .ok (.aload_n 0, 1) := by decide +kernel
theorem dX1_copySuit_1 : decode cX1_copySuit 1 = .ok (.ifnull 12, 3) := by decide +kernel
theorem dX1_copySuit_4 : decode cX1_copySuit 4 = .ok (.aload_n 1, 1) := by decide +kernel
theorem dX1_copySuit_5 : decode cX1_copySuit 5 = .ok (.ifnull 8, 3) := by decide +kernel
theorem dX1_copySuit_8 : decode cX1_copySuit 8 = .ok (.aload_n 0, 1) := by decide +kernel
theorem dX1_copySuit_9 : decode cX1_copySuit 9 = .ok (.aload_n 1, 1) := by decide +kernel
theorem dX1_copySuit_10 : decode cX1_copySuit 10 = .ok (.invokevirtual 79, 3) := by decide +kernel
theorem dX1_copySuit_13 : decode cX1_copySuit 13 = .ok (.return_, 1) := by decide +kernel
theorem dX1_copySight_0 : decode cX1_copySight 0 = .ok (.aload_n 0, 1) := by decide +kernel
theorem dX1_copySight_1 : decode cX1_copySight 1 = .ok (.ifnull 23, 3) := by decide +kernel
theorem dX1_copySight_4 : decode cX1_copySight 4 = .ok (.aload_n 1, 1) := by decide +kernel
theorem dX1_copySight_5 : decode cX1_copySight 5 = .ok (.ifnull 19, 3) := by decide +kernel
theorem dX1_copySight_8 : decode cX1_copySight 8 = .ok (.aload_n 0, 1) := by decide +kernel
theorem dX1_copySight_9 : decode cX1_copySight 9 = .ok (.aload_n 1, 1) := by decide +kernel
theorem dX1_copySight_10 : decode cX1_copySight 10 = .ok (.getfield 82, 3) := by decide +kernel
theorem dX1_copySight_13 : decode cX1_copySight 13 = .ok (.aload_n 1, 1) := by decide +kernel
theorem dX1_copySight_14 : decode cX1_copySight 14 = .ok (.getfield 85, 3) := by decide +kernel
theorem dX1_copySight_17 : decode cX1_copySight 17 = .ok (.aload_n 1, 1) := by decide +kernel
theorem dX1_copySight_18 : decode cX1_copySight 18 = .ok (.getfield 88, 3) := by decide +kernel
theorem dX1_copySight_21 : decode cX1_copySight 21 = .ok (.invokevirtual 91, 3) := by decide +kernel
theorem dX1_copySight_24 : decode cX1_copySight 24 = .ok (.return_, 1) := by decide +kernel
theorem dX1_judgeAt_0 : decode cX1_judgeAt 0 = .ok (.iload_n 1, 1) := by decide +kernel
theorem dX1_judgeAt_1 : decode cX1_judgeAt 1 = .ok (.ifCond .lt 29, 3) := by decide +kernel
theorem dX1_judgeAt_4 : decode cX1_judgeAt 4 = .ok (.iload_n 1, 1) := by decide +kernel
theorem dX1_judgeAt_5 : decode cX1_judgeAt 5 = .ok (.aload_n 0, 1) := by decide +kernel
theorem dX1_judgeAt_6 : decode cX1_judgeAt 6 = .ok (.getfield 35, 3) := by decide +kernel
theorem dX1_judgeAt_9 : decode cX1_judgeAt 9 = .ok (.if_icmp .ge 21, 3) := by decide +kernel
theorem dX1_judgeAt_12 : decode cX1_judgeAt 12 = .ok (.iload_n 1, 1) := by decide +kernel
theorem dX1_judgeAt_13 : decode cX1_judgeAt 13 = .ok (.aload_n 0, 1) := by decide +kernel
theorem dX1_judgeAt_14 : decode cX1_judgeAt 14 = .ok (.getfield 11, 3) := by decide +kernel
theorem dX1_judgeAt_17 : decode cX1_judgeAt 17 = .ok (.arraylength, 1) := by decide +kernel
theorem dX1_judgeAt_18 : decode cX1_judgeAt 18 = .ok (.if_icmp .ge 12, 3) := by decide +kernel
theorem dX1_judgeAt_21 : decode cX1_judgeAt 21 = .ok (.aload_n 0, 1) := by decide +kernel
theorem dX1_judgeAt_22 : decode cX1_judgeAt 22 = .ok (.getfield 11, 3) := by decide +kernel
theorem dX1_judgeAt_25 : decode cX1_judgeAt 25 = .ok (.iload_n 1, 1) := by decide +kernel
theorem dX1_judgeAt_26 : decode cX1_judgeAt 26 = .ok (.aaload, 1) := by decide +kernel
theorem dX1_judgeAt_27 : decode cX1_judgeAt 27 = .ok (.goto 4, 3) := by decide +kernel
theorem dX1_judgeAt_30 : decode cX1_judgeAt 30 = .ok (.aconst_null, 1) := by decide +kernel
theorem dX1_judgeAt_31 : decode cX1_judgeAt 31 = .ok (.areturn, 1) := by decide +kernel
theorem dX1_suitAt_0 : decode cX1_suitAt 0 = .ok (.iload_n 1, 1) := by decide +kernel
theorem dX1_suitAt_1 : decode cX1_suitAt 1 = .ok (.ifCond .lt 29, 3) := by decide +kernel
theorem dX1_suitAt_4 : decode cX1_suitAt 4 = .ok (.iload_n 1, 1) := by decide +kernel
theorem dX1_suitAt_5 : decode cX1_suitAt 5 = .ok (.aload_n 0, 1) := by decide +kernel
theorem dX1_suitAt_6 : decode cX1_suitAt 6 = .ok (.getfield 39, 3) := by decide +kernel
theorem dX1_suitAt_9 : decode cX1_suitAt 9 = .ok (.if_icmp .ge 21, 3) := by decide +kernel
theorem dX1_suitAt_12 : decode cX1_suitAt 12 = .ok (.iload_n 1, 1) := by decide +kernel
theorem dX1_suitAt_13 : decode cX1_suitAt 13 = .ok (.aload_n 0, 1) := by decide +kernel
theorem dX1_suitAt_14 : decode cX1_suitAt 14 = .ok (.getfield 20, 3) := by decide +kernel
theorem dX1_suitAt_17 : decode cX1_suitAt 17 = .ok (.arraylength, 1) := by decide +kernel
theorem dX1_suitAt_18 : decode cX1_suitAt 18 = .ok (.if_icmp .ge 12, 3) := by decide +kernel
theorem dX1_suitAt_21 : decode cX1_suitAt 21 = .ok (.aload_n 0, 1) := by decide +kernel
theorem dX1_suitAt_22 : decode cX1_suitAt 22 = .ok (.getfield 20, 3) := by decide +kernel
theorem dX1_suitAt_25 : decode cX1_suitAt 25 = .ok (.iload_n 1, 1) := by decide +kernel
theorem dX1_suitAt_26 : decode cX1_suitAt 26 = .ok (.aaload, 1) := by decide +kernel
theorem dX1_suitAt_27 : decode cX1_suitAt 27 = .ok (.goto 4, 3) := by decide +kernel
theorem dX1_suitAt_30 : decode cX1_suitAt 30 = .ok (.aconst_null, 1) := by decide +kernel
theorem dX1_suitAt_31 : decode cX1_suitAt 31 = .ok (.areturn, 1) := by decide +kernel
theorem dX1_sightAt_0 : decode cX1_sightAt 0 = .ok (.iload_n 1, 1) := by decide +kernel
theorem dX1_sightAt_1 : decode cX1_sightAt 1 = .ok (.ifCond .lt 29, 3) := by decide +kernel
theorem dX1_sightAt_4 : decode cX1_sightAt 4 = .ok (.iload_n 1, 1) := by decide +kernel
theorem dX1_sightAt_5 : decode cX1_sightAt 5 = .ok (.aload_n 0, 1) := by decide +kernel
theorem dX1_sightAt_6 : decode cX1_sightAt 6 = .ok (.getfield 42, 3) := by decide +kernel
theorem dX1_sightAt_9 : decode cX1_sightAt 9 = .ok (.if_icmp .ge 21, 3) := by decide +kernel
theorem dX1_sightAt_12 : decode cX1_sightAt 12 = .ok (.iload_n 1, 1) := by decide +kernel
theorem dX1_sightAt_13 : decode cX1_sightAt 13 = .ok (.aload_n 0, 1) := by decide +kernel
theorem dX1_sightAt_14 : decode cX1_sightAt 14 = .ok (.getfield 27, 3) := by decide +kernel
theorem dX1_sightAt_17 : decode cX1_sightAt 17 = .ok (.arraylength, 1) := by decide +kernel
theorem dX1_sightAt_18 : decode cX1_sightAt 18 = .ok (.if_icmp .ge 12, 3) := by decide +kernel
theorem dX1_sightAt_21 : decode cX1_sightAt 21 = .ok (.aload_n 0, 1) := by decide +kernel
theorem dX1_sightAt_22 : decode cX1_sightAt 22 = .ok (.getfield 27, 3) := by decide +kernel
theorem dX1_sightAt_25 : decode cX1_sightAt 25 = .ok (.iload_n 1, 1) := by decide +kernel
theorem dX1_sightAt_26 : decode cX1_sightAt 26 = .ok (.aaload, 1) := by decide +kernel
theorem dX1_sightAt_27 : decode cX1_sightAt 27 = .ok (.goto 4, 3) := by decide +kernel
theorem dX1_sightAt_30 : decode cX1_sightAt 30 = .ok (.aconst_null, 1) := by decide +kernel
theorem dX1_sightAt_31 : decode cX1_sightAt 31 = .ok (.areturn, 1) := by decide +kernel
theorem dX1_addJudge_0 : decode cX1_addJudge 0 = .ok (.aload_n 0, 1) := by decide +kernel
theorem dX1_addJudge_1 : decode cX1_addJudge 1 = .ok (.getfield 35, 3) := by decide +kernel
theorem dX1_addJudge_4 : decode cX1_addJudge 4 = .ok (.aload_n 0, 1) := by decide +kernel
theorem dX1_addJudge_5 : decode cX1_addJudge 5 = .ok (.getfield 11, 3) := by decide +kernel
theorem dX1_addJudge_8 : decode cX1_addJudge 8 = .ok (.arraylength, 1) := by decide +kernel
theorem dX1_addJudge_9 : decode cX1_addJudge 9 = .ok (.if_icmp .lt 5, 3) := by decide +kernel
theorem dX1_addJudge_12 : decode cX1_addJudge 12 = .ok (.iconst 0, 1) := by decide +kernel
theorem dX1_addJudge_13 : decode cX1_addJudge 13 = .ok (.ireturn, 1) := by decide +kernel
theorem dX1_addJudge_14 : decode cX1_addJudge 14 = .ok (.aload_n 0, 1) := by decide +kernel
theorem dX1_addJudge_15 : decode cX1_addJudge 15 = .ok (.dup, 1) := by decide +kernel
theorem dX1_addJudge_16 : decode cX1_addJudge 16 = .ok (.getfield 35, 3) := by decide +kernel
theorem dX1_addJudge_19 : decode cX1_addJudge 19 = .ok (.iconst 1, 1) := by decide +kernel
theorem dX1_addJudge_20 : decode cX1_addJudge 20 = .ok (.iadd, 1) := by decide +kernel
theorem dX1_addJudge_21 : decode cX1_addJudge 21 = .ok (.putfield 35, 3) := by decide +kernel
theorem dX1_addJudge_24 : decode cX1_addJudge 24 = .ok (.iconst 1, 1) := by decide +kernel
theorem dX1_addJudge_25 : decode cX1_addJudge 25 = .ok (.ireturn, 1) := by decide +kernel
theorem dX1_addSuit_0 : decode cX1_addSuit 0 = .ok (.aload_n 0, 1) := by decide +kernel
theorem dX1_addSuit_1 : decode cX1_addSuit 1 = .ok (.getfield 39, 3) := by decide +kernel
theorem dX1_addSuit_4 : decode cX1_addSuit 4 = .ok (.aload_n 0, 1) := by decide +kernel
theorem dX1_addSuit_5 : decode cX1_addSuit 5 = .ok (.getfield 20, 3) := by decide +kernel
theorem dX1_addSuit_8 : decode cX1_addSuit 8 = .ok (.arraylength, 1) := by decide +kernel
theorem dX1_addSuit_9 : decode cX1_addSuit 9 = .ok (.if_icmp .lt 5, 3) := by decide +kernel
theorem dX1_addSuit_12 : decode cX1_addSuit 12 = .ok (.iconst 0, 1) := by decide +kernel
theorem dX1_addSuit_13 : decode cX1_addSuit 13 = .ok (.ireturn, 1) := by decide +kernel
theorem dX1_addSuit_14 : decode cX1_addSuit 14 = .ok (.aload_n 0, 1) := by decide +kernel
theorem dX1_addSuit_15 : decode cX1_addSuit 15 = .ok (.dup, 1) := by decide +kernel
theorem dX1_addSuit_16 : decode cX1_addSuit 16 = .ok (.getfield 39, 3) := by decide +kernel
theorem dX1_addSuit_19 : decode cX1_addSuit 19 = .ok (.iconst 1, 1) := by decide +kernel
theorem dX1_addSuit_20 : decode cX1_addSuit 20 = .ok (.iadd, 1) := by decide +kernel
theorem dX1_addSuit_21 : decode cX1_addSuit 21 = .ok (.putfield 39, 3) := by decide +kernel
theorem dX1_addSuit_24 : decode cX1_addSuit 24 = .ok (.iconst 1, 1) := by decide +kernel
theorem dX1_addSuit_25 : decode cX1_addSuit 25 = .ok (.ireturn, 1) := by decide +kernel
theorem dX1_addSight_0 : decode cX1_addSight 0 = .ok (.aload_n 0, 1) := by decide +kernel
theorem dX1_addSight_1 : decode cX1_addSight 1 = .ok (.getfield 42, 3) := by decide +kernel
theorem dX1_addSight_4 : decode cX1_addSight 4 = .ok (.aload_n 0, 1) := by decide +kernel
theorem dX1_addSight_5 : decode cX1_addSight 5 = .ok (.getfield 27, 3) := by decide +kernel
theorem dX1_addSight_8 : decode cX1_addSight 8 = .ok (.arraylength, 1) := by decide +kernel
theorem dX1_addSight_9 : decode cX1_addSight 9 = .ok (.if_icmp .lt 5, 3) := by decide +kernel
theorem dX1_addSight_12 : decode cX1_addSight 12 = .ok (.iconst 0, 1) := by decide +kernel
theorem dX1_addSight_13 : decode cX1_addSight 13 = .ok (.ireturn, 1) := by decide +kernel
theorem dX1_addSight_14 : decode cX1_addSight 14 = .ok (.aload_n 0, 1) := by decide +kernel
theorem dX1_addSight_15 : decode cX1_addSight 15 = .ok (.dup, 1) := by decide +kernel
theorem dX1_addSight_16 : decode cX1_addSight 16 = .ok (.getfield 42, 3) := by decide +kernel
theorem dX1_addSight_19 : decode cX1_addSight 19 = .ok (.iconst 1, 1) := by decide +kernel
theorem dX1_addSight_20 : decode cX1_addSight 20 = .ok (.iadd, 1) := by decide +kernel
theorem dX1_addSight_21 : decode cX1_addSight 21 = .ok (.putfield 42, 3) := by decide +kernel
theorem dX1_addSight_24 : decode cX1_addSight 24 = .ok (.aload_n 0, 1) := by decide +kernel
theorem dX1_addSight_25 : decode cX1_addSight 25 = .ok (.aload_n 0, 1) := by decide +kernel
theorem dX1_addSight_26 : decode cX1_addSight 26 = .ok (.getfield 42, 3) := by decide +kernel
theorem dX1_addSight_29 : decode cX1_addSight 29 = .ok (.iconst 1, 1) := by decide +kernel
theorem dX1_addSight_30 : decode cX1_addSight 30 = .ok (.isub, 1) := by decide +kernel
theorem dX1_addSight_31 : decode cX1_addSight 31 = .ok (.invokevirtual 67, 3) := by decide +kernel
theorem dX1_addSight_34 : decode cX1_addSight 34 = .ok (.astore 4, 2) := by decide +kernel
theorem dX1_addSight_36 : decode cX1_addSight 36 = .ok (.aload 4, 2) := by decide +kernel
theorem dX1_addSight_38 : decode cX1_addSight 38 = .ok (.ifnull 11, 3) := by decide +kernel
theorem dX1_addSight_41 : decode cX1_addSight 41 = .ok (.aload 4, 2) := by decide +kernel
theorem dX1_addSight_43 : decode cX1_addSight 43 = .ok (.iload_n 1, 1) := by decide +kernel
theorem dX1_addSight_44 : decode cX1_addSight 44 = .ok (.iload_n 2, 1) := by decide +kernel
theorem dX1_addSight_45 : decode cX1_addSight 45 = .ok (.iload_n 3, 1) := by decide +kernel
theorem dX1_addSight_46 : decode cX1_addSight 46 = .ok (.invokevirtual 91, 3) := by decide +kernel
theorem dX1_addSight_49 : decode cX1_addSight 49 = .ok (.iconst 1, 1) := by decide +kernel
theorem dX1_addSight_50 : decode cX1_addSight 50 = .ok (.ireturn, 1) := by decide +kernel
theorem dX1_canHear_0 : decode cX1_canHear 0 = .ok (.aload_n 1, 1) := by decide +kernel
theorem dX1_canHear_1 : decode cX1_canHear 1 = .ok (.ifnull 59, 3) := by decide +kernel
theorem dX1_canHear_4 : decode cX1_canHear 4 = .ok (.aload_n 2, 1) := by decide +kernel
theorem dX1_canHear_5 : decode cX1_canHear 5 = .ok (.ifnull 55, 3) := by decide +kernel
theorem dX1_canHear_8 : decode cX1_canHear 8 = .ok (.aload_n 1, 1) := by decide +kernel
theorem dX1_canHear_9 : decode cX1_canHear 9 = .ok (.invokevirtual 94, 3) := by decide +kernel
theorem dX1_canHear_12 : decode cX1_canHear 12 = .ok (.ifCond .ne 48, 3) := by decide +kernel
theorem dX1_canHear_15 : decode cX1_canHear 15 = .ok (.aload_n 1, 1) := by decide +kernel
theorem dX1_canHear_16 : decode cX1_canHear 16 = .ok (.getfield 98, 3) := by decide +kernel
theorem dX1_canHear_19 : decode cX1_canHear 19 = .ok (.aload_n 0, 1) := by decide +kernel
theorem dX1_canHear_20 : decode cX1_canHear 20 = .ok (.getfield 45, 3) := by decide +kernel
theorem dX1_canHear_23 : decode cX1_canHear 23 = .ok (.if_icmp .gt 37, 3) := by decide +kernel
theorem dX1_canHear_26 : decode cX1_canHear 26 = .ok (.aload_n 2, 1) := by decide +kernel
theorem dX1_canHear_27 : decode cX1_canHear 27 = .ok (.getfield 99, 3) := by decide +kernel
theorem dX1_canHear_30 : decode cX1_canHear 30 = .ok (.aload_n 0, 1) := by decide +kernel
theorem dX1_canHear_31 : decode cX1_canHear 31 = .ok (.getfield 45, 3) := by decide +kernel
theorem dX1_canHear_34 : decode cX1_canHear 34 = .ok (.if_icmp .gt 26, 3) := by decide +kernel
theorem dX1_canHear_37 : decode cX1_canHear 37 = .ok (.aload_n 2, 1) := by decide +kernel
theorem dX1_canHear_38 : decode cX1_canHear 38 = .ok (.aload_n 1, 1) := by decide +kernel
theorem dX1_canHear_39 : decode cX1_canHear 39 = .ok (.getfield 102, 3) := by decide +kernel
theorem dX1_canHear_42 : decode cX1_canHear 42 = .ok (.aload_n 2, 1) := by decide +kernel
theorem dX1_canHear_43 : decode cX1_canHear 43 = .ok (.getfield 105, 3) := by decide +kernel
theorem dX1_canHear_46 : decode cX1_canHear 46 = .ok (.iload_n 3, 1) := by decide +kernel
theorem dX1_canHear_47 : decode cX1_canHear 47 = .ok (.invokestatic 108, 3) := by decide +kernel
theorem dX1_canHear_50 : decode cX1_canHear 50 = .ok (.invokevirtual 112, 3) := by decide +kernel
theorem dX1_canHear_53 : decode cX1_canHear 53 = .ok (.ifCond .eq 7, 3) := by decide +kernel
theorem dX1_canHear_56 : decode cX1_canHear 56 = .ok (.iconst 1, 1) := by decide +kernel
theorem dX1_canHear_57 : decode cX1_canHear 57 = .ok (.goto 4, 3) := by decide +kernel
theorem dX1_canHear_60 : decode cX1_canHear 60 = .ok (.iconst 0, 1) := by decide +kernel
theorem dX1_canHear_61 : decode cX1_canHear 61 = .ok (.ireturn, 1) := by decide +kernel
theorem dX1_anyBears_0 : decode cX1_anyBears 0 = .ok (.iconst 0, 1) := by decide +kernel
theorem dX1_anyBears_1 : decode cX1_anyBears 1 = .ok (.istore_n 2, 1) := by decide +kernel
theorem dX1_anyBears_2 : decode cX1_anyBears 2 = .ok (.iload_n 2, 1) := by decide +kernel
theorem dX1_anyBears_3 : decode cX1_anyBears 3 = .ok (.aload_n 0, 1) := by decide +kernel
theorem dX1_anyBears_4 : decode cX1_anyBears 4 = .ok (.getfield 35, 3) := by decide +kernel
theorem dX1_anyBears_7 : decode cX1_anyBears 7 = .ok (.if_icmp .ge 43, 3) := by decide +kernel
theorem dX1_anyBears_10 : decode cX1_anyBears 10 = .ok (.aload_n 0, 1) := by decide +kernel
theorem dX1_anyBears_11 : decode cX1_anyBears 11 = .ok (.iload_n 2, 1) := by decide +kernel
theorem dX1_anyBears_12 : decode cX1_anyBears 12 = .ok (.invokevirtual 51, 3) := by decide +kernel
theorem dX1_anyBears_15 : decode cX1_anyBears 15 = .ok (.astore_n 3, 1) := by decide +kernel
theorem dX1_anyBears_16 : decode cX1_anyBears 16 = .ok (.aload_n 3, 1) := by decide +kernel
theorem dX1_anyBears_17 : decode cX1_anyBears 17 = .ok (.ifnull 27, 3) := by decide +kernel
theorem dX1_anyBears_20 : decode cX1_anyBears 20 = .ok (.aload_n 3, 1) := by decide +kernel
theorem dX1_anyBears_21 : decode cX1_anyBears 21 = .ok (.aload_n 1, 1) := by decide +kernel
theorem dX1_anyBears_22 : decode cX1_anyBears 22 = .ok (.getfield 102, 3) := by decide +kernel
theorem dX1_anyBears_25 : decode cX1_anyBears 25 = .ok (.aload_n 3, 1) := by decide +kernel
theorem dX1_anyBears_26 : decode cX1_anyBears 26 = .ok (.getfield 105, 3) := by decide +kernel
theorem dX1_anyBears_29 : decode cX1_anyBears 29 = .ok (.aload_n 1, 1) := by decide +kernel
theorem dX1_anyBears_30 : decode cX1_anyBears 30 = .ok (.getfield 116, 3) := by decide +kernel
theorem dX1_anyBears_33 : decode cX1_anyBears 33 = .ok (.invokestatic 108, 3) := by decide +kernel
theorem dX1_anyBears_36 : decode cX1_anyBears 36 = .ok (.invokevirtual 112, 3) := by decide +kernel
theorem dX1_anyBears_39 : decode cX1_anyBears 39 = .ok (.ifCond .eq 5, 3) := by decide +kernel
theorem dX1_anyBears_42 : decode cX1_anyBears 42 = .ok (.iconst 1, 1) := by decide +kernel
theorem dX1_anyBears_43 : decode cX1_anyBears 43 = .ok (.ireturn, 1) := by decide +kernel
theorem dX1_anyBears_44 : decode cX1_anyBears 44 = .ok (.iinc 2 1, 3) := by decide +kernel
theorem dX1_anyBears_47 : decode cX1_anyBears 47 = .ok (.goto (-45), 3) := by decide +kernel
theorem dX1_anyBears_50 : decode cX1_anyBears 50 = .ok (.iconst 0, 1) := by decide +kernel
theorem dX1_anyBears_51 : decode cX1_anyBears 51 = .ok (.ireturn, 1) := by decide +kernel
theorem dX1_sentence_0 : decode cX1_sentence 0 = .ok (.aload_n 0, 1) := by decide +kernel
theorem dX1_sentence_1 : decode cX1_sentence 1 = .ok (.iload_n 1, 1) := by decide +kernel
theorem dX1_sentence_2 : decode cX1_sentence 2 = .ok (.invokevirtual 59, 3) := by decide +kernel
theorem dX1_sentence_5 : decode cX1_sentence 5 = .ok (.astore 4, 2) := by decide +kernel
theorem dX1_sentence_7 : decode cX1_sentence 7 = .ok (.aload_n 0, 1) := by decide +kernel
theorem dX1_sentence_8 : decode cX1_sentence 8 = .ok (.iload_n 2, 1) := by decide +kernel
theorem dX1_sentence_9 : decode cX1_sentence 9 = .ok (.invokevirtual 51, 3) := by decide +kernel
theorem dX1_sentence_12 : decode cX1_sentence 12 = .ok (.astore 5, 2) := by decide +kernel
theorem dX1_sentence_14 : decode cX1_sentence 14 = .ok (.aload 4, 2) := by decide +kernel
theorem dX1_sentence_16 : decode cX1_sentence 16 = .ok (.ifnull 20, 3) := by decide +kernel
theorem dX1_sentence_19 : decode cX1_sentence 19 = .ok (.aload 5, 2) := by decide +kernel
theorem dX1_sentence_21 : decode cX1_sentence 21 = .ok (.ifnull 15, 3) := by decide +kernel
theorem dX1_sentence_24 : decode cX1_sentence 24 = .ok (.aload_n 0, 1) := by decide +kernel
theorem dX1_sentence_25 : decode cX1_sentence 25 = .ok (.aload 4, 2) := by decide +kernel
theorem dX1_sentence_27 : decode cX1_sentence 27 = .ok (.aload 5, 2) := by decide +kernel
theorem dX1_sentence_29 : decode cX1_sentence 29 = .ok (.iload_n 3, 1) := by decide +kernel
theorem dX1_sentence_30 : decode cX1_sentence 30 = .ok (.invokevirtual 119, 3) := by decide +kernel
theorem dX1_sentence_33 : decode cX1_sentence 33 = .ok (.ifCond .ne 5, 3) := by decide +kernel
theorem dX1_sentence_36 : decode cX1_sentence 36 = .ok (.iconst 0, 1) := by decide +kernel
theorem dX1_sentence_37 : decode cX1_sentence 37 = .ok (.ireturn, 1) := by decide +kernel
theorem dX1_sentence_38 : decode cX1_sentence 38 = .ok (.aload 5, 2) := by decide +kernel
theorem dX1_sentence_40 : decode cX1_sentence 40 = .ok (.getfield 105, 3) := by decide +kernel
theorem dX1_sentence_43 : decode cX1_sentence 43 = .ok (.iload_n 3, 1) := by decide +kernel
theorem dX1_sentence_44 : decode cX1_sentence 44 = .ok (.invokestatic 108, 3) := by decide +kernel
theorem dX1_sentence_47 : decode cX1_sentence 47 = .ok (.istore 6, 2) := by decide +kernel
theorem dX1_sentence_49 : decode cX1_sentence 49 = .ok (.aload 5, 2) := by decide +kernel
theorem dX1_sentence_51 : decode cX1_sentence 51 = .ok (.aload 4, 2) := by decide +kernel
theorem dX1_sentence_53 : decode cX1_sentence 53 = .ok (.getfield 102, 3) := by decide +kernel
theorem dX1_sentence_56 : decode cX1_sentence 56 = .ok (.iload 6, 2) := by decide +kernel
theorem dX1_sentence_58 : decode cX1_sentence 58 = .ok (.aload_n 0, 1) := by decide +kernel
theorem dX1_sentence_59 : decode cX1_sentence 59 = .ok (.getfield 45, 3) := by decide +kernel
theorem dX1_sentence_62 : decode cX1_sentence 62 = .ok (.invokevirtual 123, 3) := by decide +kernel
theorem dX1_sentence_65 : decode cX1_sentence 65 = .ok (.aload 4, 2) := by decide +kernel
theorem dX1_sentence_67 : decode cX1_sentence 67 = .ok (.iload_n 3, 1) := by decide +kernel
theorem dX1_sentence_68 : decode cX1_sentence 68 = .ok (.iload_n 2, 1) := by decide +kernel
theorem dX1_sentence_69 : decode cX1_sentence 69 = .ok (.iload 6, 2) := by decide +kernel
theorem dX1_sentence_71 : decode cX1_sentence 71 = .ok (.invokevirtual 126, 3) := by decide +kernel
theorem dX1_sentence_74 : decode cX1_sentence 74 = .ok (.aload_n 0, 1) := by decide +kernel
theorem dX1_sentence_75 : decode cX1_sentence 75 = .ok (.aload_n 0, 1) := by decide +kernel
theorem dX1_sentence_76 : decode cX1_sentence 76 = .ok (.getfield 48, 3) := by decide +kernel
theorem dX1_sentence_79 : decode cX1_sentence 79 = .ok (.iload_n 3, 1) := by decide +kernel
theorem dX1_sentence_80 : decode cX1_sentence 80 = .ok (.invokestatic 129, 3) := by decide +kernel
theorem dX1_sentence_83 : decode cX1_sentence 83 = .ok (.putfield 48, 3) := by decide +kernel
theorem dX1_sentence_86 : decode cX1_sentence 86 = .ok (.iconst 1, 1) := by decide +kernel
theorem dX1_sentence_87 : decode cX1_sentence 87 = .ok (.ireturn, 1) := by decide +kernel
theorem dX1_sentenceToLeast_0 : decode cX1_sentenceToLeast 0 = .ok (.aload_n 0, 1) := by decide +kernel
theorem dX1_sentenceToLeast_1 : decode cX1_sentenceToLeast 1 = .ok (.iload_n 1, 1) := by decide +kernel
theorem dX1_sentenceToLeast_2 : decode cX1_sentenceToLeast 2 = .ok (.invokevirtual 59, 3) := by decide +kernel
theorem dX1_sentenceToLeast_5 : decode cX1_sentenceToLeast 5 = .ok (.astore_n 3, 1) := by decide +kernel
theorem dX1_sentenceToLeast_6 : decode cX1_sentenceToLeast 6 = .ok (.aload_n 3, 1) := by decide +kernel
theorem dX1_sentenceToLeast_7 : decode cX1_sentenceToLeast 7 = .ok (.ifnull 20, 3) := by decide +kernel
theorem dX1_sentenceToLeast_10 : decode cX1_sentenceToLeast 10 = .ok (.aload_n 0, 1) := by decide +kernel
theorem dX1_sentenceToLeast_11 : decode cX1_sentenceToLeast 11 = .ok (.iload_n 1, 1) := by decide +kernel
theorem dX1_sentenceToLeast_12 : decode cX1_sentenceToLeast 12 = .ok (.iload_n 2, 1) := by decide +kernel
theorem dX1_sentenceToLeast_13 : decode cX1_sentenceToLeast 13 = .ok (.aload_n 3, 1) := by decide +kernel
theorem dX1_sentenceToLeast_14 : decode cX1_sentenceToLeast 14 = .ok (.getfield 116, 3) := by decide +kernel
theorem dX1_sentenceToLeast_17 : decode cX1_sentenceToLeast 17 = .ok (.invokevirtual 132, 3) := by decide +kernel
theorem dX1_sentenceToLeast_20 : decode cX1_sentenceToLeast 20 = .ok (.ifCond .eq 7, 3) := by decide +kernel
theorem dX1_sentenceToLeast_23 : decode cX1_sentenceToLeast 23 = .ok (.iconst 1, 1) := by decide +kernel
theorem dX1_sentenceToLeast_24 : decode cX1_sentenceToLeast 24 = .ok (.goto 4, 3) := by decide +kernel
theorem dX1_sentenceToLeast_27 : decode cX1_sentenceToLeast 27 = .ok (.iconst 0, 1) := by decide +kernel
theorem dX1_sentenceToLeast_28 : decode cX1_sentenceToLeast 28 = .ok (.ireturn, 1) := by decide +kernel
theorem dX1_undo_0 : decode cX1_undo 0 = .ok (.aload_n 0, 1) := by decide +kernel
theorem dX1_undo_1 : decode cX1_undo 1 = .ok (.aload_n 1, 1) := by decide +kernel
theorem dX1_undo_2 : decode cX1_undo 2 = .ok (.getfield 136, 3) := by decide +kernel
theorem dX1_undo_5 : decode cX1_undo 5 = .ok (.invokevirtual 51, 3) := by decide +kernel
theorem dX1_undo_8 : decode cX1_undo 8 = .ok (.astore_n 2, 1) := by decide +kernel
theorem dX1_undo_9 : decode cX1_undo 9 = .ok (.aload_n 2, 1) := by decide +kernel
theorem dX1_undo_10 : decode cX1_undo 10 = .ok (.ifnull 19, 3) := by decide +kernel
theorem dX1_undo_13 : decode cX1_undo 13 = .ok (.aload_n 2, 1) := by decide +kernel
theorem dX1_undo_14 : decode cX1_undo 14 = .ok (.aload_n 1, 1) := by decide +kernel
theorem dX1_undo_15 : decode cX1_undo 15 = .ok (.getfield 102, 3) := by decide +kernel
theorem dX1_undo_18 : decode cX1_undo 18 = .ok (.aload_n 1, 1) := by decide +kernel
theorem dX1_undo_19 : decode cX1_undo 19 = .ok (.getfield 139, 3) := by decide +kernel
theorem dX1_undo_22 : decode cX1_undo 22 = .ok (.aload_n 0, 1) := by decide +kernel
theorem dX1_undo_23 : decode cX1_undo 23 = .ok (.getfield 45, 3) := by decide +kernel
theorem dX1_undo_26 : decode cX1_undo 26 = .ok (.invokevirtual 142, 3) := by decide +kernel
theorem dX1_undo_29 : decode cX1_undo 29 = .ok (.aload_n 0, 1) := by decide +kernel
theorem dX1_undo_30 : decode cX1_undo 30 = .ok (.aload_n 0, 1) := by decide +kernel
theorem dX1_undo_31 : decode cX1_undo 31 = .ok (.getfield 48, 3) := by decide +kernel
theorem dX1_undo_34 : decode cX1_undo 34 = .ok (.aload_n 1, 1) := by decide +kernel
theorem dX1_undo_35 : decode cX1_undo 35 = .ok (.getfield 145, 3) := by decide +kernel
theorem dX1_undo_38 : decode cX1_undo 38 = .ok (.invokestatic 147, 3) := by decide +kernel
theorem dX1_undo_41 : decode cX1_undo 41 = .ok (.putfield 48, 3) := by decide +kernel
theorem dX1_undo_44 : decode cX1_undo 44 = .ok (.aload_n 1, 1) := by decide +kernel
theorem dX1_undo_45 : decode cX1_undo 45 = .ok (.iconst 0, 1) := by decide +kernel
theorem dX1_undo_46 : decode cX1_undo 46 = .ok (.bipush (-4), 2) := by decide +kernel
theorem dX1_undo_48 : decode cX1_undo 48 = .ok (.iconst 0, 1) := by decide +kernel
theorem dX1_undo_49 : decode cX1_undo 49 = .ok (.invokevirtual 126, 3) := by decide +kernel
theorem dX1_undo_52 : decode cX1_undo 52 = .ok (.return_, 1) := by decide +kernel
theorem dX1_crimeWithout_0 : decode cX1_crimeWithout 0 = .ok (.aload_n 0, 1) := by decide +kernel
theorem dX1_crimeWithout_1 : decode cX1_crimeWithout 1 = .ok (.getfield 48, 3) := by decide +kernel
theorem dX1_crimeWithout_4 : decode cX1_crimeWithout 4 = .ok (.istore_n 2, 1) := by decide +kernel
theorem dX1_crimeWithout_5 : decode cX1_crimeWithout 5 = .ok (.iconst 0, 1) := by decide +kernel
theorem dX1_crimeWithout_6 : decode cX1_crimeWithout 6 = .ok (.istore_n 3, 1) := by decide +kernel
theorem dX1_crimeWithout_7 : decode cX1_crimeWithout 7 = .ok (.iload_n 3, 1) := by decide +kernel
theorem dX1_crimeWithout_8 : decode cX1_crimeWithout 8 = .ok (.aload_n 0, 1) := by decide +kernel
theorem dX1_crimeWithout_9 : decode cX1_crimeWithout 9 = .ok (.getfield 39, 3) := by decide +kernel
theorem dX1_crimeWithout_12 : decode cX1_crimeWithout 12 = .ok (.if_icmp .ge 39, 3) := by decide +kernel
theorem dX1_crimeWithout_15 : decode cX1_crimeWithout 15 = .ok (.aload_n 0, 1) := by decide +kernel
theorem dX1_crimeWithout_16 : decode cX1_crimeWithout 16 = .ok (.iload_n 3, 1) := by decide +kernel
theorem dX1_crimeWithout_17 : decode cX1_crimeWithout 17 = .ok (.invokevirtual 59, 3) := by decide +kernel
theorem dX1_crimeWithout_20 : decode cX1_crimeWithout 20 = .ok (.astore 4, 2) := by decide +kernel
theorem dX1_crimeWithout_22 : decode cX1_crimeWithout 22 = .ok (.aload 4, 2) := by decide +kernel
theorem dX1_crimeWithout_24 : decode cX1_crimeWithout 24 = .ok (.ifnull 21, 3) := by decide +kernel
theorem dX1_crimeWithout_27 : decode cX1_crimeWithout 27 = .ok (.iload_n 1, 1) := by decide +kernel
theorem dX1_crimeWithout_28 : decode cX1_crimeWithout 28 = .ok (.iload_n 3, 1) := by decide +kernel
theorem dX1_crimeWithout_29 : decode cX1_crimeWithout 29 = .ok (.ishr, 1) := by decide +kernel
theorem dX1_crimeWithout_30 : decode cX1_crimeWithout 30 = .ok (.iconst 1, 1) := by decide +kernel
theorem dX1_crimeWithout_31 : decode cX1_crimeWithout 31 = .ok (.iand, 1) := by decide +kernel
theorem dX1_crimeWithout_32 : decode cX1_crimeWithout 32 = .ok (.ifCond .eq 13, 3) := by decide +kernel
theorem dX1_crimeWithout_35 : decode cX1_crimeWithout 35 = .ok (.iload_n 2, 1) := by decide +kernel
theorem dX1_crimeWithout_36 : decode cX1_crimeWithout 36 = .ok (.aload 4, 2) := by decide +kernel
theorem dX1_crimeWithout_38 : decode cX1_crimeWithout 38 = .ok (.getfield 145, 3) := by decide +kernel
theorem dX1_crimeWithout_41 : decode cX1_crimeWithout 41 = .ok (.invokestatic 147, 3) := by decide +kernel
theorem dX1_crimeWithout_44 : decode cX1_crimeWithout 44 = .ok (.istore_n 2, 1) := by decide +kernel
theorem dX1_crimeWithout_45 : decode cX1_crimeWithout 45 = .ok (.iinc 3 1, 3) := by decide +kernel
theorem dX1_crimeWithout_48 : decode cX1_crimeWithout 48 = .ok (.goto (-41), 3) := by decide +kernel
theorem dX1_crimeWithout_51 : decode cX1_crimeWithout 51 = .ok (.iload_n 2, 1) := by decide +kernel
theorem dX1_crimeWithout_52 : decode cX1_crimeWithout 52 = .ok (.ireturn, 1) := by decide +kernel
theorem dX1_nextDay_0 : decode cX1_nextDay 0 = .ok (.aload_n 0, 1) := by decide +kernel
theorem dX1_nextDay_1 : decode cX1_nextDay 1 = .ok (.dup, 1) := by decide +kernel
theorem dX1_nextDay_2 : decode cX1_nextDay 2 = .ok (.getfield 45, 3) := by decide +kernel
theorem dX1_nextDay_5 : decode cX1_nextDay 5 = .ok (.iconst 1, 1) := by decide +kernel
theorem dX1_nextDay_6 : decode cX1_nextDay 6 = .ok (.iadd, 1) := by decide +kernel
theorem dX1_nextDay_7 : decode cX1_nextDay 7 = .ok (.putfield 45, 3) := by decide +kernel
theorem dX1_nextDay_10 : decode cX1_nextDay 10 = .ok (.iconst 0, 1) := by decide +kernel
theorem dX1_nextDay_11 : decode cX1_nextDay 11 = .ok (.istore_n 1, 1) := by decide +kernel
theorem dX1_nextDay_12 : decode cX1_nextDay 12 = .ok (.iconst 0, 1) := by decide +kernel
theorem dX1_nextDay_13 : decode cX1_nextDay 13 = .ok (.istore_n 2, 1) := by decide +kernel
theorem dX1_nextDay_14 : decode cX1_nextDay 14 = .ok (.iload_n 2, 1) := by decide +kernel
theorem dX1_nextDay_15 : decode cX1_nextDay 15 = .ok (.aload_n 0, 1) := by decide +kernel
theorem dX1_nextDay_16 : decode cX1_nextDay 16 = .ok (.getfield 39, 3) := by decide +kernel
theorem dX1_nextDay_19 : decode cX1_nextDay 19 = .ok (.if_icmp .ge 40, 3) := by decide +kernel
theorem dX1_nextDay_22 : decode cX1_nextDay 22 = .ok (.aload_n 0, 1) := by decide +kernel
theorem dX1_nextDay_23 : decode cX1_nextDay 23 = .ok (.iload_n 2, 1) := by decide +kernel
theorem dX1_nextDay_24 : decode cX1_nextDay 24 = .ok (.invokevirtual 59, 3) := by decide +kernel
theorem dX1_nextDay_27 : decode cX1_nextDay 27 = .ok (.astore_n 3, 1) := by decide +kernel
theorem dX1_nextDay_28 : decode cX1_nextDay 28 = .ok (.aload_n 3, 1) := by decide +kernel
theorem dX1_nextDay_29 : decode cX1_nextDay 29 = .ok (.ifnull 24, 3) := by decide +kernel
theorem dX1_nextDay_32 : decode cX1_nextDay 32 = .ok (.aload_n 3, 1) := by decide +kernel
theorem dX1_nextDay_33 : decode cX1_nextDay 33 = .ok (.invokevirtual 94, 3) := by decide +kernel
theorem dX1_nextDay_36 : decode cX1_nextDay 36 = .ok (.ifCond .ne 17, 3) := by decide +kernel
theorem dX1_nextDay_39 : decode cX1_nextDay 39 = .ok (.aload_n 3, 1) := by decide +kernel
theorem dX1_nextDay_40 : decode cX1_nextDay 40 = .ok (.getfield 98, 3) := by decide +kernel
theorem dX1_nextDay_43 : decode cX1_nextDay 43 = .ok (.aload_n 0, 1) := by decide +kernel
theorem dX1_nextDay_44 : decode cX1_nextDay 44 = .ok (.getfield 45, 3) := by decide +kernel
theorem dX1_nextDay_47 : decode cX1_nextDay 47 = .ok (.if_icmp .gt 6, 3) := by decide +kernel
theorem dX1_nextDay_50 : decode cX1_nextDay 50 = .ok (.iinc 1 1, 3) := by decide +kernel
theorem dX1_nextDay_53 : decode cX1_nextDay 53 = .ok (.iinc 2 1, 3) := by decide +kernel
theorem dX1_nextDay_56 : decode cX1_nextDay 56 = .ok (.goto (-42), 3) := by decide +kernel
theorem dX1_nextDay_59 : decode cX1_nextDay 59 = .ok (.aload_n 0, 1) := by decide +kernel
theorem dX1_nextDay_60 : decode cX1_nextDay 60 = .ok (.bipush 99, 2) := by decide +kernel
theorem dX1_nextDay_62 : decode cX1_nextDay 62 = .ok (.aload_n 0, 1) := by decide +kernel
theorem dX1_nextDay_63 : decode cX1_nextDay 63 = .ok (.getfield 48, 3) := by decide +kernel
theorem dX1_nextDay_66 : decode cX1_nextDay 66 = .ok (.iload_n 1, 1) := by decide +kernel
theorem dX1_nextDay_67 : decode cX1_nextDay 67 = .ok (.iadd, 1) := by decide +kernel
theorem dX1_nextDay_68 : decode cX1_nextDay 68 = .ok (.invokestatic 150, 3) := by decide +kernel
theorem dX1_nextDay_71 : decode cX1_nextDay 71 = .ok (.putfield 48, 3) := by decide +kernel
theorem dX1_nextDay_74 : decode cX1_nextDay 74 = .ok (.return_, 1) := by decide +kernel
theorem dX1_heardBits_0 : decode cX1_heardBits 0 = .ok (.iconst 0, 1) := by decide +kernel
theorem dX1_heardBits_1 : decode cX1_heardBits 1 = .ok (.istore_n 1, 1) := by decide +kernel
theorem dX1_heardBits_2 : decode cX1_heardBits 2 = .ok (.iconst 0, 1) := by decide +kernel
theorem dX1_heardBits_3 : decode cX1_heardBits 3 = .ok (.istore_n 2, 1) := by decide +kernel
theorem dX1_heardBits_4 : decode cX1_heardBits 4 = .ok (.iload_n 2, 1) := by decide +kernel
theorem dX1_heardBits_5 : decode cX1_heardBits 5 = .ok (.aload_n 0, 1) := by decide +kernel
theorem dX1_heardBits_6 : decode cX1_heardBits 6 = .ok (.getfield 39, 3) := by decide +kernel
theorem dX1_heardBits_9 : decode cX1_heardBits 9 = .ok (.if_icmp .ge 32, 3) := by decide +kernel
theorem dX1_heardBits_12 : decode cX1_heardBits 12 = .ok (.aload_n 0, 1) := by decide +kernel
theorem dX1_heardBits_13 : decode cX1_heardBits 13 = .ok (.iload_n 2, 1) := by decide +kernel
theorem dX1_heardBits_14 : decode cX1_heardBits 14 = .ok (.invokevirtual 59, 3) := by decide +kernel
theorem dX1_heardBits_17 : decode cX1_heardBits 17 = .ok (.astore_n 3, 1) := by decide +kernel
theorem dX1_heardBits_18 : decode cX1_heardBits 18 = .ok (.aload_n 3, 1) := by decide +kernel
theorem dX1_heardBits_19 : decode cX1_heardBits 19 = .ok (.ifnull 16, 3) := by decide +kernel
theorem dX1_heardBits_22 : decode cX1_heardBits 22 = .ok (.aload_n 3, 1) := by decide +kernel
theorem dX1_heardBits_23 : decode cX1_heardBits 23 = .ok (.invokevirtual 94, 3) := by decide +kernel
theorem dX1_heardBits_26 : decode cX1_heardBits 26 = .ok (.ifCond .eq 9, 3) := by decide +kernel
theorem dX1_heardBits_29 : decode cX1_heardBits 29 = .ok (.iload_n 1, 1) := by decide +kernel
theorem dX1_heardBits_30 : decode cX1_heardBits 30 = .ok (.iconst 1, 1) := by decide +kernel
theorem dX1_heardBits_31 : decode cX1_heardBits 31 = .ok (.iload_n 2, 1) := by decide +kernel
theorem dX1_heardBits_32 : decode cX1_heardBits 32 = .ok (.ishl, 1) := by decide +kernel
theorem dX1_heardBits_33 : decode cX1_heardBits 33 = .ok (.ior, 1) := by decide +kernel
theorem dX1_heardBits_34 : decode cX1_heardBits 34 = .ok (.istore_n 1, 1) := by decide +kernel
theorem dX1_heardBits_35 : decode cX1_heardBits 35 = .ok (.iinc 2 1, 3) := by decide +kernel
theorem dX1_heardBits_38 : decode cX1_heardBits 38 = .ok (.goto (-34), 3) := by decide +kernel
theorem dX1_heardBits_41 : decode cX1_heardBits 41 = .ok (.iload_n 1, 1) := by decide +kernel
theorem dX1_heardBits_42 : decode cX1_heardBits 42 = .ok (.ireturn, 1) := by decide +kernel
theorem dX1_bitsBy_0 : decode cX1_bitsBy 0 = .ok (.iconst 0, 1) := by decide +kernel
theorem dX1_bitsBy_1 : decode cX1_bitsBy 1 = .ok (.istore_n 2, 1) := by decide +kernel
theorem dX1_bitsBy_2 : decode cX1_bitsBy 2 = .ok (.iconst 0, 1) := by decide +kernel
theorem dX1_bitsBy_3 : decode cX1_bitsBy 3 = .ok (.istore_n 3, 1) := by decide +kernel
theorem dX1_bitsBy_4 : decode cX1_bitsBy 4 = .ok (.iload_n 3, 1) := by decide +kernel
theorem dX1_bitsBy_5 : decode cX1_bitsBy 5 = .ok (.aload_n 0, 1) := by decide +kernel
theorem dX1_bitsBy_6 : decode cX1_bitsBy 6 = .ok (.getfield 39, 3) := by decide +kernel
theorem dX1_bitsBy_9 : decode cX1_bitsBy 9 = .ok (.if_icmp .ge 36, 3) := by decide +kernel
theorem dX1_bitsBy_12 : decode cX1_bitsBy 12 = .ok (.aload_n 0, 1) := by decide +kernel
theorem dX1_bitsBy_13 : decode cX1_bitsBy 13 = .ok (.iload_n 3, 1) := by decide +kernel
theorem dX1_bitsBy_14 : decode cX1_bitsBy 14 = .ok (.invokevirtual 59, 3) := by decide +kernel
theorem dX1_bitsBy_17 : decode cX1_bitsBy 17 = .ok (.astore 4, 2) := by decide +kernel
theorem dX1_bitsBy_19 : decode cX1_bitsBy 19 = .ok (.aload 4, 2) := by decide +kernel
theorem dX1_bitsBy_21 : decode cX1_bitsBy 21 = .ok (.ifnull 18, 3) := by decide +kernel
theorem dX1_bitsBy_24 : decode cX1_bitsBy 24 = .ok (.aload 4, 2) := by decide +kernel
theorem dX1_bitsBy_26 : decode cX1_bitsBy 26 = .ok (.getfield 136, 3) := by decide +kernel
theorem dX1_bitsBy_29 : decode cX1_bitsBy 29 = .ok (.iload_n 1, 1) := by decide +kernel
theorem dX1_bitsBy_30 : decode cX1_bitsBy 30 = .ok (.if_icmp .ne 9, 3) := by decide +kernel
theorem dX1_bitsBy_33 : decode cX1_bitsBy 33 = .ok (.iload_n 2, 1) := by decide +kernel
theorem dX1_bitsBy_34 : decode cX1_bitsBy 34 = .ok (.iconst 1, 1) := by decide +kernel
theorem dX1_bitsBy_35 : decode cX1_bitsBy 35 = .ok (.iload_n 3, 1) := by decide +kernel
theorem dX1_bitsBy_36 : decode cX1_bitsBy 36 = .ok (.ishl, 1) := by decide +kernel
theorem dX1_bitsBy_37 : decode cX1_bitsBy 37 = .ok (.ior, 1) := by decide +kernel
theorem dX1_bitsBy_38 : decode cX1_bitsBy 38 = .ok (.istore_n 2, 1) := by decide +kernel
theorem dX1_bitsBy_39 : decode cX1_bitsBy 39 = .ok (.iinc 3 1, 3) := by decide +kernel
theorem dX1_bitsBy_42 : decode cX1_bitsBy 42 = .ok (.goto (-38), 3) := by decide +kernel
theorem dX1_bitsBy_45 : decode cX1_bitsBy 45 = .ok (.iload_n 2, 1) := by decide +kernel
theorem dX1_bitsBy_46 : decode cX1_bitsBy 46 = .ok (.ireturn, 1) := by decide +kernel
theorem dX1_awayBits_0 : decode cX1_awayBits 0 = .ok (.iconst 0, 1) := by decide +kernel
theorem dX1_awayBits_1 : decode cX1_awayBits 1 = .ok (.istore_n 1, 1) := by decide +kernel
theorem dX1_awayBits_2 : decode cX1_awayBits 2 = .ok (.iconst 0, 1) := by decide +kernel
theorem dX1_awayBits_3 : decode cX1_awayBits 3 = .ok (.istore_n 2, 1) := by decide +kernel
theorem dX1_awayBits_4 : decode cX1_awayBits 4 = .ok (.iload_n 2, 1) := by decide +kernel
theorem dX1_awayBits_5 : decode cX1_awayBits 5 = .ok (.aload_n 0, 1) := by decide +kernel
theorem dX1_awayBits_6 : decode cX1_awayBits 6 = .ok (.getfield 35, 3) := by decide +kernel
theorem dX1_awayBits_9 : decode cX1_awayBits 9 = .ok (.if_icmp .ge 36, 3) := by decide +kernel
theorem dX1_awayBits_12 : decode cX1_awayBits 12 = .ok (.aload_n 0, 1) := by decide +kernel
theorem dX1_awayBits_13 : decode cX1_awayBits 13 = .ok (.iload_n 2, 1) := by decide +kernel
theorem dX1_awayBits_14 : decode cX1_awayBits 14 = .ok (.invokevirtual 51, 3) := by decide +kernel
theorem dX1_awayBits_17 : decode cX1_awayBits 17 = .ok (.astore_n 3, 1) := by decide +kernel
theorem dX1_awayBits_18 : decode cX1_awayBits 18 = .ok (.aload_n 3, 1) := by decide +kernel
theorem dX1_awayBits_19 : decode cX1_awayBits 19 = .ok (.ifnull 20, 3) := by decide +kernel
theorem dX1_awayBits_22 : decode cX1_awayBits 22 = .ok (.aload_n 3, 1) := by decide +kernel
theorem dX1_awayBits_23 : decode cX1_awayBits 23 = .ok (.getfield 99, 3) := by decide +kernel
theorem dX1_awayBits_26 : decode cX1_awayBits 26 = .ok (.aload_n 0, 1) := by decide +kernel
theorem dX1_awayBits_27 : decode cX1_awayBits 27 = .ok (.getfield 45, 3) := by decide +kernel
theorem dX1_awayBits_30 : decode cX1_awayBits 30 = .ok (.if_icmp .le 9, 3) := by decide +kernel
theorem dX1_awayBits_33 : decode cX1_awayBits 33 = .ok (.iload_n 1, 1) := by decide +kernel
theorem dX1_awayBits_34 : decode cX1_awayBits 34 = .ok (.iconst 1, 1) := by decide +kernel
theorem dX1_awayBits_35 : decode cX1_awayBits 35 = .ok (.iload_n 2, 1) := by decide +kernel
theorem dX1_awayBits_36 : decode cX1_awayBits 36 = .ok (.ishl, 1) := by decide +kernel
theorem dX1_awayBits_37 : decode cX1_awayBits 37 = .ok (.ior, 1) := by decide +kernel
theorem dX1_awayBits_38 : decode cX1_awayBits 38 = .ok (.istore_n 1, 1) := by decide +kernel
theorem dX1_awayBits_39 : decode cX1_awayBits 39 = .ok (.iinc 2 1, 3) := by decide +kernel
theorem dX1_awayBits_42 : decode cX1_awayBits 42 = .ok (.goto (-38), 3) := by decide +kernel
theorem dX1_awayBits_45 : decode cX1_awayBits 45 = .ok (.iload_n 1, 1) := by decide +kernel
theorem dX1_awayBits_46 : decode cX1_awayBits 46 = .ok (.ireturn, 1) := by decide +kernel
theorem dX1_isClear_0 : decode cX1_isClear 0 = .ok (.aload_n 0, 1) := by decide +kernel
theorem dX1_isClear_1 : decode cX1_isClear 1 = .ok (.invokevirtual 155, 3) := by decide +kernel
theorem dX1_isClear_4 : decode cX1_isClear 4 = .ok (.ifCond .ne 21, 3) := by decide +kernel
theorem dX1_isClear_7 : decode cX1_isClear 7 = .ok (.aload_n 0, 1) := by decide +kernel
theorem dX1_isClear_8 : decode cX1_isClear 8 = .ok (.invokevirtual 159, 3) := by decide +kernel
theorem dX1_isClear_11 : decode cX1_isClear 11 = .ok (.invokestatic 162, 3) := by decide +kernel
theorem dX1_isClear_14 : decode cX1_isClear 14 = .ok (.aload_n 0, 1) := by decide +kernel
theorem dX1_isClear_15 : decode cX1_isClear 15 = .ok (.getfield 39, 3) := by decide +kernel
theorem dX1_isClear_18 : decode cX1_isClear 18 = .ok (.if_icmp .ne 7, 3) := by decide +kernel
theorem dX1_isClear_21 : decode cX1_isClear 21 = .ok (.iconst 1, 1) := by decide +kernel
theorem dX1_isClear_22 : decode cX1_isClear 22 = .ok (.goto 4, 3) := by decide +kernel
theorem dX1_isClear_25 : decode cX1_isClear 25 = .ok (.iconst 0, 1) := by decide +kernel
theorem dX1_isClear_26 : decode cX1_isClear 26 = .ok (.ireturn, 1) := by decide +kernel
theorem dX1_allSentences_0 : decode cX1_allSentences 0 = .ok (.iconst 0, 1) := by decide +kernel
theorem dX1_allSentences_1 : decode cX1_allSentences 1 = .ok (.istore_n 1, 1) := by decide +kernel
theorem dX1_allSentences_2 : decode cX1_allSentences 2 = .ok (.iconst 0, 1) := by decide +kernel
theorem dX1_allSentences_3 : decode cX1_allSentences 3 = .ok (.istore_n 2, 1) := by decide +kernel
theorem dX1_allSentences_4 : decode cX1_allSentences 4 = .ok (.iload_n 2, 1) := by decide +kernel
theorem dX1_allSentences_5 : decode cX1_allSentences 5 = .ok (.aload_n 0, 1) := by decide +kernel
theorem dX1_allSentences_6 : decode cX1_allSentences 6 = .ok (.getfield 39, 3) := by decide +kernel
theorem dX1_allSentences_9 : decode cX1_allSentences 9 = .ok (.if_icmp .ge 30, 3) := by decide +kernel
theorem dX1_allSentences_12 : decode cX1_allSentences 12 = .ok (.aload_n 0, 1) := by decide +kernel
theorem dX1_allSentences_13 : decode cX1_allSentences 13 = .ok (.iload_n 2, 1) := by decide +kernel
theorem dX1_allSentences_14 : decode cX1_allSentences 14 = .ok (.invokevirtual 59, 3) := by decide +kernel
theorem dX1_allSentences_17 : decode cX1_allSentences 17 = .ok (.astore_n 3, 1) := by decide +kernel
theorem dX1_allSentences_18 : decode cX1_allSentences 18 = .ok (.iload_n 1, 1) := by decide +kernel
theorem dX1_allSentences_19 : decode cX1_allSentences 19 = .ok (.aload_n 3, 1) := by decide +kernel
theorem dX1_allSentences_20 : decode cX1_allSentences 20 = .ok (.ifnonnull 7, 3) := by decide +kernel
theorem dX1_allSentences_23 : decode cX1_allSentences 23 = .ok (.iconst 0, 1) := by decide +kernel
theorem dX1_allSentences_24 : decode cX1_allSentences 24 = .ok (.goto 7, 3) := by decide +kernel
theorem dX1_allSentences_27 : decode cX1_allSentences 27 = .ok (.aload_n 3, 1) := by decide +kernel
theorem dX1_allSentences_28 : decode cX1_allSentences 28 = .ok (.getfield 145, 3) := by decide +kernel
theorem dX1_allSentences_31 : decode cX1_allSentences 31 = .ok (.iadd, 1) := by decide +kernel
theorem dX1_allSentences_32 : decode cX1_allSentences 32 = .ok (.istore_n 1, 1) := by decide +kernel
theorem dX1_allSentences_33 : decode cX1_allSentences 33 = .ok (.iinc 2 1, 3) := by decide +kernel
theorem dX1_allSentences_36 : decode cX1_allSentences 36 = .ok (.goto (-32), 3) := by decide +kernel
theorem dX1_allSentences_39 : decode cX1_allSentences 39 = .ok (.iload_n 1, 1) := by decide +kernel
theorem dX1_allSentences_40 : decode cX1_allSentences 40 = .ok (.ireturn, 1) := by decide +kernel
theorem dX1_allPurses_0 : decode cX1_allPurses 0 = .ok (.iconst 0, 1) := by decide +kernel
theorem dX1_allPurses_1 : decode cX1_allPurses 1 = .ok (.istore_n 1, 1) := by decide +kernel
theorem dX1_allPurses_2 : decode cX1_allPurses 2 = .ok (.iconst 0, 1) := by decide +kernel
theorem dX1_allPurses_3 : decode cX1_allPurses 3 = .ok (.istore_n 2, 1) := by decide +kernel
theorem dX1_allPurses_4 : decode cX1_allPurses 4 = .ok (.iload_n 2, 1) := by decide +kernel
theorem dX1_allPurses_5 : decode cX1_allPurses 5 = .ok (.aload_n 0, 1) := by decide +kernel
theorem dX1_allPurses_6 : decode cX1_allPurses 6 = .ok (.getfield 35, 3) := by decide +kernel
theorem dX1_allPurses_9 : decode cX1_allPurses 9 = .ok (.if_icmp .ge 30, 3) := by decide +kernel
theorem dX1_allPurses_12 : decode cX1_allPurses 12 = .ok (.aload_n 0, 1) := by decide +kernel
theorem dX1_allPurses_13 : decode cX1_allPurses 13 = .ok (.iload_n 2, 1) := by decide +kernel
theorem dX1_allPurses_14 : decode cX1_allPurses 14 = .ok (.invokevirtual 51, 3) := by decide +kernel
theorem dX1_allPurses_17 : decode cX1_allPurses 17 = .ok (.astore_n 3, 1) := by decide +kernel
theorem dX1_allPurses_18 : decode cX1_allPurses 18 = .ok (.iload_n 1, 1) := by decide +kernel
theorem dX1_allPurses_19 : decode cX1_allPurses 19 = .ok (.aload_n 3, 1) := by decide +kernel
theorem dX1_allPurses_20 : decode cX1_allPurses 20 = .ok (.ifnonnull 7, 3) := by decide +kernel
theorem dX1_allPurses_23 : decode cX1_allPurses 23 = .ok (.iconst 0, 1) := by decide +kernel
theorem dX1_allPurses_24 : decode cX1_allPurses 24 = .ok (.goto 7, 3) := by decide +kernel
theorem dX1_allPurses_27 : decode cX1_allPurses 27 = .ok (.aload_n 3, 1) := by decide +kernel
theorem dX1_allPurses_28 : decode cX1_allPurses 28 = .ok (.getfield 168, 3) := by decide +kernel
theorem dX1_allPurses_31 : decode cX1_allPurses 31 = .ok (.iadd, 1) := by decide +kernel
theorem dX1_allPurses_32 : decode cX1_allPurses 32 = .ok (.istore_n 1, 1) := by decide +kernel
theorem dX1_allPurses_33 : decode cX1_allPurses 33 = .ok (.iinc 2 1, 3) := by decide +kernel
theorem dX1_allPurses_36 : decode cX1_allPurses 36 = .ok (.goto (-32), 3) := by decide +kernel
theorem dX1_allPurses_39 : decode cX1_allPurses 39 = .ok (.iload_n 1, 1) := by decide +kernel
theorem dX1_allPurses_40 : decode cX1_allPurses 40 = .ok (.ireturn, 1) := by decide +kernel
theorem dX1_allHealth_0 : decode cX1_allHealth 0 = .ok (.iconst 0, 1) := by decide +kernel
theorem dX1_allHealth_1 : decode cX1_allHealth 1 = .ok (.istore_n 1, 1) := by decide +kernel
theorem dX1_allHealth_2 : decode cX1_allHealth 2 = .ok (.iconst 0, 1) := by decide +kernel
theorem dX1_allHealth_3 : decode cX1_allHealth 3 = .ok (.istore_n 2, 1) := by decide +kernel
theorem dX1_allHealth_4 : decode cX1_allHealth 4 = .ok (.iload_n 2, 1) := by decide +kernel
theorem dX1_allHealth_5 : decode cX1_allHealth 5 = .ok (.aload_n 0, 1) := by decide +kernel
theorem dX1_allHealth_6 : decode cX1_allHealth 6 = .ok (.getfield 35, 3) := by decide +kernel
theorem dX1_allHealth_9 : decode cX1_allHealth 9 = .ok (.if_icmp .ge 30, 3) := by decide +kernel
theorem dX1_allHealth_12 : decode cX1_allHealth 12 = .ok (.aload_n 0, 1) := by decide +kernel
theorem dX1_allHealth_13 : decode cX1_allHealth 13 = .ok (.iload_n 2, 1) := by decide +kernel
theorem dX1_allHealth_14 : decode cX1_allHealth 14 = .ok (.invokevirtual 51, 3) := by decide +kernel
theorem dX1_allHealth_17 : decode cX1_allHealth 17 = .ok (.astore_n 3, 1) := by decide +kernel
theorem dX1_allHealth_18 : decode cX1_allHealth 18 = .ok (.iload_n 1, 1) := by decide +kernel
theorem dX1_allHealth_19 : decode cX1_allHealth 19 = .ok (.aload_n 3, 1) := by decide +kernel
theorem dX1_allHealth_20 : decode cX1_allHealth 20 = .ok (.ifnonnull 7, 3) := by decide +kernel
theorem dX1_allHealth_23 : decode cX1_allHealth 23 = .ok (.iconst 0, 1) := by decide +kernel
theorem dX1_allHealth_24 : decode cX1_allHealth 24 = .ok (.goto 7, 3) := by decide +kernel
theorem dX1_allHealth_27 : decode cX1_allHealth 27 = .ok (.aload_n 3, 1) := by decide +kernel
theorem dX1_allHealth_28 : decode cX1_allHealth 28 = .ok (.getfield 171, 3) := by decide +kernel
theorem dX1_allHealth_31 : decode cX1_allHealth 31 = .ok (.iadd, 1) := by decide +kernel
theorem dX1_allHealth_32 : decode cX1_allHealth 32 = .ok (.istore_n 1, 1) := by decide +kernel
theorem dX1_allHealth_33 : decode cX1_allHealth 33 = .ok (.iinc 2 1, 3) := by decide +kernel
theorem dX1_allHealth_36 : decode cX1_allHealth 36 = .ok (.goto (-32), 3) := by decide +kernel
theorem dX1_allHealth_39 : decode cX1_allHealth 39 = .ok (.iload_n 1, 1) := by decide +kernel
theorem dX1_allHealth_40 : decode cX1_allHealth 40 = .ok (.ireturn, 1) := by decide +kernel
theorem dX1_allScars_0 : decode cX1_allScars 0 = .ok (.iconst 0, 1) := by decide +kernel
theorem dX1_allScars_1 : decode cX1_allScars 1 = .ok (.istore_n 1, 1) := by decide +kernel
theorem dX1_allScars_2 : decode cX1_allScars 2 = .ok (.iconst 0, 1) := by decide +kernel
theorem dX1_allScars_3 : decode cX1_allScars 3 = .ok (.istore_n 2, 1) := by decide +kernel
theorem dX1_allScars_4 : decode cX1_allScars 4 = .ok (.iload_n 2, 1) := by decide +kernel
theorem dX1_allScars_5 : decode cX1_allScars 5 = .ok (.aload_n 0, 1) := by decide +kernel
theorem dX1_allScars_6 : decode cX1_allScars 6 = .ok (.getfield 35, 3) := by decide +kernel
theorem dX1_allScars_9 : decode cX1_allScars 9 = .ok (.if_icmp .ge 30, 3) := by decide +kernel
theorem dX1_allScars_12 : decode cX1_allScars 12 = .ok (.aload_n 0, 1) := by decide +kernel
theorem dX1_allScars_13 : decode cX1_allScars 13 = .ok (.iload_n 2, 1) := by decide +kernel
theorem dX1_allScars_14 : decode cX1_allScars 14 = .ok (.invokevirtual 51, 3) := by decide +kernel
theorem dX1_allScars_17 : decode cX1_allScars 17 = .ok (.astore_n 3, 1) := by decide +kernel
theorem dX1_allScars_18 : decode cX1_allScars 18 = .ok (.iload_n 1, 1) := by decide +kernel
theorem dX1_allScars_19 : decode cX1_allScars 19 = .ok (.aload_n 3, 1) := by decide +kernel
theorem dX1_allScars_20 : decode cX1_allScars 20 = .ok (.ifnonnull 7, 3) := by decide +kernel
theorem dX1_allScars_23 : decode cX1_allScars 23 = .ok (.iconst 0, 1) := by decide +kernel
theorem dX1_allScars_24 : decode cX1_allScars 24 = .ok (.goto 7, 3) := by decide +kernel
theorem dX1_allScars_27 : decode cX1_allScars 27 = .ok (.aload_n 3, 1) := by decide +kernel
theorem dX1_allScars_28 : decode cX1_allScars 28 = .ok (.getfield 174, 3) := by decide +kernel
theorem dX1_allScars_31 : decode cX1_allScars 31 = .ok (.iadd, 1) := by decide +kernel
theorem dX1_allScars_32 : decode cX1_allScars 32 = .ok (.istore_n 1, 1) := by decide +kernel
theorem dX1_allScars_33 : decode cX1_allScars 33 = .ok (.iinc 2 1, 3) := by decide +kernel
theorem dX1_allScars_36 : decode cX1_allScars 36 = .ok (.goto (-32), 3) := by decide +kernel
theorem dX1_allScars_39 : decode cX1_allScars 39 = .ok (.iload_n 1, 1) := by decide +kernel
theorem dX1_allScars_40 : decode cX1_allScars 40 = .ok (.ireturn, 1) := by decide +kernel
theorem dX2_init_0 : decode cX2_init 0 = .ok (.aload_n 0, 1) := by decide +kernel
theorem dX2_init_1 : decode cX2_init 1 = .ok (.invokespecial 3, 3) := by decide +kernel
theorem dX2_init_4 : decode cX2_init 4 = .ok (.aload_n 0, 1) := by decide +kernel
theorem dX2_init_5 : decode cX2_init 5 = .ok (.iconst 4, 1) := by decide +kernel
theorem dX2_init_6 : decode cX2_init 6 = .ok (.newarray .int, 2) := by decide +kernel
theorem dX2_init_8 : decode cX2_init 8 = .ok (.putfield 9, 3) := by decide +kernel
theorem dX2_init_11 : decode cX2_init 11 = .ok (.aload_n 0, 1) := by decide +kernel
theorem dX2_init_12 : decode cX2_init 12 = .ok (.iconst 0, 1) := by decide +kernel
theorem dX2_init_13 : decode cX2_init 13 = .ok (.putfield 15, 3) := by decide +kernel
theorem dX2_init_16 : decode cX2_init 16 = .ok (.return_, 1) := by decide +kernel
theorem dX2_seatAll_0 : decode cX2_seatAll 0 = .ok (.aload_n 0, 1) := by decide +kernel
theorem dX2_seatAll_1 : decode cX2_seatAll 1 = .ok (.aload_n 1, 1) := by decide +kernel
theorem dX2_seatAll_2 : decode cX2_seatAll 2 = .ok (.bipush (-4), 2) := by decide +kernel
theorem dX2_seatAll_4 : decode cX2_seatAll 4 = .ok (.invokevirtual 19, 3) := by decide +kernel
theorem dX2_seatAll_7 : decode cX2_seatAll 7 = .ok (.return_, 1) := by decide +kernel
theorem dX2_seatWithout_0 : decode cX2_seatWithout 0 = .ok (.aload_n 0, 1) := by decide +kernel
theorem dX2_seatWithout_1 : decode cX2_seatWithout 1 = .ok (.iconst 0, 1) := by decide +kernel
theorem dX2_seatWithout_2 : decode cX2_seatWithout 2 = .ok (.putfield 15, 3) := by decide +kernel
theorem dX2_seatWithout_5 : decode cX2_seatWithout 5 = .ok (.iconst 0, 1) := by decide +kernel
theorem dX2_seatWithout_6 : decode cX2_seatWithout 6 = .ok (.istore_n 3, 1) := by decide +kernel
theorem dX2_seatWithout_7 : decode cX2_seatWithout 7 = .ok (.iload_n 3, 1) := by decide +kernel
theorem dX2_seatWithout_8 : decode cX2_seatWithout 8 = .ok (.aload_n 1, 1) := by decide +kernel
theorem dX2_seatWithout_9 : decode cX2_seatWithout 9 = .ok (.getfield 23, 3) := by decide +kernel
theorem dX2_seatWithout_12 : decode cX2_seatWithout 12 = .ok (.if_icmp .ge 19, 3) := by decide +kernel
theorem dX2_seatWithout_15 : decode cX2_seatWithout 15 = .ok (.iload_n 3, 1) := by decide +kernel
theorem dX2_seatWithout_16 : decode cX2_seatWithout 16 = .ok (.iload_n 2, 1) := by decide +kernel
theorem dX2_seatWithout_17 : decode cX2_seatWithout 17 = .ok (.if_icmp .eq 8, 3) := by decide +kernel
theorem dX2_seatWithout_20 : decode cX2_seatWithout 20 = .ok (.aload_n 0, 1) := by decide +kernel
theorem dX2_seatWithout_21 : decode cX2_seatWithout 21 = .ok (.iload_n 3, 1) := by decide +kernel
theorem dX2_seatWithout_22 : decode cX2_seatWithout 22 = .ok (.invokevirtual 28, 3) := by decide +kernel
theorem dX2_seatWithout_25 : decode cX2_seatWithout 25 = .ok (.iinc 3 1, 3) := by decide +kernel
theorem dX2_seatWithout_28 : decode cX2_seatWithout 28 = .ok (.goto (-21), 3) := by decide +kernel
theorem dX2_seatWithout_31 : decode cX2_seatWithout 31 = .ok (.return_, 1) := by decide +kernel
theorem dX2_seatBy_0 : decode cX2_seatBy 0 = .ok (.aload_n 0, 1) := by decide +kernel
theorem dX2_seatBy_1 : decode cX2_seatBy 1 = .ok (.iconst 0, 1) := by decide +kernel
theorem dX2_seatBy_2 : decode cX2_seatBy 2 = .ok (.putfield 15, 3) := by decide +kernel
theorem dX2_seatBy_5 : decode cX2_seatBy 5 = .ok (.iconst 0, 1) := by decide +kernel
theorem dX2_seatBy_6 : decode cX2_seatBy 6 = .ok (.istore_n 3, 1) := by decide +kernel
theorem dX2_seatBy_7 : decode cX2_seatBy 7 = .ok (.iconst 0, 1) := by decide +kernel
theorem dX2_seatBy_8 : decode cX2_seatBy 8 = .ok (.istore 4, 2) := by decide +kernel
theorem dX2_seatBy_10 : decode cX2_seatBy 10 = .ok (.iload 4, 2) := by decide +kernel
theorem dX2_seatBy_12 : decode cX2_seatBy 12 = .ok (.iload_n 2, 1) := by decide +kernel
theorem dX2_seatBy_13 : decode cX2_seatBy 13 = .ok (.if_icmp .ge 46, 3) := by decide +kernel
theorem dX2_seatBy_16 : decode cX2_seatBy 16 = .ok (.iload_n 1, 1) := by decide +kernel
theorem dX2_seatBy_17 : decode cX2_seatBy 17 = .ok (.iload_n 2, 1) := by decide +kernel
theorem dX2_seatBy_18 : decode cX2_seatBy 18 = .ok (.iload 4, 2) := by decide +kernel
theorem dX2_seatBy_20 : decode cX2_seatBy 20 = .ok (.invokestatic 32, 3) := by decide +kernel
theorem dX2_seatBy_23 : decode cX2_seatBy 23 = .ok (.istore 5, 2) := by decide +kernel
theorem dX2_seatBy_25 : decode cX2_seatBy 25 = .ok (.iload 5, 2) := by decide +kernel
theorem dX2_seatBy_27 : decode cX2_seatBy 27 = .ok (.iload_n 2, 1) := by decide +kernel
theorem dX2_seatBy_28 : decode cX2_seatBy 28 = .ok (.if_icmp .ge 18, 3) := by decide +kernel
theorem dX2_seatBy_31 : decode cX2_seatBy 31 = .ok (.iload_n 3, 1) := by decide +kernel
theorem dX2_seatBy_32 : decode cX2_seatBy 32 = .ok (.iload 5, 2) := by decide +kernel
theorem dX2_seatBy_34 : decode cX2_seatBy 34 = .ok (.ishr, 1) := by decide +kernel
theorem dX2_seatBy_35 : decode cX2_seatBy 35 = .ok (.iconst 1, 1) := by decide +kernel
theorem dX2_seatBy_36 : decode cX2_seatBy 36 = .ok (.iand, 1) := by decide +kernel
theorem dX2_seatBy_37 : decode cX2_seatBy 37 = .ok (.ifCond .ne 9, 3) := by decide +kernel
theorem dX2_seatBy_40 : decode cX2_seatBy 40 = .ok (.aload_n 0, 1) := by decide +kernel
theorem dX2_seatBy_41 : decode cX2_seatBy 41 = .ok (.iload 5, 2) := by decide +kernel
theorem dX2_seatBy_43 : decode cX2_seatBy 43 = .ok (.invokevirtual 28, 3) := by decide +kernel
theorem dX2_seatBy_46 : decode cX2_seatBy 46 = .ok (.iload_n 3, 1) := by decide +kernel
theorem dX2_seatBy_47 : decode cX2_seatBy 47 = .ok (.iconst 1, 1) := by decide +kernel
theorem dX2_seatBy_48 : decode cX2_seatBy 48 = .ok (.iload 5, 2) := by decide +kernel
theorem dX2_seatBy_50 : decode cX2_seatBy 50 = .ok (.ishl, 1) := by decide +kernel
theorem dX2_seatBy_51 : decode cX2_seatBy 51 = .ok (.ior, 1) := by decide +kernel
theorem dX2_seatBy_52 : decode cX2_seatBy 52 = .ok (.istore_n 3, 1) := by decide +kernel
theorem dX2_seatBy_53 : decode cX2_seatBy 53 = .ok (.iinc 4 1, 3) := by decide +kernel
theorem dX2_seatBy_56 : decode cX2_seatBy 56 = .ok (.goto (-46), 3) := by decide +kernel
theorem dX2_seatBy_59 : decode cX2_seatBy 59 = .ok (.aload_n 0, 1) := by decide +kernel
theorem dX2_seatBy_60 : decode cX2_seatBy 60 = .ok (.getfield 15, 3) := by decide +kernel
theorem dX2_seatBy_63 : decode cX2_seatBy 63 = .ok (.iload_n 2, 1) := by decide +kernel
theorem dX2_seatBy_64 : decode cX2_seatBy 64 = .ok (.if_icmp .ne 7, 3) := by decide +kernel
theorem dX2_seatBy_67 : decode cX2_seatBy 67 = .ok (.iconst 1, 1) := by decide +kernel
theorem dX2_seatBy_68 : decode cX2_seatBy 68 = .ok (.goto 4, 3) := by decide +kernel
theorem dX2_seatBy_71 : decode cX2_seatBy 71 = .ok (.iconst 0, 1) := by decide +kernel
theorem dX2_seatBy_72 : decode cX2_seatBy 72 = .ok (.ireturn, 1) := by decide +kernel
theorem dX2_seat_0 : decode cX2_seat 0 = .ok (.aload_n 0, 1) := by decide +kernel
theorem dX2_seat_1 : decode cX2_seat 1 = .ok (.getfield 15, 3) := by decide +kernel
theorem dX2_seat_4 : decode cX2_seat 4 = .ok (.ifCond .lt 35, 3) := by decide +kernel
theorem dX2_seat_7 : decode cX2_seat 7 = .ok (.aload_n 0, 1) := by decide +kernel
theorem dX2_seat_8 : decode cX2_seat 8 = .ok (.getfield 15, 3) := by decide +kernel
theorem dX2_seat_11 : decode cX2_seat 11 = .ok (.aload_n 0, 1) := by decide +kernel
theorem dX2_seat_12 : decode cX2_seat 12 = .ok (.getfield 9, 3) := by decide +kernel
theorem dX2_seat_15 : decode cX2_seat 15 = .ok (.arraylength, 1) := by decide +kernel
theorem dX2_seat_16 : decode cX2_seat 16 = .ok (.if_icmp .ge 23, 3) := by decide +kernel
theorem dX2_seat_19 : decode cX2_seat 19 = .ok (.aload_n 0, 1) := by decide +kernel
theorem dX2_seat_20 : decode cX2_seat 20 = .ok (.getfield 9, 3) := by decide +kernel
theorem dX2_seat_23 : decode cX2_seat 23 = .ok (.aload_n 0, 1) := by decide +kernel
theorem dX2_seat_24 : decode cX2_seat 24 = .ok (.getfield 15, 3) := by decide +kernel
theorem dX2_seat_27 : decode cX2_seat 27 = .ok (.iload_n 1, 1) := by decide +kernel
theorem dX2_seat_28 : decode cX2_seat 28 = .ok (.iastore, 1) := by decide +kernel
theorem dX2_seat_29 : decode cX2_seat 29 = .ok (.aload_n 0, 1) := by decide +kernel
theorem dX2_seat_30 : decode cX2_seat 30 = .ok (.dup, 1) := by decide +kernel
theorem dX2_seat_31 : decode cX2_seat 31 = .ok (.getfield 15, 3) := by decide +kernel
theorem dX2_seat_34 : decode cX2_seat 34 = .ok (.iconst 1, 1) := by decide +kernel
theorem dX2_seat_35 : decode cX2_seat 35 = .ok (.iadd, 1) := by decide +kernel
theorem dX2_seat_36 : decode cX2_seat 36 = .ok (.putfield 15, 3) := by decide +kernel
theorem dX2_seat_39 : decode cX2_seat 39 = .ok (.return_, 1) := by decide +kernel
theorem dX2_searchOrder_0 : decode cX2_searchOrder 0 = .ok (.aload_n 2, 1) := by decide +kernel
theorem dX2_searchOrder_1 : decode cX2_searchOrder 1 = .ok (.getfield 23, 3) := by decide +kernel
theorem dX2_searchOrder_4 : decode cX2_searchOrder 4 = .ok (.istore 4, 2) := by decide +kernel
theorem dX2_searchOrder_6 : decode cX2_searchOrder 6 = .ok (.aload_n 2, 1) := by decide +kernel
theorem dX2_searchOrder_7 : decode cX2_searchOrder 7 = .ok (.getfield 36, 3) := by decide +kernel
theorem dX2_searchOrder_10 : decode cX2_searchOrder 10 = .ok (.aload_n 2, 1) := by decide +kernel
theorem dX2_searchOrder_11 : decode cX2_searchOrder 11 = .ok (.invokevirtual 39, 3) := by decide +kernel
theorem dX2_searchOrder_14 : decode cX2_searchOrder 14 = .ok (.invokestatic 43, 3) := by decide +kernel
theorem dX2_searchOrder_17 : decode cX2_searchOrder 17 = .ok (.isub, 1) := by decide +kernel
theorem dX2_searchOrder_18 : decode cX2_searchOrder 18 = .ok (.istore 5, 2) := by decide +kernel
theorem dX2_searchOrder_20 : decode cX2_searchOrder 20 = .ok (.aload_n 0, 1) := by decide +kernel
theorem dX2_searchOrder_21 : decode cX2_searchOrder 21 = .ok (.bipush (-4), 2) := by decide +kernel
theorem dX2_searchOrder_23 : decode cX2_searchOrder 23 = .ok (.putfield 49, 3) := by decide +kernel
theorem dX2_searchOrder_26 : decode cX2_searchOrder 26 = .ok (.aload_n 0, 1) := by decide +kernel
theorem dX2_searchOrder_27 : decode cX2_searchOrder 27 = .ok (.iconst 0, 1) := by decide +kernel
theorem dX2_searchOrder_28 : decode cX2_searchOrder 28 = .ok (.putfield 52, 3) := by decide +kernel
theorem dX2_searchOrder_31 : decode cX2_searchOrder 31 = .ok (.iconst 0, 1) := by decide +kernel
theorem dX2_searchOrder_32 : decode cX2_searchOrder 32 = .ok (.istore 6, 2) := by decide +kernel
theorem dX2_searchOrder_34 : decode cX2_searchOrder 34 = .ok (.iload 6, 2) := by decide +kernel
theorem dX2_searchOrder_36 : decode cX2_searchOrder 36 = .ok (.iconst 1, 1) := by decide +kernel
theorem dX2_searchOrder_37 : decode cX2_searchOrder 37 = .ok (.iconst 2, 1) := by decide +kernel
theorem dX2_searchOrder_38 : decode cX2_searchOrder 38 = .ok (.iload 4, 2) := by decide +kernel
theorem dX2_searchOrder_40 : decode cX2_searchOrder 40 = .ok (.imul, 1) := by decide +kernel
theorem dX2_searchOrder_41 : decode cX2_searchOrder 41 = .ok (.ishl, 1) := by decide +kernel
theorem dX2_searchOrder_42 : decode cX2_searchOrder 42 = .ok (.if_icmp .ge 66, 3) := by decide +kernel
theorem dX2_searchOrder_45 : decode cX2_searchOrder 45 = .ok (.aload_n 0, 1) := by decide +kernel
theorem dX2_searchOrder_46 : decode cX2_searchOrder 46 = .ok (.getfield 49, 3) := by decide +kernel
theorem dX2_searchOrder_49 : decode cX2_searchOrder 49 = .ok (.iload 5, 2) := by decide +kernel
theorem dX2_searchOrder_51 : decode cX2_searchOrder 51 = .ok (.if_icmp .ge 57, 3) := by decide +kernel
theorem dX2_searchOrder_54 : decode cX2_searchOrder 54 = .ok (.aload_n 0, 1) := by decide +kernel
theorem dX2_searchOrder_55 : decode cX2_searchOrder 55 = .ok (.iload 6, 2) := by decide +kernel
theorem dX2_searchOrder_57 : decode cX2_searchOrder 57 = .ok (.iload 4, 2) := by decide +kernel
theorem dX2_searchOrder_59 : decode cX2_searchOrder 59 = .ok (.invokevirtual 55, 3) := by decide +kernel
theorem dX2_searchOrder_62 : decode cX2_searchOrder 62 = .ok (.ifCond .eq 40, 3) := by decide +kernel
theorem dX2_searchOrder_65 : decode cX2_searchOrder 65 = .ok (.aload_n 0, 1) := by decide +kernel
theorem dX2_searchOrder_66 : decode cX2_searchOrder 66 = .ok (.aload_n 1, 1) := by decide +kernel
theorem dX2_searchOrder_67 : decode cX2_searchOrder 67 = .ok (.aload_n 2, 1) := by decide +kernel
theorem dX2_searchOrder_68 : decode cX2_searchOrder 68 = .ok (.iload_n 3, 1) := by decide +kernel
theorem dX2_searchOrder_69 : decode cX2_searchOrder 69 = .ok (.invokevirtual 59, 3) := by decide +kernel
theorem dX2_searchOrder_72 : decode cX2_searchOrder 72 = .ok (.aload_n 0, 1) := by decide +kernel
theorem dX2_searchOrder_73 : decode cX2_searchOrder 73 = .ok (.getfield 63, 3) := by decide +kernel
theorem dX2_searchOrder_76 : decode cX2_searchOrder 76 = .ok (.invokestatic 43, 3) := by decide +kernel
theorem dX2_searchOrder_79 : decode cX2_searchOrder 79 = .ok (.istore 7, 2) := by decide +kernel
theorem dX2_searchOrder_81 : decode cX2_searchOrder 81 = .ok (.iload 7, 2) := by decide +kernel
theorem dX2_searchOrder_83 : decode cX2_searchOrder 83 = .ok (.aload_n 0, 1) := by decide +kernel
theorem dX2_searchOrder_84 : decode cX2_searchOrder 84 = .ok (.getfield 49, 3) := by decide +kernel
theorem dX2_searchOrder_87 : decode cX2_searchOrder 87 = .ok (.if_icmp .le 15, 3) := by decide +kernel
theorem dX2_searchOrder_90 : decode cX2_searchOrder 90 = .ok (.aload_n 0, 1) := by decide +kernel
theorem dX2_searchOrder_91 : decode cX2_searchOrder 91 = .ok (.iload 7, 2) := by decide +kernel
theorem dX2_searchOrder_93 : decode cX2_searchOrder 93 = .ok (.putfield 49, 3) := by decide +kernel
theorem dX2_searchOrder_96 : decode cX2_searchOrder 96 = .ok (.aload_n 0, 1) := by decide +kernel
theorem dX2_searchOrder_97 : decode cX2_searchOrder 97 = .ok (.iload 6, 2) := by decide +kernel
theorem dX2_searchOrder_99 : decode cX2_searchOrder 99 = .ok (.putfield 52, 3) := by decide +kernel
theorem dX2_searchOrder_102 : decode cX2_searchOrder 102 = .ok (.iinc 6 1, 3) := by decide +kernel
theorem dX2_searchOrder_105 : decode cX2_searchOrder 105 = .ok (.goto (-71), 3) := by decide +kernel
theorem dX2_searchOrder_108 : decode cX2_searchOrder 108 = .ok (.return_, 1) := by decide +kernel
theorem dX2_play_0 : decode cX2_play 0 = .ok (.aload_n 1, 1) := by decide +kernel
theorem dX2_play_1 : decode cX2_play 1 = .ok (.aload_n 2, 1) := by decide +kernel
theorem dX2_play_2 : decode cX2_play 2 = .ok (.invokevirtual 66, 3) := by decide +kernel
theorem dX2_play_5 : decode cX2_play 5 = .ok (.aload_n 0, 1) := by decide +kernel
theorem dX2_play_6 : decode cX2_play 6 = .ok (.aload_n 1, 1) := by decide +kernel
theorem dX2_play_7 : decode cX2_play 7 = .ok (.invokevirtual 70, 3) := by decide +kernel
theorem dX2_play_10 : decode cX2_play 10 = .ok (.ifCond .eq 7, 3) := by decide +kernel
theorem dX2_play_13 : decode cX2_play 13 = .ok (.iconst 0, 1) := by decide +kernel
theorem dX2_play_14 : decode cX2_play 14 = .ok (.goto 5, 3) := by decide +kernel
theorem dX2_play_17 : decode cX2_play 17 = .ok (.bipush (-4), 2) := by decide +kernel
theorem dX2_play_19 : decode cX2_play 19 = .ok (.putfield 74, 3) := by decide +kernel
theorem dX2_play_22 : decode cX2_play 22 = .ok (.iconst 1, 1) := by decide +kernel
theorem dX2_play_23 : decode cX2_play 23 = .ok (.istore 4, 2) := by decide +kernel
theorem dX2_play_25 : decode cX2_play 25 = .ok (.iload 4, 2) := by decide +kernel
theorem dX2_play_27 : decode cX2_play 27 = .ok (.iload_n 3, 1) := by decide +kernel
theorem dX2_play_28 : decode cX2_play 28 = .ok (.if_icmp .gt 74, 3) := by decide +kernel
theorem dX2_play_31 : decode cX2_play 31 = .ok (.iconst 0, 1) := by decide +kernel
theorem dX2_play_32 : decode cX2_play 32 = .ok (.istore 5, 2) := by decide +kernel
theorem dX2_play_34 : decode cX2_play 34 = .ok (.iload 5, 2) := by decide +kernel
theorem dX2_play_36 : decode cX2_play 36 = .ok (.aload_n 0, 1) := by decide +kernel
theorem dX2_play_37 : decode cX2_play 37 = .ok (.getfield 15, 3) := by decide +kernel
theorem dX2_play_40 : decode cX2_play 40 = .ok (.if_icmp .ge 30, 3) := by decide +kernel
theorem dX2_play_43 : decode cX2_play 43 = .ok (.iload 5, 2) := by decide +kernel
theorem dX2_play_45 : decode cX2_play 45 = .ok (.aload_n 0, 1) := by decide +kernel
theorem dX2_play_46 : decode cX2_play 46 = .ok (.getfield 9, 3) := by decide +kernel
theorem dX2_play_49 : decode cX2_play 49 = .ok (.arraylength, 1) := by decide +kernel
theorem dX2_play_50 : decode cX2_play 50 = .ok (.if_icmp .ge 20, 3) := by decide +kernel
theorem dX2_play_53 : decode cX2_play 53 = .ok (.aload_n 1, 1) := by decide +kernel
theorem dX2_play_54 : decode cX2_play 54 = .ok (.aload_n 0, 1) := by decide +kernel
theorem dX2_play_55 : decode cX2_play 55 = .ok (.getfield 9, 3) := by decide +kernel
theorem dX2_play_58 : decode cX2_play 58 = .ok (.iload 5, 2) := by decide +kernel
theorem dX2_play_60 : decode cX2_play 60 = .ok (.iaload, 1) := by decide +kernel
theorem dX2_play_61 : decode cX2_play 61 = .ok (.invokestatic 77, 3) := by decide +kernel
theorem dX2_play_64 : decode cX2_play 64 = .ok (.iinc 5 1, 3) := by decide +kernel
theorem dX2_play_67 : decode cX2_play 67 = .ok (.goto (-33), 3) := by decide +kernel
theorem dX2_play_70 : decode cX2_play 70 = .ok (.aload_n 1, 1) := by decide +kernel
theorem dX2_play_71 : decode cX2_play 71 = .ok (.invokevirtual 80, 3) := by decide +kernel
theorem dX2_play_74 : decode cX2_play 74 = .ok (.aload_n 0, 1) := by decide +kernel
theorem dX2_play_75 : decode cX2_play 75 = .ok (.getfield 74, 3) := by decide +kernel
theorem dX2_play_78 : decode cX2_play 78 = .ok (.bipush (-4), 2) := by decide +kernel
theorem dX2_play_80 : decode cX2_play 80 = .ok (.if_icmp .ne 16, 3) := by decide +kernel
theorem dX2_play_83 : decode cX2_play 83 = .ok (.aload_n 1, 1) := by decide +kernel
theorem dX2_play_84 : decode cX2_play 84 = .ok (.invokevirtual 70, 3) := by decide +kernel
theorem dX2_play_87 : decode cX2_play 87 = .ok (.ifCond .eq 9, 3) := by decide +kernel
theorem dX2_play_90 : decode cX2_play 90 = .ok (.aload_n 0, 1) := by decide +kernel
theorem dX2_play_91 : decode cX2_play 91 = .ok (.iload 4, 2) := by decide +kernel
theorem dX2_play_93 : decode cX2_play 93 = .ok (.putfield 74, 3) := by decide +kernel
theorem dX2_play_96 : decode cX2_play 96 = .ok (.iinc 4 1, 3) := by decide +kernel
theorem dX2_play_99 : decode cX2_play 99 = .ok (.goto (-74), 3) := by decide +kernel
theorem dX2_play_102 : decode cX2_play 102 = .ok (.aload_n 0, 1) := by decide +kernel
theorem dX2_play_103 : decode cX2_play 103 = .ok (.aload_n 1, 1) := by decide +kernel
theorem dX2_play_104 : decode cX2_play 104 = .ok (.invokevirtual 39, 3) := by decide +kernel
theorem dX2_play_107 : decode cX2_play 107 = .ok (.aload_n 2, 1) := by decide +kernel
theorem dX2_play_108 : decode cX2_play 108 = .ok (.invokevirtual 39, 3) := by decide +kernel
theorem dX2_play_111 : decode cX2_play 111 = .ok (.iconst (-1), 1) := by decide +kernel
theorem dX2_play_112 : decode cX2_play 112 = .ok (.ixor, 1) := by decide +kernel
theorem dX2_play_113 : decode cX2_play 113 = .ok (.iand, 1) := by decide +kernel
theorem dX2_play_114 : decode cX2_play 114 = .ok (.putfield 63, 3) := by decide +kernel
theorem dX2_play_117 : decode cX2_play 117 = .ok (.return_, 1) := by decide +kernel
theorem dX2_hearFirst_0 : decode cX2_hearFirst 0 = .ok (.iconst 1, 1) := by decide +kernel
theorem dX2_hearFirst_1 : decode cX2_hearFirst 1 = .ok (.istore_n 2, 1) := by decide +kernel
theorem dX2_hearFirst_2 : decode cX2_hearFirst 2 = .ok (.iconst 0, 1) := by decide +kernel
theorem dX2_hearFirst_3 : decode cX2_hearFirst 3 = .ok (.istore_n 3, 1) := by decide +kernel
theorem dX2_hearFirst_4 : decode cX2_hearFirst 4 = .ok (.iload_n 3, 1) := by decide +kernel
theorem dX2_hearFirst_5 : decode cX2_hearFirst 5 = .ok (.aload_n 0, 1) := by decide +kernel
theorem dX2_hearFirst_6 : decode cX2_hearFirst 6 = .ok (.getfield 36, 3) := by decide +kernel
theorem dX2_hearFirst_9 : decode cX2_hearFirst 9 = .ok (.if_icmp .ge 28, 3) := by decide +kernel
theorem dX2_hearFirst_12 : decode cX2_hearFirst 12 = .ok (.iload_n 2, 1) := by decide +kernel
theorem dX2_hearFirst_13 : decode cX2_hearFirst 13 = .ok (.ifCond .eq 24, 3) := by decide +kernel
theorem dX2_hearFirst_16 : decode cX2_hearFirst 16 = .ok (.aload_n 0, 1) := by decide +kernel
theorem dX2_hearFirst_17 : decode cX2_hearFirst 17 = .ok (.iload_n 3, 1) := by decide +kernel
theorem dX2_hearFirst_18 : decode cX2_hearFirst 18 = .ok (.iload_n 1, 1) := by decide +kernel
theorem dX2_hearFirst_19 : decode cX2_hearFirst 19 = .ok (.invokevirtual 83, 3) := by decide +kernel
theorem dX2_hearFirst_22 : decode cX2_hearFirst 22 = .ok (.ifCond .ne 7, 3) := by decide +kernel
theorem dX2_hearFirst_25 : decode cX2_hearFirst 25 = .ok (.iconst 1, 1) := by decide +kernel
theorem dX2_hearFirst_26 : decode cX2_hearFirst 26 = .ok (.goto 4, 3) := by decide +kernel
theorem dX2_hearFirst_29 : decode cX2_hearFirst 29 = .ok (.iconst 0, 1) := by decide +kernel
theorem dX2_hearFirst_30 : decode cX2_hearFirst 30 = .ok (.istore_n 2, 1) := by decide +kernel
theorem dX2_hearFirst_31 : decode cX2_hearFirst 31 = .ok (.iinc 3 1, 3) := by decide +kernel
theorem dX2_hearFirst_34 : decode cX2_hearFirst 34 = .ok (.goto (-30), 3) := by decide +kernel
theorem dX2_hearFirst_37 : decode cX2_hearFirst 37 = .ok (.return_, 1) := by decide +kernel
theorem dX3_init_0 : decode cX3_init 0 = .ok (.aload_n 0, 1) := by decide +kernel
theorem dX3_init_1 : decode cX3_init 1 = .ok (.invokespecial 1, 3) := by decide +kernel
theorem dX3_init_4 : decode cX3_init 4 = .ok (.aload_n 0, 1) := by decide +kernel
theorem dX3_init_5 : decode cX3_init 5 = .ok (.new 7, 3) := by decide +kernel
theorem dX3_init_8 : decode cX3_init 8 = .ok (.dup, 1) := by decide +kernel
theorem dX3_init_9 : decode cX3_init 9 = .ok (.invokespecial 9, 3) := by decide +kernel
theorem dX3_init_12 : decode cX3_init 12 = .ok (.putfield 10, 3) := by decide +kernel
theorem dX3_init_15 : decode cX3_init 15 = .ok (.aload_n 0, 1) := by decide +kernel
theorem dX3_init_16 : decode cX3_init 16 = .ok (.iconst 0, 1) := by decide +kernel
theorem dX3_init_17 : decode cX3_init 17 = .ok (.putfield 16, 3) := by decide +kernel
theorem dX3_init_20 : decode cX3_init 20 = .ok (.return_, 1) := by decide +kernel
theorem dX4_init_0 : decode cX4_init 0 = .ok (.aload_n 0, 1) := by decide +kernel
theorem dX4_init_1 : decode cX4_init 1 = .ok (.invokespecial 3, 3) := by decide +kernel
theorem dX4_init_4 : decode cX4_init 4 = .ok (.return_, 1) := by decide +kernel
theorem dX4_begin_0 : decode cX4_begin 0 = .ok (.aload_n 0, 1) := by decide +kernel
theorem dX4_begin_1 : decode cX4_begin 1 = .ok (.iload_n 1, 1) := by decide +kernel
theorem dX4_begin_2 : decode cX4_begin 2 = .ok (.putfield 9, 3) := by decide +kernel
theorem dX4_begin_5 : decode cX4_begin 5 = .ok (.aload_n 0, 1) := by decide +kernel
theorem dX4_begin_6 : decode cX4_begin 6 = .ok (.iload_n 2, 1) := by decide +kernel
theorem dX4_begin_7 : decode cX4_begin 7 = .ok (.putfield 15, 3) := by decide +kernel
theorem dX4_begin_10 : decode cX4_begin 10 = .ok (.aload_n 0, 1) := by decide +kernel
theorem dX4_begin_11 : decode cX4_begin 11 = .ok (.iload_n 3, 1) := by decide +kernel
theorem dX4_begin_12 : decode cX4_begin 12 = .ok (.putfield 18, 3) := by decide +kernel
theorem dX4_begin_15 : decode cX4_begin 15 = .ok (.aload_n 0, 1) := by decide +kernel
theorem dX4_begin_16 : decode cX4_begin 16 = .ok (.iconst 0, 1) := by decide +kernel
theorem dX4_begin_17 : decode cX4_begin 17 = .ok (.putfield 21, 3) := by decide +kernel
theorem dX4_begin_20 : decode cX4_begin 20 = .ok (.aload_n 0, 1) := by decide +kernel
theorem dX4_begin_21 : decode cX4_begin 21 = .ok (.iconst 0, 1) := by decide +kernel
theorem dX4_begin_22 : decode cX4_begin 22 = .ok (.putfield 24, 3) := by decide +kernel
theorem dX4_begin_25 : decode cX4_begin 25 = .ok (.return_, 1) := by decide +kernel
theorem dX4_copy_0 : decode cX4_copy 0 = .ok (.aload_n 0, 1) := by decide +kernel
theorem dX4_copy_1 : decode cX4_copy 1 = .ok (.aload_n 1, 1) := by decide +kernel
theorem dX4_copy_2 : decode cX4_copy 2 = .ok (.getfield 9, 3) := by decide +kernel
theorem dX4_copy_5 : decode cX4_copy 5 = .ok (.putfield 9, 3) := by decide +kernel
theorem dX4_copy_8 : decode cX4_copy 8 = .ok (.aload_n 0, 1) := by decide +kernel
theorem dX4_copy_9 : decode cX4_copy 9 = .ok (.aload_n 1, 1) := by decide +kernel
theorem dX4_copy_10 : decode cX4_copy 10 = .ok (.getfield 15, 3) := by decide +kernel
theorem dX4_copy_13 : decode cX4_copy 13 = .ok (.putfield 15, 3) := by decide +kernel
theorem dX4_copy_16 : decode cX4_copy 16 = .ok (.aload_n 0, 1) := by decide +kernel
theorem dX4_copy_17 : decode cX4_copy 17 = .ok (.aload_n 1, 1) := by decide +kernel
theorem dX4_copy_18 : decode cX4_copy 18 = .ok (.getfield 18, 3) := by decide +kernel
theorem dX4_copy_21 : decode cX4_copy 21 = .ok (.putfield 18, 3) := by decide +kernel
theorem dX4_copy_24 : decode cX4_copy 24 = .ok (.aload_n 0, 1) := by decide +kernel
theorem dX4_copy_25 : decode cX4_copy 25 = .ok (.aload_n 1, 1) := by decide +kernel
theorem dX4_copy_26 : decode cX4_copy 26 = .ok (.getfield 21, 3) := by decide +kernel
theorem dX4_copy_29 : decode cX4_copy 29 = .ok (.putfield 21, 3) := by decide +kernel
theorem dX4_copy_32 : decode cX4_copy 32 = .ok (.aload_n 0, 1) := by decide +kernel
theorem dX4_copy_33 : decode cX4_copy 33 = .ok (.aload_n 1, 1) := by decide +kernel
theorem dX4_copy_34 : decode cX4_copy 34 = .ok (.getfield 24, 3) := by decide +kernel
theorem dX4_copy_37 : decode cX4_copy 37 = .ok (.putfield 24, 3) := by decide +kernel
theorem dX4_copy_40 : decode cX4_copy 40 = .ok (.return_, 1) := by decide +kernel
theorem dX4_bears_0 : decode cX4_bears 0 = .ok (.iload_n 1, 1) := by decide +kernel
theorem dX4_bears_1 : decode cX4_bears 1 = .ok (.iconst 1, 1) := by decide +kernel
theorem dX4_bears_2 : decode cX4_bears 2 = .ok (.if_icmp .ne 17, 3) := by decide +kernel
theorem dX4_bears_5 : decode cX4_bears 5 = .ok (.aload_n 0, 1) := by decide +kernel
theorem dX4_bears_6 : decode cX4_bears 6 = .ok (.getfield 18, 3) := by decide +kernel
theorem dX4_bears_9 : decode cX4_bears 9 = .ok (.iload_n 2, 1) := by decide +kernel
theorem dX4_bears_10 : decode cX4_bears 10 = .ok (.if_icmp .lt 7, 3) := by decide +kernel
theorem dX4_bears_13 : decode cX4_bears 13 = .ok (.iconst 1, 1) := by decide +kernel
theorem dX4_bears_14 : decode cX4_bears 14 = .ok (.goto 4, 3) := by decide +kernel
theorem dX4_bears_17 : decode cX4_bears 17 = .ok (.iconst 0, 1) := by decide +kernel
theorem dX4_bears_18 : decode cX4_bears 18 = .ok (.ireturn, 1) := by decide +kernel
theorem dX4_bears_19 : decode cX4_bears 19 = .ok (.iload_n 1, 1) := by decide +kernel
theorem dX4_bears_20 : decode cX4_bears 20 = .ok (.iconst 2, 1) := by decide +kernel
theorem dX4_bears_21 : decode cX4_bears 21 = .ok (.if_icmp .ne 11, 3) := by decide +kernel
theorem dX4_bears_24 : decode cX4_bears 24 = .ok (.aload_n 0, 1) := by decide +kernel
theorem dX4_bears_25 : decode cX4_bears 25 = .ok (.getfield 15, 3) := by decide +kernel
theorem dX4_bears_28 : decode cX4_bears 28 = .ok (.iload_n 2, 1) := by decide +kernel
theorem dX4_bears_29 : decode cX4_bears 29 = .ok (.if_icmp .le 7, 3) := by decide +kernel
theorem dX4_bears_32 : decode cX4_bears 32 = .ok (.iconst 1, 1) := by decide +kernel
theorem dX4_bears_33 : decode cX4_bears 33 = .ok (.goto 4, 3) := by decide +kernel
theorem dX4_bears_36 : decode cX4_bears 36 = .ok (.iconst 0, 1) := by decide +kernel
theorem dX4_bears_37 : decode cX4_bears 37 = .ok (.ireturn, 1) := by decide +kernel
theorem dX4_serve_0 : decode cX4_serve 0 = .ok (.iload_n 1, 1) := by decide +kernel
theorem dX4_serve_1 : decode cX4_serve 1 = .ok (.tableswitch 73 0 2 #[27, 37, 50], 27) := by decide +kernel
theorem dX4_serve_28 : decode cX4_serve 28 = .ok (.aload_n 0, 1) := by decide +kernel
theorem dX4_serve_29 : decode cX4_serve 29 = .ok (.iload_n 3, 1) := by decide +kernel
theorem dX4_serve_30 : decode cX4_serve 30 = .ok (.iload_n 2, 1) := by decide +kernel
theorem dX4_serve_31 : decode cX4_serve 31 = .ok (.iadd, 1) := by decide +kernel
theorem dX4_serve_32 : decode cX4_serve 32 = .ok (.putfield 21, 3) := by decide +kernel
theorem dX4_serve_35 : decode cX4_serve 35 = .ok (.goto 56, 3) := by decide +kernel
theorem dX4_serve_38 : decode cX4_serve 38 = .ok (.aload_n 0, 1) := by decide +kernel
theorem dX4_serve_39 : decode cX4_serve 39 = .ok (.dup, 1) := by decide +kernel
theorem dX4_serve_40 : decode cX4_serve 40 = .ok (.getfield 18, 3) := by decide +kernel
theorem dX4_serve_43 : decode cX4_serve 43 = .ok (.iload_n 2, 1) := by decide +kernel
theorem dX4_serve_44 : decode cX4_serve 44 = .ok (.isub, 1) := by decide +kernel
theorem dX4_serve_45 : decode cX4_serve 45 = .ok (.putfield 18, 3) := by decide +kernel
theorem dX4_serve_48 : decode cX4_serve 48 = .ok (.goto 43, 3) := by decide +kernel
theorem dX4_serve_51 : decode cX4_serve 51 = .ok (.aload_n 0, 1) := by decide +kernel
theorem dX4_serve_52 : decode cX4_serve 52 = .ok (.dup, 1) := by decide +kernel
theorem dX4_serve_53 : decode cX4_serve 53 = .ok (.getfield 15, 3) := by decide +kernel
theorem dX4_serve_56 : decode cX4_serve 56 = .ok (.iload_n 2, 1) := by decide +kernel
theorem dX4_serve_57 : decode cX4_serve 57 = .ok (.isub, 1) := by decide +kernel
theorem dX4_serve_58 : decode cX4_serve 58 = .ok (.putfield 15, 3) := by decide +kernel
theorem dX4_serve_61 : decode cX4_serve 61 = .ok (.aload_n 0, 1) := by decide +kernel
theorem dX4_serve_62 : decode cX4_serve 62 = .ok (.dup, 1) := by decide +kernel
theorem dX4_serve_63 : decode cX4_serve 63 = .ok (.getfield 24, 3) := by decide +kernel
theorem dX4_serve_66 : decode cX4_serve 66 = .ok (.iload_n 2, 1) := by decide +kernel
theorem dX4_serve_67 : decode cX4_serve 67 = .ok (.iadd, 1) := by decide +kernel
theorem dX4_serve_68 : decode cX4_serve 68 = .ok (.putfield 24, 3) := by decide +kernel
theorem dX4_serve_71 : decode cX4_serve 71 = .ok (.goto 20, 3) := by decide +kernel
theorem dX4_serve_74 : decode cX4_serve 74 = .ok (.aload_n 0, 1) := by decide +kernel
theorem dX4_serve_75 : decode cX4_serve 75 = .ok (.iload_n 3, 1) := by decide +kernel
theorem dX4_serve_76 : decode cX4_serve 76 = .ok (.iconst 1, 1) := by decide +kernel
theorem dX4_serve_77 : decode cX4_serve 77 = .ok (.iadd, 1) := by decide +kernel
theorem dX4_serve_78 : decode cX4_serve 78 = .ok (.putfield 21, 3) := by decide +kernel
theorem dX4_serve_81 : decode cX4_serve 81 = .ok (.aload_n 0, 1) := by decide +kernel
theorem dX4_serve_82 : decode cX4_serve 82 = .ok (.dup, 1) := by decide +kernel
theorem dX4_serve_83 : decode cX4_serve 83 = .ok (.getfield 24, 3) := by decide +kernel
theorem dX4_serve_86 : decode cX4_serve 86 = .ok (.iconst 1, 1) := by decide +kernel
theorem dX4_serve_87 : decode cX4_serve 87 = .ok (.iadd, 1) := by decide +kernel
theorem dX4_serve_88 : decode cX4_serve 88 = .ok (.putfield 24, 3) := by decide +kernel
theorem dX4_serve_91 : decode cX4_serve 91 = .ok (.return_, 1) := by decide +kernel
theorem dX4_regain_0 : decode cX4_regain 0 = .ok (.iload_n 1, 1) := by decide +kernel
theorem dX4_regain_1 : decode cX4_regain 1 = .ok (.tableswitch 88 0 2 #[27, 42, 60], 27) := by decide +kernel
theorem dX4_regain_28 : decode cX4_regain 28 = .ok (.aload_n 0, 1) := by decide +kernel
theorem dX4_regain_29 : decode cX4_regain 29 = .ok (.aload_n 0, 1) := by decide +kernel
theorem dX4_regain_30 : decode cX4_regain 30 = .ok (.getfield 21, 3) := by decide +kernel
theorem dX4_regain_33 : decode cX4_regain 33 = .ok (.iload_n 3, 1) := by decide +kernel
theorem dX4_regain_34 : decode cX4_regain 34 = .ok (.invokestatic 27, 3) := by decide +kernel
theorem dX4_regain_37 : decode cX4_regain 37 = .ok (.putfield 21, 3) := by decide +kernel
theorem dX4_regain_40 : decode cX4_regain 40 = .ok (.goto 71, 3) := by decide +kernel
theorem dX4_regain_43 : decode cX4_regain 43 = .ok (.aload_n 0, 1) := by decide +kernel
theorem dX4_regain_44 : decode cX4_regain 44 = .ok (.bipush 99, 2) := by decide +kernel
theorem dX4_regain_46 : decode cX4_regain 46 = .ok (.aload_n 0, 1) := by decide +kernel
theorem dX4_regain_47 : decode cX4_regain 47 = .ok (.getfield 18, 3) := by decide +kernel
theorem dX4_regain_50 : decode cX4_regain 50 = .ok (.iload_n 2, 1) := by decide +kernel
theorem dX4_regain_51 : decode cX4_regain 51 = .ok (.iadd, 1) := by decide +kernel
theorem dX4_regain_52 : decode cX4_regain 52 = .ok (.invokestatic 27, 3) := by decide +kernel
theorem dX4_regain_55 : decode cX4_regain 55 = .ok (.putfield 18, 3) := by decide +kernel
theorem dX4_regain_58 : decode cX4_regain 58 = .ok (.goto 53, 3) := by decide +kernel
theorem dX4_regain_61 : decode cX4_regain 61 = .ok (.aload_n 0, 1) := by decide +kernel
theorem dX4_regain_62 : decode cX4_regain 62 = .ok (.bipush 20, 2) := by decide +kernel
theorem dX4_regain_64 : decode cX4_regain 64 = .ok (.aload_n 0, 1) := by decide +kernel
theorem dX4_regain_65 : decode cX4_regain 65 = .ok (.getfield 15, 3) := by decide +kernel
theorem dX4_regain_68 : decode cX4_regain 68 = .ok (.iload_n 2, 1) := by decide +kernel
theorem dX4_regain_69 : decode cX4_regain 69 = .ok (.iadd, 1) := by decide +kernel
theorem dX4_regain_70 : decode cX4_regain 70 = .ok (.invokestatic 27, 3) := by decide +kernel
theorem dX4_regain_73 : decode cX4_regain 73 = .ok (.putfield 15, 3) := by decide +kernel
theorem dX4_regain_76 : decode cX4_regain 76 = .ok (.aload_n 0, 1) := by decide +kernel
theorem dX4_regain_77 : decode cX4_regain 77 = .ok (.dup, 1) := by decide +kernel
theorem dX4_regain_78 : decode cX4_regain 78 = .ok (.getfield 24, 3) := by decide +kernel
theorem dX4_regain_81 : decode cX4_regain 81 = .ok (.iload_n 2, 1) := by decide +kernel
theorem dX4_regain_82 : decode cX4_regain 82 = .ok (.isub, 1) := by decide +kernel
theorem dX4_regain_83 : decode cX4_regain 83 = .ok (.putfield 24, 3) := by decide +kernel
theorem dX4_regain_86 : decode cX4_regain 86 = .ok (.goto 25, 3) := by decide +kernel
theorem dX4_regain_89 : decode cX4_regain 89 = .ok (.aload_n 0, 1) := by decide +kernel
theorem dX4_regain_90 : decode cX4_regain 90 = .ok (.aload_n 0, 1) := by decide +kernel
theorem dX4_regain_91 : decode cX4_regain 91 = .ok (.getfield 21, 3) := by decide +kernel
theorem dX4_regain_94 : decode cX4_regain 94 = .ok (.iload_n 3, 1) := by decide +kernel
theorem dX4_regain_95 : decode cX4_regain 95 = .ok (.invokestatic 27, 3) := by decide +kernel
theorem dX4_regain_98 : decode cX4_regain 98 = .ok (.putfield 21, 3) := by decide +kernel
theorem dX4_regain_101 : decode cX4_regain 101 = .ok (.aload_n 0, 1) := by decide +kernel
theorem dX4_regain_102 : decode cX4_regain 102 = .ok (.dup, 1) := by decide +kernel
theorem dX4_regain_103 : decode cX4_regain 103 = .ok (.getfield 24, 3) := by decide +kernel
theorem dX4_regain_106 : decode cX4_regain 106 = .ok (.iconst 1, 1) := by decide +kernel
theorem dX4_regain_107 : decode cX4_regain 107 = .ok (.isub, 1) := by decide +kernel
theorem dX4_regain_108 : decode cX4_regain 108 = .ok (.putfield 24, 3) := by decide +kernel
theorem dX4_regain_111 : decode cX4_regain 111 = .ok (.return_, 1) := by decide +kernel
theorem dX5_init_0 : decode cX5_init 0 = .ok (.aload_n 0, 1) := by decide +kernel
theorem dX5_init_1 : decode cX5_init 1 = .ok (.invokespecial 3, 3) := by decide +kernel
theorem dX5_init_4 : decode cX5_init 4 = .ok (.aload_n 0, 1) := by decide +kernel
theorem dX5_init_5 : decode cX5_init 5 = .ok (.iconst 4, 1) := by decide +kernel
theorem dX5_init_6 : decode cX5_init 6 = .ok (.newarray .int, 2) := by decide +kernel
theorem dX5_init_8 : decode cX5_init 8 = .ok (.putfield 9, 3) := by decide +kernel
theorem dX5_init_11 : decode cX5_init 11 = .ok (.aload_n 0, 1) := by decide +kernel
theorem dX5_init_12 : decode cX5_init 12 = .ok (.iconst 4, 1) := by decide +kernel
theorem dX5_init_13 : decode cX5_init 13 = .ok (.newarray .int, 2) := by decide +kernel
theorem dX5_init_15 : decode cX5_init 15 = .ok (.putfield 15, 3) := by decide +kernel
theorem dX5_init_18 : decode cX5_init 18 = .ok (.return_, 1) := by decide +kernel
theorem dX5_search_0 : decode cX5_search 0 = .ok (.aload_n 0, 1) := by decide +kernel
theorem dX5_search_1 : decode cX5_search 1 = .ok (.bipush (-4), 2) := by decide +kernel
theorem dX5_search_3 : decode cX5_search 3 = .ok (.putfield 18, 3) := by decide +kernel
theorem dX5_search_6 : decode cX5_search 6 = .ok (.aload_n 0, 1) := by decide +kernel
theorem dX5_search_7 : decode cX5_search 7 = .ok (.aload_n 1, 1) := by decide +kernel
theorem dX5_search_8 : decode cX5_search 8 = .ok (.getfield 22, 3) := by decide +kernel
theorem dX5_search_11 : decode cX5_search 11 = .ok (.putfield 27, 3) := by decide +kernel
theorem dX5_search_14 : decode cX5_search 14 = .ok (.aload_n 0, 1) := by decide +kernel
theorem dX5_search_15 : decode cX5_search 15 = .ok (.aload_n 1, 1) := by decide +kernel
theorem dX5_search_16 : decode cX5_search 16 = .ok (.iconst 0, 1) := by decide +kernel
theorem dX5_search_17 : decode cX5_search 17 = .ok (.iconst 0, 1) := by decide +kernel
theorem dX5_search_18 : decode cX5_search 18 = .ok (.aload_n 1, 1) := by decide +kernel
theorem dX5_search_19 : decode cX5_search 19 = .ok (.getfield 22, 3) := by decide +kernel
theorem dX5_search_22 : decode cX5_search 22 = .ok (.invokestatic 30, 3) := by decide +kernel
theorem dX5_search_25 : decode cX5_search 25 = .ok (.return_, 1) := by decide +kernel
theorem dX5_suitOf_0 : decode cX5_suitOf 0 = .ok (.iload_n 1, 1) := by decide +kernel
theorem dX5_suitOf_1 : decode cX5_suitOf 1 = .ok (.ifCond .lt 21, 3) := by decide +kernel
theorem dX5_suitOf_4 : decode cX5_suitOf 4 = .ok (.iload_n 1, 1) := by decide +kernel
theorem dX5_suitOf_5 : decode cX5_suitOf 5 = .ok (.aload_n 0, 1) := by decide +kernel
theorem dX5_suitOf_6 : decode cX5_suitOf 6 = .ok (.getfield 15, 3) := by decide +kernel
theorem dX5_suitOf_9 : decode cX5_suitOf 9 = .ok (.arraylength, 1) := by decide +kernel
theorem dX5_suitOf_10 : decode cX5_suitOf 10 = .ok (.if_icmp .ge 12, 3) := by decide +kernel
theorem dX5_suitOf_13 : decode cX5_suitOf 13 = .ok (.aload_n 0, 1) := by decide +kernel
theorem dX5_suitOf_14 : decode cX5_suitOf 14 = .ok (.getfield 15, 3) := by decide +kernel
theorem dX5_suitOf_17 : decode cX5_suitOf 17 = .ok (.iload_n 1, 1) := by decide +kernel
theorem dX5_suitOf_18 : decode cX5_suitOf 18 = .ok (.iaload, 1) := by decide +kernel
theorem dX5_suitOf_19 : decode cX5_suitOf 19 = .ok (.goto 5, 3) := by decide +kernel
theorem dX5_suitOf_22 : decode cX5_suitOf 22 = .ok (.bipush (-4), 2) := by decide +kernel
theorem dX5_suitOf_24 : decode cX5_suitOf 24 = .ok (.ireturn, 1) := by decide +kernel
theorem dX5_choose_0 : decode cX5_choose 0 = .ok (.aload_n 1, 1) := by decide +kernel
theorem dX5_choose_1 : decode cX5_choose 1 = .ok (.iload_n 2, 1) := by decide +kernel
theorem dX5_choose_2 : decode cX5_choose 2 = .ok (.invokevirtual 34, 3) := by decide +kernel
theorem dX5_choose_5 : decode cX5_choose 5 = .ok (.astore 5, 2) := by decide +kernel
theorem dX5_choose_7 : decode cX5_choose 7 = .ok (.aload 5, 2) := by decide +kernel
theorem dX5_choose_9 : decode cX5_choose 9 = .ok (.ifnull 16, 3) := by decide +kernel
theorem dX5_choose_12 : decode cX5_choose 12 = .ok (.iload_n 2, 1) := by decide +kernel
theorem dX5_choose_13 : decode cX5_choose 13 = .ok (.ifCond .lt 12, 3) := by decide +kernel
theorem dX5_choose_16 : decode cX5_choose 16 = .ok (.iload_n 2, 1) := by decide +kernel
theorem dX5_choose_17 : decode cX5_choose 17 = .ok (.aload_n 0, 1) := by decide +kernel
theorem dX5_choose_18 : decode cX5_choose 18 = .ok (.getfield 9, 3) := by decide +kernel
theorem dX5_choose_21 : decode cX5_choose 21 = .ok (.arraylength, 1) := by decide +kernel
theorem dX5_choose_22 : decode cX5_choose 22 = .ok (.if_icmp .lt 14, 3) := by decide +kernel
theorem dX5_choose_25 : decode cX5_choose 25 = .ok (.aload_n 0, 1) := by decide +kernel
theorem dX5_choose_26 : decode cX5_choose 26 = .ok (.iload_n 3, 1) := by decide +kernel
theorem dX5_choose_27 : decode cX5_choose 27 = .ok (.invokestatic 38, 3) := by decide +kernel
theorem dX5_choose_30 : decode cX5_choose 30 = .ok (.iload 4, 2) := by decide +kernel
theorem dX5_choose_32 : decode cX5_choose 32 = .ok (.invokevirtual 44, 3) := by decide +kernel
theorem dX5_choose_35 : decode cX5_choose 35 = .ok (.return_, 1) := by decide +kernel
theorem dX5_choose_36 : decode cX5_choose 36 = .ok (.iconst 0, 1) := by decide +kernel
theorem dX5_choose_37 : decode cX5_choose 37 = .ok (.istore 6, 2) := by decide +kernel
theorem dX5_choose_39 : decode cX5_choose 39 = .ok (.iload 6, 2) := by decide +kernel
theorem dX5_choose_41 : decode cX5_choose 41 = .ok (.aload_n 1, 1) := by decide +kernel
theorem dX5_choose_42 : decode cX5_choose 42 = .ok (.getfield 48, 3) := by decide +kernel
theorem dX5_choose_45 : decode cX5_choose 45 = .ok (.if_icmp .ge 79, 3) := by decide +kernel
theorem dX5_choose_48 : decode cX5_choose 48 = .ok (.aload_n 1, 1) := by decide +kernel
theorem dX5_choose_49 : decode cX5_choose 49 = .ok (.iload 6, 2) := by decide +kernel
theorem dX5_choose_51 : decode cX5_choose 51 = .ok (.invokevirtual 51, 3) := by decide +kernel
theorem dX5_choose_54 : decode cX5_choose 54 = .ok (.astore 7, 2) := by decide +kernel
theorem dX5_choose_56 : decode cX5_choose 56 = .ok (.aload 7, 2) := by decide +kernel
theorem dX5_choose_58 : decode cX5_choose 58 = .ok (.ifnull 60, 3) := by decide +kernel
theorem dX5_choose_61 : decode cX5_choose 61 = .ok (.iload_n 3, 1) := by decide +kernel
theorem dX5_choose_62 : decode cX5_choose 62 = .ok (.iload 6, 2) := by decide +kernel
theorem dX5_choose_64 : decode cX5_choose 64 = .ok (.ishr, 1) := by decide +kernel
theorem dX5_choose_65 : decode cX5_choose 65 = .ok (.iconst 1, 1) := by decide +kernel
theorem dX5_choose_66 : decode cX5_choose 66 = .ok (.iand, 1) := by decide +kernel
theorem dX5_choose_67 : decode cX5_choose 67 = .ok (.ifCond .ne 51, 3) := by decide +kernel
theorem dX5_choose_70 : decode cX5_choose 70 = .ok (.aload_n 1, 1) := by decide +kernel
theorem dX5_choose_71 : decode cX5_choose 71 = .ok (.aload 7, 2) := by decide +kernel
theorem dX5_choose_73 : decode cX5_choose 73 = .ok (.aload 5, 2) := by decide +kernel
theorem dX5_choose_75 : decode cX5_choose 75 = .ok (.aload 7, 2) := by decide +kernel
theorem dX5_choose_77 : decode cX5_choose 77 = .ok (.getfield 55, 3) := by decide +kernel
theorem dX5_choose_80 : decode cX5_choose 80 = .ok (.invokevirtual 60, 3) := by decide +kernel
theorem dX5_choose_83 : decode cX5_choose 83 = .ok (.ifCond .eq 35, 3) := by decide +kernel
theorem dX5_choose_86 : decode cX5_choose 86 = .ok (.aload_n 0, 1) := by decide +kernel
theorem dX5_choose_87 : decode cX5_choose 87 = .ok (.getfield 9, 3) := by decide +kernel
theorem dX5_choose_90 : decode cX5_choose 90 = .ok (.iload_n 2, 1) := by decide +kernel
theorem dX5_choose_91 : decode cX5_choose 91 = .ok (.iload 6, 2) := by decide +kernel
theorem dX5_choose_93 : decode cX5_choose 93 = .ok (.iastore, 1) := by decide +kernel
theorem dX5_choose_94 : decode cX5_choose 94 = .ok (.aload_n 0, 1) := by decide +kernel
theorem dX5_choose_95 : decode cX5_choose 95 = .ok (.aload_n 1, 1) := by decide +kernel
theorem dX5_choose_96 : decode cX5_choose 96 = .ok (.iload_n 2, 1) := by decide +kernel
theorem dX5_choose_97 : decode cX5_choose 97 = .ok (.iconst 1, 1) := by decide +kernel
theorem dX5_choose_98 : decode cX5_choose 98 = .ok (.iadd, 1) := by decide +kernel
theorem dX5_choose_99 : decode cX5_choose 99 = .ok (.iload_n 3, 1) := by decide +kernel
theorem dX5_choose_100 : decode cX5_choose 100 = .ok (.iconst 1, 1) := by decide +kernel
theorem dX5_choose_101 : decode cX5_choose 101 = .ok (.iload 6, 2) := by decide +kernel
theorem dX5_choose_103 : decode cX5_choose 103 = .ok (.ishl, 1) := by decide +kernel
theorem dX5_choose_104 : decode cX5_choose 104 = .ok (.ior, 1) := by decide +kernel
theorem dX5_choose_105 : decode cX5_choose 105 = .ok (.iload 4, 2) := by decide +kernel
theorem dX5_choose_107 : decode cX5_choose 107 = .ok (.aload 7, 2) := by decide +kernel
theorem dX5_choose_109 : decode cX5_choose 109 = .ok (.getfield 55, 3) := by decide +kernel
theorem dX5_choose_112 : decode cX5_choose 112 = .ok (.invokestatic 64, 3) := by decide +kernel
theorem dX5_choose_115 : decode cX5_choose 115 = .ok (.invokestatic 30, 3) := by decide +kernel
theorem dX5_choose_118 : decode cX5_choose 118 = .ok (.iinc 6 1, 3) := by decide +kernel
theorem dX5_choose_121 : decode cX5_choose 121 = .ok (.goto (-82), 3) := by decide +kernel
theorem dX5_choose_124 : decode cX5_choose 124 = .ok (.aload_n 0, 1) := by decide +kernel
theorem dX5_choose_125 : decode cX5_choose 125 = .ok (.getfield 9, 3) := by decide +kernel
theorem dX5_choose_128 : decode cX5_choose 128 = .ok (.iload_n 2, 1) := by decide +kernel
theorem dX5_choose_129 : decode cX5_choose 129 = .ok (.bipush (-4), 2) := by decide +kernel
theorem dX5_choose_131 : decode cX5_choose 131 = .ok (.iastore, 1) := by decide +kernel
theorem dX5_choose_132 : decode cX5_choose 132 = .ok (.aload_n 0, 1) := by decide +kernel
theorem dX5_choose_133 : decode cX5_choose 133 = .ok (.aload_n 1, 1) := by decide +kernel
theorem dX5_choose_134 : decode cX5_choose 134 = .ok (.iload_n 2, 1) := by decide +kernel
theorem dX5_choose_135 : decode cX5_choose 135 = .ok (.iconst 1, 1) := by decide +kernel
theorem dX5_choose_136 : decode cX5_choose 136 = .ok (.iadd, 1) := by decide +kernel
theorem dX5_choose_137 : decode cX5_choose 137 = .ok (.iload_n 3, 1) := by decide +kernel
theorem dX5_choose_138 : decode cX5_choose 138 = .ok (.iload 4, 2) := by decide +kernel
theorem dX5_choose_140 : decode cX5_choose 140 = .ok (.invokestatic 30, 3) := by decide +kernel
theorem dX5_choose_143 : decode cX5_choose 143 = .ok (.return_, 1) := by decide +kernel
theorem dX5_weigh_0 : decode cX5_weigh 0 = .ok (.iload_n 1, 1) := by decide +kernel
theorem dX5_weigh_1 : decode cX5_weigh 1 = .ok (.aload_n 0, 1) := by decide +kernel
theorem dX5_weigh_2 : decode cX5_weigh 2 = .ok (.getfield 18, 3) := by decide +kernel
theorem dX5_weigh_5 : decode cX5_weigh 5 = .ok (.if_icmp .gt 19, 3) := by decide +kernel
theorem dX5_weigh_8 : decode cX5_weigh 8 = .ok (.iload_n 1, 1) := by decide +kernel
theorem dX5_weigh_9 : decode cX5_weigh 9 = .ok (.aload_n 0, 1) := by decide +kernel
theorem dX5_weigh_10 : decode cX5_weigh 10 = .ok (.getfield 18, 3) := by decide +kernel
theorem dX5_weigh_13 : decode cX5_weigh 13 = .ok (.if_icmp .ne 59, 3) := by decide +kernel
theorem dX5_weigh_16 : decode cX5_weigh 16 = .ok (.iload_n 2, 1) := by decide +kernel
theorem dX5_weigh_17 : decode cX5_weigh 17 = .ok (.aload_n 0, 1) := by decide +kernel
theorem dX5_weigh_18 : decode cX5_weigh 18 = .ok (.getfield 27, 3) := by decide +kernel
theorem dX5_weigh_21 : decode cX5_weigh 21 = .ok (.if_icmp .ge 51, 3) := by decide +kernel
theorem dX5_weigh_24 : decode cX5_weigh 24 = .ok (.aload_n 0, 1) := by decide +kernel
theorem dX5_weigh_25 : decode cX5_weigh 25 = .ok (.iload_n 1, 1) := by decide +kernel
theorem dX5_weigh_26 : decode cX5_weigh 26 = .ok (.putfield 18, 3) := by decide +kernel
theorem dX5_weigh_29 : decode cX5_weigh 29 = .ok (.aload_n 0, 1) := by decide +kernel
theorem dX5_weigh_30 : decode cX5_weigh 30 = .ok (.iload_n 2, 1) := by decide +kernel
theorem dX5_weigh_31 : decode cX5_weigh 31 = .ok (.putfield 27, 3) := by decide +kernel
theorem dX5_weigh_34 : decode cX5_weigh 34 = .ok (.iconst 0, 1) := by decide +kernel
theorem dX5_weigh_35 : decode cX5_weigh 35 = .ok (.istore_n 3, 1) := by decide +kernel
theorem dX5_weigh_36 : decode cX5_weigh 36 = .ok (.iload_n 3, 1) := by decide +kernel
theorem dX5_weigh_37 : decode cX5_weigh 37 = .ok (.aload_n 0, 1) := by decide +kernel
theorem dX5_weigh_38 : decode cX5_weigh 38 = .ok (.getfield 9, 3) := by decide +kernel
theorem dX5_weigh_41 : decode cX5_weigh 41 = .ok (.arraylength, 1) := by decide +kernel
theorem dX5_weigh_42 : decode cX5_weigh 42 = .ok (.if_icmp .ge 30, 3) := by decide +kernel
theorem dX5_weigh_45 : decode cX5_weigh 45 = .ok (.iload_n 3, 1) := by decide +kernel
theorem dX5_weigh_46 : decode cX5_weigh 46 = .ok (.aload_n 0, 1) := by decide +kernel
theorem dX5_weigh_47 : decode cX5_weigh 47 = .ok (.getfield 15, 3) := by decide +kernel
theorem dX5_weigh_50 : decode cX5_weigh 50 = .ok (.arraylength, 1) := by decide +kernel
theorem dX5_weigh_51 : decode cX5_weigh 51 = .ok (.if_icmp .ge 21, 3) := by decide +kernel
theorem dX5_weigh_54 : decode cX5_weigh 54 = .ok (.aload_n 0, 1) := by decide +kernel
theorem dX5_weigh_55 : decode cX5_weigh 55 = .ok (.getfield 15, 3) := by decide +kernel
theorem dX5_weigh_58 : decode cX5_weigh 58 = .ok (.iload_n 3, 1) := by decide +kernel
theorem dX5_weigh_59 : decode cX5_weigh 59 = .ok (.aload_n 0, 1) := by decide +kernel
theorem dX5_weigh_60 : decode cX5_weigh 60 = .ok (.getfield 9, 3) := by decide +kernel
theorem dX5_weigh_63 : decode cX5_weigh 63 = .ok (.iload_n 3, 1) := by decide +kernel
theorem dX5_weigh_64 : decode cX5_weigh 64 = .ok (.iaload, 1) := by decide +kernel
theorem dX5_weigh_65 : decode cX5_weigh 65 = .ok (.iastore, 1) := by decide +kernel
theorem dX5_weigh_66 : decode cX5_weigh 66 = .ok (.iinc 3 1, 3) := by decide +kernel
theorem dX5_weigh_69 : decode cX5_weigh 69 = .ok (.goto (-33), 3) := by decide +kernel
theorem dX5_weigh_72 : decode cX5_weigh 72 = .ok (.return_, 1) := by decide +kernel
theorem dX6_init_0 : decode cX6_init 0 = .ok (.aload_n 0, 1) := by decide +kernel
theorem dX6_init_1 : decode cX6_init 1 = .ok (.invokespecial 3, 3) := by decide +kernel
theorem dX6_init_4 : decode cX6_init 4 = .ok (.aload_n 0, 1) := by decide +kernel
theorem dX6_init_5 : decode cX6_init 5 = .ok (.bipush 40, 2) := by decide +kernel
theorem dX6_init_7 : decode cX6_init 7 = .ok (.newarray .int, 2) := by decide +kernel
theorem dX6_init_9 : decode cX6_init 9 = .ok (.putfield 9, 3) := by decide +kernel
theorem dX6_init_12 : decode cX6_init 12 = .ok (.aload_n 0, 1) := by decide +kernel
theorem dX6_init_13 : decode cX6_init 13 = .ok (.iconst 0, 1) := by decide +kernel
theorem dX6_init_14 : decode cX6_init 14 = .ok (.putfield 15, 3) := by decide +kernel
theorem dX6_init_17 : decode cX6_init 17 = .ok (.return_, 1) := by decide +kernel
theorem dX6_begin_0 : decode cX6_begin 0 = .ok (.aload_n 0, 1) := by decide +kernel
theorem dX6_begin_1 : decode cX6_begin 1 = .ok (.iconst 1, 1) := by decide +kernel
theorem dX6_begin_2 : decode cX6_begin 2 = .ok (.putfield 15, 3) := by decide +kernel
theorem dX6_begin_5 : decode cX6_begin 5 = .ok (.aload_n 0, 1) := by decide +kernel
theorem dX6_begin_6 : decode cX6_begin 6 = .ok (.iload_n 1, 1) := by decide +kernel
theorem dX6_begin_7 : decode cX6_begin 7 = .ok (.putfield 19, 3) := by decide +kernel
theorem dX6_begin_10 : decode cX6_begin 10 = .ok (.aload_n 0, 1) := by decide +kernel
theorem dX6_begin_11 : decode cX6_begin 11 = .ok (.iload_n 2, 1) := by decide +kernel
theorem dX6_begin_12 : decode cX6_begin 12 = .ok (.putfield 23, 3) := by decide +kernel
theorem dX6_begin_15 : decode cX6_begin 15 = .ok (.iconst 0, 1) := by decide +kernel
theorem dX6_begin_16 : decode cX6_begin 16 = .ok (.istore_n 3, 1) := by decide +kernel
theorem dX6_begin_17 : decode cX6_begin 17 = .ok (.iload_n 3, 1) := by decide +kernel
theorem dX6_begin_18 : decode cX6_begin 18 = .ok (.aload_n 0, 1) := by decide +kernel
theorem dX6_begin_19 : decode cX6_begin 19 = .ok (.getfield 9, 3) := by decide +kernel
theorem dX6_begin_22 : decode cX6_begin 22 = .ok (.arraylength, 1) := by decide +kernel
theorem dX6_begin_23 : decode cX6_begin 23 = .ok (.if_icmp .ge 16, 3) := by decide +kernel
theorem dX6_begin_26 : decode cX6_begin 26 = .ok (.aload_n 0, 1) := by decide +kernel
theorem dX6_begin_27 : decode cX6_begin 27 = .ok (.getfield 9, 3) := by decide +kernel
theorem dX6_begin_30 : decode cX6_begin 30 = .ok (.iload_n 3, 1) := by decide +kernel
theorem dX6_begin_31 : decode cX6_begin 31 = .ok (.iconst 0, 1) := by decide +kernel
theorem dX6_begin_32 : decode cX6_begin 32 = .ok (.iastore, 1) := by decide +kernel
theorem dX6_begin_33 : decode cX6_begin 33 = .ok (.iinc 3 1, 3) := by decide +kernel
theorem dX6_begin_36 : decode cX6_begin 36 = .ok (.goto (-19), 3) := by decide +kernel
theorem dX6_begin_39 : decode cX6_begin 39 = .ok (.return_, 1) := by decide +kernel
theorem dX6_put_0 : decode cX6_put 0 = .ok (.aload_n 0, 1) := by decide +kernel
theorem dX6_put_1 : decode cX6_put 1 = .ok (.getfield 15, 3) := by decide +kernel
theorem dX6_put_4 : decode cX6_put 4 = .ok (.ifCond .ne 5, 3) := by decide +kernel
theorem dX6_put_7 : decode cX6_put 7 = .ok (.iconst 1, 1) := by decide +kernel
theorem dX6_put_8 : decode cX6_put 8 = .ok (.ireturn, 1) := by decide +kernel
theorem dX6_put_9 : decode cX6_put 9 = .ok (.iload_n 1, 1) := by decide +kernel
theorem dX6_put_10 : decode cX6_put 10 = .ok (.ifCond .lt 20, 3) := by decide +kernel
theorem dX6_put_13 : decode cX6_put 13 = .ok (.iload_n 1, 1) := by decide +kernel
theorem dX6_put_14 : decode cX6_put 14 = .ok (.aload_n 0, 1) := by decide +kernel
theorem dX6_put_15 : decode cX6_put 15 = .ok (.getfield 23, 3) := by decide +kernel
theorem dX6_put_18 : decode cX6_put 18 = .ok (.if_icmp .ge 12, 3) := by decide +kernel
theorem dX6_put_21 : decode cX6_put 21 = .ok (.iload_n 1, 1) := by decide +kernel
theorem dX6_put_22 : decode cX6_put 22 = .ok (.aload_n 0, 1) := by decide +kernel
theorem dX6_put_23 : decode cX6_put 23 = .ok (.getfield 9, 3) := by decide +kernel
theorem dX6_put_26 : decode cX6_put 26 = .ok (.arraylength, 1) := by decide +kernel
theorem dX6_put_27 : decode cX6_put 27 = .ok (.if_icmp .lt 5, 3) := by decide +kernel
theorem dX6_put_30 : decode cX6_put 30 = .ok (.iconst 2, 1) := by decide +kernel
theorem dX6_put_31 : decode cX6_put 31 = .ok (.ireturn, 1) := by decide +kernel
theorem dX6_put_32 : decode cX6_put 32 = .ok (.aload_n 0, 1) := by decide +kernel
theorem dX6_put_33 : decode cX6_put 33 = .ok (.getfield 9, 3) := by decide +kernel
theorem dX6_put_36 : decode cX6_put 36 = .ok (.iload_n 1, 1) := by decide +kernel
theorem dX6_put_37 : decode cX6_put 37 = .ok (.aload_n 0, 1) := by decide +kernel
theorem dX6_put_38 : decode cX6_put 38 = .ok (.getfield 19, 3) := by decide +kernel
theorem dX6_put_41 : decode cX6_put 41 = .ok (.ifCond .ne 8, 3) := by decide +kernel
theorem dX6_put_44 : decode cX6_put 44 = .ok (.iload_n 2, 1) := by decide +kernel
theorem dX6_put_45 : decode cX6_put 45 = .ok (.i2b, 1) := by decide +kernel
theorem dX6_put_46 : decode cX6_put 46 = .ok (.goto 17, 3) := by decide +kernel
theorem dX6_put_49 : decode cX6_put 49 = .ok (.aload_n 0, 1) := by decide +kernel
theorem dX6_put_50 : decode cX6_put 50 = .ok (.getfield 19, 3) := by decide +kernel
theorem dX6_put_53 : decode cX6_put 53 = .ok (.iconst 1, 1) := by decide +kernel
theorem dX6_put_54 : decode cX6_put 54 = .ok (.if_icmp .ne 8, 3) := by decide +kernel
theorem dX6_put_57 : decode cX6_put 57 = .ok (.iload_n 2, 1) := by decide +kernel
theorem dX6_put_58 : decode cX6_put 58 = .ok (.i2s, 1) := by decide +kernel
theorem dX6_put_59 : decode cX6_put 59 = .ok (.goto 4, 3) := by decide +kernel
theorem dX6_put_62 : decode cX6_put 62 = .ok (.iload_n 2, 1) := by decide +kernel
theorem dX6_put_63 : decode cX6_put 63 = .ok (.iastore, 1) := by decide +kernel
theorem dX6_put_64 : decode cX6_put 64 = .ok (.iconst 0, 1) := by decide +kernel
theorem dX6_put_65 : decode cX6_put 65 = .ok (.ireturn, 1) := by decide +kernel
theorem dX6_cell_0 : decode cX6_cell 0 = .ok (.iload_n 1, 1) := by decide +kernel
theorem dX6_cell_1 : decode cX6_cell 1 = .ok (.ifCond .lt 29, 3) := by decide +kernel
theorem dX6_cell_4 : decode cX6_cell 4 = .ok (.iload_n 1, 1) := by decide +kernel
theorem dX6_cell_5 : decode cX6_cell 5 = .ok (.aload_n 0, 1) := by decide +kernel
theorem dX6_cell_6 : decode cX6_cell 6 = .ok (.getfield 23, 3) := by decide +kernel
theorem dX6_cell_9 : decode cX6_cell 9 = .ok (.if_icmp .ge 21, 3) := by decide +kernel
theorem dX6_cell_12 : decode cX6_cell 12 = .ok (.iload_n 1, 1) := by decide +kernel
theorem dX6_cell_13 : decode cX6_cell 13 = .ok (.aload_n 0, 1) := by decide +kernel
theorem dX6_cell_14 : decode cX6_cell 14 = .ok (.getfield 9, 3) := by decide +kernel
theorem dX6_cell_17 : decode cX6_cell 17 = .ok (.arraylength, 1) := by decide +kernel
theorem dX6_cell_18 : decode cX6_cell 18 = .ok (.if_icmp .ge 12, 3) := by decide +kernel
theorem dX6_cell_21 : decode cX6_cell 21 = .ok (.aload_n 0, 1) := by decide +kernel
theorem dX6_cell_22 : decode cX6_cell 22 = .ok (.getfield 9, 3) := by decide +kernel
theorem dX6_cell_25 : decode cX6_cell 25 = .ok (.iload_n 1, 1) := by decide +kernel
theorem dX6_cell_26 : decode cX6_cell 26 = .ok (.iaload, 1) := by decide +kernel
theorem dX6_cell_27 : decode cX6_cell 27 = .ok (.goto 4, 3) := by decide +kernel
theorem dX6_cell_30 : decode cX6_cell 30 = .ok (.iconst 0, 1) := by decide +kernel
theorem dX6_cell_31 : decode cX6_cell 31 = .ok (.ireturn, 1) := by decide +kernel
theorem dX6_faultTakenAs_0 : decode cX6_faultTakenAs 0 = .ok (.aload_n 0, 1) := by decide +kernel
theorem dX6_faultTakenAs_1 : decode cX6_faultTakenAs 1 = .ok (.getfield 15, 3) := by decide +kernel
theorem dX6_faultTakenAs_4 : decode cX6_faultTakenAs 4 = .ok (.ifCond .ne 5, 3) := by decide +kernel
theorem dX6_faultTakenAs_7 : decode cX6_faultTakenAs 7 = .ok (.iconst 1, 1) := by decide +kernel
theorem dX6_faultTakenAs_8 : decode cX6_faultTakenAs 8 = .ok (.ireturn, 1) := by decide +kernel
theorem dX6_faultTakenAs_9 : decode cX6_faultTakenAs 9 = .ok (.aload_n 0, 1) := by decide +kernel
theorem dX6_faultTakenAs_10 : decode cX6_faultTakenAs 10 = .ok (.getfield 19, 3) := by decide +kernel
theorem dX6_faultTakenAs_13 : decode cX6_faultTakenAs 13 = .ok (.iload_n 1, 1) := by decide +kernel
theorem dX6_faultTakenAs_14 : decode cX6_faultTakenAs 14 = .ok (.if_icmp .ne 7, 3) := by decide +kernel
theorem dX6_faultTakenAs_17 : decode cX6_faultTakenAs 17 = .ok (.iconst 0, 1) := by decide +kernel
theorem dX6_faultTakenAs_18 : decode cX6_faultTakenAs 18 = .ok (.goto 4, 3) := by decide +kernel
theorem dX6_faultTakenAs_21 : decode cX6_faultTakenAs 21 = .ok (.iconst 3, 1) := by decide +kernel
theorem dX6_faultTakenAs_22 : decode cX6_faultTakenAs 22 = .ok (.ireturn, 1) := by decide +kernel
theorem dX7_init_0 : decode cX7_init 0 = .ok (.aload_n 0, 1) := by decide +kernel
theorem dX7_init_1 : decode cX7_init 1 = .ok (.invokespecial 1, 3) := by decide +kernel
theorem dX7_init_4 : decode cX7_init 4 = .ok (.return_, 1) := by decide +kernel
theorem dX7_begin_0 : decode cX7_begin 0 = .ok (.aload_n 0, 1) := by decide +kernel
theorem dX7_begin_1 : decode cX7_begin 1 = .ok (.iload_n 1, 1) := by decide +kernel
theorem dX7_begin_2 : decode cX7_begin 2 = .ok (.putfield 7, 3) := by decide +kernel
theorem dX7_begin_5 : decode cX7_begin 5 = .ok (.aload_n 0, 1) := by decide +kernel
theorem dX7_begin_6 : decode cX7_begin 6 = .ok (.iload_n 2, 1) := by decide +kernel
theorem dX7_begin_7 : decode cX7_begin 7 = .ok (.putfield 13, 3) := by decide +kernel
theorem dX7_begin_10 : decode cX7_begin 10 = .ok (.aload_n 0, 1) := by decide +kernel
theorem dX7_begin_11 : decode cX7_begin 11 = .ok (.iload_n 3, 1) := by decide +kernel
theorem dX7_begin_12 : decode cX7_begin 12 = .ok (.putfield 16, 3) := by decide +kernel
theorem dX7_begin_15 : decode cX7_begin 15 = .ok (.return_, 1) := by decide +kernel
theorem dX8_init_0 : decode cX8_init 0 = .ok (.aload_n 0, 1) := by decide +kernel
theorem dX8_init_1 : decode cX8_init 1 = .ok (.invokespecial 3, 3) := by decide +kernel
theorem dX8_init_4 : decode cX8_init 4 = .ok (.return_, 1) := by decide +kernel
theorem dX8_begin_0 : decode cX8_begin 0 = .ok (.aload_n 0, 1) := by decide +kernel
theorem dX8_begin_1 : decode cX8_begin 1 = .ok (.iload_n 1, 1) := by decide +kernel
theorem dX8_begin_2 : decode cX8_begin 2 = .ok (.putfield 9, 3) := by decide +kernel
theorem dX8_begin_5 : decode cX8_begin 5 = .ok (.aload_n 0, 1) := by decide +kernel
theorem dX8_begin_6 : decode cX8_begin 6 = .ok (.iload_n 2, 1) := by decide +kernel
theorem dX8_begin_7 : decode cX8_begin 7 = .ok (.putfield 15, 3) := by decide +kernel
theorem dX8_begin_10 : decode cX8_begin 10 = .ok (.aload_n 0, 1) := by decide +kernel
theorem dX8_begin_11 : decode cX8_begin 11 = .ok (.iload_n 3, 1) := by decide +kernel
theorem dX8_begin_12 : decode cX8_begin 12 = .ok (.putfield 18, 3) := by decide +kernel
theorem dX8_begin_15 : decode cX8_begin 15 = .ok (.aload_n 0, 1) := by decide +kernel
theorem dX8_begin_16 : decode cX8_begin 16 = .ok (.iload 4, 2) := by decide +kernel
theorem dX8_begin_18 : decode cX8_begin 18 = .ok (.putfield 21, 3) := by decide +kernel
theorem dX8_begin_21 : decode cX8_begin 21 = .ok (.aload_n 0, 1) := by decide +kernel
theorem dX8_begin_22 : decode cX8_begin 22 = .ok (.iconst 0, 1) := by decide +kernel
theorem dX8_begin_23 : decode cX8_begin 23 = .ok (.bipush (-4), 2) := by decide +kernel
theorem dX8_begin_25 : decode cX8_begin 25 = .ok (.iconst 0, 1) := by decide +kernel
theorem dX8_begin_26 : decode cX8_begin 26 = .ok (.invokevirtual 24, 3) := by decide +kernel
theorem dX8_begin_29 : decode cX8_begin 29 = .ok (.return_, 1) := by decide +kernel
theorem dX8_close_0 : decode cX8_close 0 = .ok (.aload_n 0, 1) := by decide +kernel
theorem dX8_close_1 : decode cX8_close 1 = .ok (.iload_n 1, 1) := by decide +kernel
theorem dX8_close_2 : decode cX8_close 2 = .ok (.putfield 28, 3) := by decide +kernel
theorem dX8_close_5 : decode cX8_close 5 = .ok (.aload_n 0, 1) := by decide +kernel
theorem dX8_close_6 : decode cX8_close 6 = .ok (.iload_n 2, 1) := by decide +kernel
theorem dX8_close_7 : decode cX8_close 7 = .ok (.putfield 31, 3) := by decide +kernel
theorem dX8_close_10 : decode cX8_close 10 = .ok (.aload_n 0, 1) := by decide +kernel
theorem dX8_close_11 : decode cX8_close 11 = .ok (.iload_n 3, 1) := by decide +kernel
theorem dX8_close_12 : decode cX8_close 12 = .ok (.putfield 34, 3) := by decide +kernel
theorem dX8_close_15 : decode cX8_close 15 = .ok (.return_, 1) := by decide +kernel
theorem dX8_copy_0 : decode cX8_copy 0 = .ok (.aload_n 0, 1) := by decide +kernel
theorem dX8_copy_1 : decode cX8_copy 1 = .ok (.aload_n 1, 1) := by decide +kernel
theorem dX8_copy_2 : decode cX8_copy 2 = .ok (.getfield 9, 3) := by decide +kernel
theorem dX8_copy_5 : decode cX8_copy 5 = .ok (.putfield 9, 3) := by decide +kernel
theorem dX8_copy_8 : decode cX8_copy 8 = .ok (.aload_n 0, 1) := by decide +kernel
theorem dX8_copy_9 : decode cX8_copy 9 = .ok (.aload_n 1, 1) := by decide +kernel
theorem dX8_copy_10 : decode cX8_copy 10 = .ok (.getfield 15, 3) := by decide +kernel
theorem dX8_copy_13 : decode cX8_copy 13 = .ok (.putfield 15, 3) := by decide +kernel
theorem dX8_copy_16 : decode cX8_copy 16 = .ok (.aload_n 0, 1) := by decide +kernel
theorem dX8_copy_17 : decode cX8_copy 17 = .ok (.aload_n 1, 1) := by decide +kernel
theorem dX8_copy_18 : decode cX8_copy 18 = .ok (.getfield 18, 3) := by decide +kernel
theorem dX8_copy_21 : decode cX8_copy 21 = .ok (.putfield 18, 3) := by decide +kernel
theorem dX8_copy_24 : decode cX8_copy 24 = .ok (.aload_n 0, 1) := by decide +kernel
theorem dX8_copy_25 : decode cX8_copy 25 = .ok (.aload_n 1, 1) := by decide +kernel
theorem dX8_copy_26 : decode cX8_copy 26 = .ok (.getfield 21, 3) := by decide +kernel
theorem dX8_copy_29 : decode cX8_copy 29 = .ok (.putfield 21, 3) := by decide +kernel
theorem dX8_copy_32 : decode cX8_copy 32 = .ok (.aload_n 0, 1) := by decide +kernel
theorem dX8_copy_33 : decode cX8_copy 33 = .ok (.aload_n 1, 1) := by decide +kernel
theorem dX8_copy_34 : decode cX8_copy 34 = .ok (.getfield 28, 3) := by decide +kernel
theorem dX8_copy_37 : decode cX8_copy 37 = .ok (.aload_n 1, 1) := by decide +kernel
theorem dX8_copy_38 : decode cX8_copy 38 = .ok (.getfield 31, 3) := by decide +kernel
theorem dX8_copy_41 : decode cX8_copy 41 = .ok (.aload_n 1, 1) := by decide +kernel
theorem dX8_copy_42 : decode cX8_copy 42 = .ok (.getfield 34, 3) := by decide +kernel
theorem dX8_copy_45 : decode cX8_copy 45 = .ok (.invokevirtual 24, 3) := by decide +kernel
theorem dX8_copy_48 : decode cX8_copy 48 = .ok (.return_, 1) := by decide +kernel
theorem dX8_isHeard_0 : decode cX8_isHeard 0 = .ok (.aload_n 0, 1) := by decide +kernel
theorem dX8_isHeard_1 : decode cX8_isHeard 1 = .ok (.getfield 28, 3) := by decide +kernel
theorem dX8_isHeard_4 : decode cX8_isHeard 4 = .ok (.ifCond .le 7, 3) := by decide +kernel
theorem dX8_isHeard_7 : decode cX8_isHeard 7 = .ok (.iconst 1, 1) := by decide +kernel
theorem dX8_isHeard_8 : decode cX8_isHeard 8 = .ok (.goto 4, 3) := by decide +kernel
theorem dX8_isHeard_11 : decode cX8_isHeard 11 = .ok (.iconst 0, 1) := by decide +kernel
theorem dX8_isHeard_12 : decode cX8_isHeard 12 = .ok (.ireturn, 1) := by decide +kernel
theorem dX8_admits_0 : decode cX8_admits 0 = .ok (.iload_n 1, 1) := by decide +kernel
theorem dX8_admits_1 : decode cX8_admits 1 = .ok (.tableswitch 67 0 3 #[31, 38, 48, 59], 31) := by decide +kernel
theorem dX8_admits_32 : decode cX8_admits 32 = .ok (.iload_n 2, 1) := by decide +kernel
theorem dX8_admits_33 : decode cX8_admits 33 = .ok (.iconst 0, 1) := by decide +kernel
theorem dX8_admits_34 : decode cX8_admits 34 = .ok (.iconst 3, 1) := by decide +kernel
theorem dX8_admits_35 : decode cX8_admits 35 = .ok (.invokestatic 37, 3) := by decide +kernel
theorem dX8_admits_38 : decode cX8_admits 38 = .ok (.ireturn, 1) := by decide +kernel
theorem dX8_admits_39 : decode cX8_admits 39 = .ok (.iload_n 2, 1) := by decide +kernel
theorem dX8_admits_40 : decode cX8_admits 40 = .ok (.iconst 1, 1) := by decide +kernel
theorem dX8_admits_41 : decode cX8_admits 41 = .ok (.aload_n 0, 1) := by decide +kernel
theorem dX8_admits_42 : decode cX8_admits 42 = .ok (.getfield 18, 3) := by decide +kernel
theorem dX8_admits_45 : decode cX8_admits 45 = .ok (.invokestatic 37, 3) := by decide +kernel
theorem dX8_admits_48 : decode cX8_admits 48 = .ok (.ireturn, 1) := by decide +kernel
theorem dX8_admits_49 : decode cX8_admits 49 = .ok (.iload_n 2, 1) := by decide +kernel
theorem dX8_admits_50 : decode cX8_admits 50 = .ok (.aload_n 0, 1) := by decide +kernel
theorem dX8_admits_51 : decode cX8_admits 51 = .ok (.getfield 15, 3) := by decide +kernel
theorem dX8_admits_54 : decode cX8_admits 54 = .ok (.bipush 60, 2) := by decide +kernel
theorem dX8_admits_56 : decode cX8_admits 56 = .ok (.invokestatic 37, 3) := by decide +kernel
theorem dX8_admits_59 : decode cX8_admits 59 = .ok (.ireturn, 1) := by decide +kernel
theorem dX8_admits_60 : decode cX8_admits 60 = .ok (.iload_n 2, 1) := by decide +kernel
theorem dX8_admits_61 : decode cX8_admits 61 = .ok (.iconst 0, 1) := by decide +kernel
theorem dX8_admits_62 : decode cX8_admits 62 = .ok (.bipush 20, 2) := by decide +kernel
theorem dX8_admits_64 : decode cX8_admits 64 = .ok (.invokestatic 37, 3) := by decide +kernel
theorem dX8_admits_67 : decode cX8_admits 67 = .ok (.ireturn, 1) := by decide +kernel
theorem dX8_admits_68 : decode cX8_admits 68 = .ok (.iconst 0, 1) := by decide +kernel
theorem dX8_admits_69 : decode cX8_admits 69 = .ok (.ireturn, 1) := by decide +kernel
theorem dX8_replace_0 : decode cX8_replace 0 = .ok (.iload_n 1, 1) := by decide +kernel
theorem dX8_replace_1 : decode cX8_replace 1 = .ok (.tableswitch 66 0 2 #[27, 40, 53], 27) := by decide +kernel
theorem dX8_replace_28 : decode cX8_replace 28 = .ok (.aload_n 0, 1) := by decide +kernel
theorem dX8_replace_29 : decode cX8_replace 29 = .ok (.getfield 9, 3) := by decide +kernel
theorem dX8_replace_32 : decode cX8_replace 32 = .ok (.istore_n 3, 1) := by decide +kernel
theorem dX8_replace_33 : decode cX8_replace 33 = .ok (.aload_n 0, 1) := by decide +kernel
theorem dX8_replace_34 : decode cX8_replace 34 = .ok (.iload_n 2, 1) := by decide +kernel
theorem dX8_replace_35 : decode cX8_replace 35 = .ok (.putfield 9, 3) := by decide +kernel
theorem dX8_replace_38 : decode cX8_replace 38 = .ok (.goto 39, 3) := by decide +kernel
theorem dX8_replace_41 : decode cX8_replace 41 = .ok (.aload_n 0, 1) := by decide +kernel
theorem dX8_replace_42 : decode cX8_replace 42 = .ok (.getfield 15, 3) := by decide +kernel
theorem dX8_replace_45 : decode cX8_replace 45 = .ok (.istore_n 3, 1) := by decide +kernel
theorem dX8_replace_46 : decode cX8_replace 46 = .ok (.aload_n 0, 1) := by decide +kernel
theorem dX8_replace_47 : decode cX8_replace 47 = .ok (.iload_n 2, 1) := by decide +kernel
theorem dX8_replace_48 : decode cX8_replace 48 = .ok (.putfield 15, 3) := by decide +kernel
theorem dX8_replace_51 : decode cX8_replace 51 = .ok (.goto 26, 3) := by decide +kernel
theorem dX8_replace_54 : decode cX8_replace 54 = .ok (.aload_n 0, 1) := by decide +kernel
theorem dX8_replace_55 : decode cX8_replace 55 = .ok (.getfield 18, 3) := by decide +kernel
theorem dX8_replace_58 : decode cX8_replace 58 = .ok (.istore_n 3, 1) := by decide +kernel
theorem dX8_replace_59 : decode cX8_replace 59 = .ok (.aload_n 0, 1) := by decide +kernel
theorem dX8_replace_60 : decode cX8_replace 60 = .ok (.iload_n 2, 1) := by decide +kernel
theorem dX8_replace_61 : decode cX8_replace 61 = .ok (.putfield 18, 3) := by decide +kernel
theorem dX8_replace_64 : decode cX8_replace 64 = .ok (.goto 13, 3) := by decide +kernel
theorem dX8_replace_67 : decode cX8_replace 67 = .ok (.aload_n 0, 1) := by decide +kernel
theorem dX8_replace_68 : decode cX8_replace 68 = .ok (.getfield 21, 3) := by decide +kernel
theorem dX8_replace_71 : decode cX8_replace 71 = .ok (.istore_n 3, 1) := by decide +kernel
theorem dX8_replace_72 : decode cX8_replace 72 = .ok (.aload_n 0, 1) := by decide +kernel
theorem dX8_replace_73 : decode cX8_replace 73 = .ok (.iload_n 2, 1) := by decide +kernel
theorem dX8_replace_74 : decode cX8_replace 74 = .ok (.putfield 21, 3) := by decide +kernel
theorem dX8_replace_77 : decode cX8_replace 77 = .ok (.iload_n 3, 1) := by decide +kernel
theorem dX8_replace_78 : decode cX8_replace 78 = .ok (.ireturn, 1) := by decide +kernel
theorem dX9_init_0 : decode cX9_init 0 = .ok (.aload_n 0, 1) := by decide +kernel
theorem dX9_init_1 : decode cX9_init 1 = .ok (.invokespecial 3, 3) := by decide +kernel
theorem dX9_init_4 : decode cX9_init 4 = .ok (.aload_n 0, 1) := by decide +kernel
theorem dX9_init_5 : decode cX9_init 5 = .ok (.sipush 160, 3) := by decide +kernel
theorem dX9_init_8 : decode cX9_init 8 = .ok (.newarray .byte, 2) := by decide +kernel
theorem dX9_init_10 : decode cX9_init 10 = .ok (.putfield 9, 3) := by decide +kernel
theorem dX9_init_13 : decode cX9_init 13 = .ok (.aload_n 0, 1) := by decide +kernel
theorem dX9_init_14 : decode cX9_init 14 = .ok (.iconst 0, 1) := by decide +kernel
theorem dX9_init_15 : decode cX9_init 15 = .ok (.putfield 15, 3) := by decide +kernel
theorem dX9_init_18 : decode cX9_init 18 = .ok (.aload_n 0, 1) := by decide +kernel
theorem dX9_init_19 : decode cX9_init 19 = .ok (.iconst 0, 1) := by decide +kernel
theorem dX9_init_20 : decode cX9_init 20 = .ok (.putfield 19, 3) := by decide +kernel
theorem dX9_init_23 : decode cX9_init 23 = .ok (.aload_n 0, 1) := by decide +kernel
theorem dX9_init_24 : decode cX9_init 24 = .ok (.iconst 0, 1) := by decide +kernel
theorem dX9_init_25 : decode cX9_init 25 = .ok (.putfield 22, 3) := by decide +kernel
theorem dX9_init_28 : decode cX9_init 28 = .ok (.return_, 1) := by decide +kernel
theorem dX9_append_0 : decode cX9_append 0 = .ok (.aload_n 0, 1) := by decide +kernel
theorem dX9_append_1 : decode cX9_append 1 = .ok (.getfield 15, 3) := by decide +kernel
theorem dX9_append_4 : decode cX9_append 4 = .ok (.ifCond .lt 15, 3) := by decide +kernel
theorem dX9_append_7 : decode cX9_append 7 = .ok (.aload_n 0, 1) := by decide +kernel
theorem dX9_append_8 : decode cX9_append 8 = .ok (.getfield 15, 3) := by decide +kernel
theorem dX9_append_11 : decode cX9_append 11 = .ok (.aload_n 0, 1) := by decide +kernel
theorem dX9_append_12 : decode cX9_append 12 = .ok (.getfield 9, 3) := by decide +kernel
theorem dX9_append_15 : decode cX9_append 15 = .ok (.arraylength, 1) := by decide +kernel
theorem dX9_append_16 : decode cX9_append 16 = .ok (.if_icmp .lt 5, 3) := by decide +kernel
theorem dX9_append_19 : decode cX9_append 19 = .ok (.iconst 0, 1) := by decide +kernel
theorem dX9_append_20 : decode cX9_append 20 = .ok (.ireturn, 1) := by decide +kernel
theorem dX9_append_21 : decode cX9_append 21 = .ok (.aload_n 0, 1) := by decide +kernel
theorem dX9_append_22 : decode cX9_append 22 = .ok (.getfield 9, 3) := by decide +kernel
theorem dX9_append_25 : decode cX9_append 25 = .ok (.aload_n 0, 1) := by decide +kernel
theorem dX9_append_26 : decode cX9_append 26 = .ok (.getfield 15, 3) := by decide +kernel
theorem dX9_append_29 : decode cX9_append 29 = .ok (.iload_n 1, 1) := by decide +kernel
theorem dX9_append_30 : decode cX9_append 30 = .ok (.i2b, 1) := by decide +kernel
theorem dX9_append_31 : decode cX9_append 31 = .ok (.bastore, 1) := by decide +kernel
theorem dX9_append_32 : decode cX9_append 32 = .ok (.aload_n 0, 1) := by decide +kernel
theorem dX9_append_33 : decode cX9_append 33 = .ok (.dup, 1) := by decide +kernel
theorem dX9_append_34 : decode cX9_append 34 = .ok (.getfield 15, 3) := by decide +kernel
theorem dX9_append_37 : decode cX9_append 37 = .ok (.iconst 1, 1) := by decide +kernel
theorem dX9_append_38 : decode cX9_append 38 = .ok (.iadd, 1) := by decide +kernel
theorem dX9_append_39 : decode cX9_append 39 = .ok (.putfield 15, 3) := by decide +kernel
theorem dX9_append_42 : decode cX9_append 42 = .ok (.iconst 1, 1) := by decide +kernel
theorem dX9_append_43 : decode cX9_append 43 = .ok (.ireturn, 1) := by decide +kernel
theorem dX9_parse_0 : decode cX9_parse 0 = .ok (.aload_n 1, 1) := by decide +kernel
theorem dX9_parse_1 : decode cX9_parse 1 = .ok (.invokevirtual 25, 3) := by decide +kernel
theorem dX9_parse_4 : decode cX9_parse 4 = .ok (.aload_n 0, 1) := by decide +kernel
theorem dX9_parse_5 : decode cX9_parse 5 = .ok (.iconst 0, 1) := by decide +kernel
theorem dX9_parse_6 : decode cX9_parse 6 = .ok (.putfield 19, 3) := by decide +kernel
theorem dX9_parse_9 : decode cX9_parse 9 = .ok (.aload_n 0, 1) := by decide +kernel
theorem dX9_parse_10 : decode cX9_parse 10 = .ok (.iconst 0, 1) := by decide +kernel
theorem dX9_parse_11 : decode cX9_parse 11 = .ok (.putfield 22, 3) := by decide +kernel
theorem dX9_parse_14 : decode cX9_parse 14 = .ok (.aload_n 0, 1) := by decide +kernel
theorem dX9_parse_15 : decode cX9_parse 15 = .ok (.iconst 0, 1) := by decide +kernel
theorem dX9_parse_16 : decode cX9_parse 16 = .ok (.putfield 30, 3) := by decide +kernel
theorem dX9_parse_19 : decode cX9_parse 19 = .ok (.aload_n 0, 1) := by decide +kernel
theorem dX9_parse_20 : decode cX9_parse 20 = .ok (.iconst 0, 1) := by decide +kernel
theorem dX9_parse_21 : decode cX9_parse 21 = .ok (.putfield 33, 3) := by decide +kernel
theorem dX9_parse_24 : decode cX9_parse 24 = .ok (.iconst 0, 1) := by decide +kernel
theorem dX9_parse_25 : decode cX9_parse 25 = .ok (.istore_n 2, 1) := by decide +kernel
theorem dX9_parse_26 : decode cX9_parse 26 = .ok (.aload_n 0, 1) := by decide +kernel
theorem dX9_parse_27 : decode cX9_parse 27 = .ok (.invokevirtual 37, 3) := by decide +kernel
theorem dX9_parse_30 : decode cX9_parse 30 = .ok (.aload_n 0, 1) := by decide +kernel
theorem dX9_parse_31 : decode cX9_parse 31 = .ok (.getfield 19, 3) := by decide +kernel
theorem dX9_parse_34 : decode cX9_parse 34 = .ok (.ifCond .ne 32, 3) := by decide +kernel
theorem dX9_parse_37 : decode cX9_parse 37 = .ok (.aload_n 0, 1) := by decide +kernel
theorem dX9_parse_38 : decode cX9_parse 38 = .ok (.getfield 40, 3) := by decide +kernel
theorem dX9_parse_41 : decode cX9_parse 41 = .ok (.ifCond .eq 25, 3) := by decide +kernel
theorem dX9_parse_44 : decode cX9_parse 44 = .ok (.iload_n 2, 1) := by decide +kernel
theorem dX9_parse_45 : decode cX9_parse 45 = .ok (.sipush 160, 3) := by decide +kernel
theorem dX9_parse_48 : decode cX9_parse 48 = .ok (.if_icmp .ge 18, 3) := by decide +kernel
theorem dX9_parse_51 : decode cX9_parse 51 = .ok (.aload_n 0, 1) := by decide +kernel
theorem dX9_parse_52 : decode cX9_parse 52 = .ok (.aload_n 1, 1) := by decide +kernel
theorem dX9_parse_53 : decode cX9_parse 53 = .ok (.invokevirtual 43, 3) := by decide +kernel
theorem dX9_parse_56 : decode cX9_parse 56 = .ok (.iinc 2 1, 3) := by decide +kernel
theorem dX9_parse_59 : decode cX9_parse 59 = .ok (.aload_n 0, 1) := by decide +kernel
theorem dX9_parse_60 : decode cX9_parse 60 = .ok (.invokevirtual 37, 3) := by decide +kernel
theorem dX9_parse_63 : decode cX9_parse 63 = .ok (.goto (-33), 3) := by decide +kernel
theorem dX9_parse_66 : decode cX9_parse 66 = .ok (.iload_n 2, 1) := by decide +kernel
theorem dX9_parse_67 : decode cX9_parse 67 = .ok (.ireturn, 1) := by decide +kernel
theorem dX9_line_0 : decode cX9_line 0 = .ok (.aload_n 0, 1) := by decide +kernel
theorem dX9_line_1 : decode cX9_line 1 = .ok (.getfield 40, 3) := by decide +kernel
theorem dX9_line_4 : decode cX9_line 4 = .ok (.iconst 1, 1) := by decide +kernel
theorem dX9_line_5 : decode cX9_line 5 = .ok (.if_icmp .ne 10, 3) := by decide +kernel
theorem dX9_line_8 : decode cX9_line 8 = .ok (.aload_n 0, 1) := by decide +kernel
theorem dX9_line_9 : decode cX9_line 9 = .ok (.invokevirtual 47, 3) := by decide +kernel
theorem dX9_line_12 : decode cX9_line 12 = .ok (.goto 5, 3) := by decide +kernel
theorem dX9_line_15 : decode cX9_line 15 = .ok (.bipush 9, 2) := by decide +kernel
theorem dX9_line_17 : decode cX9_line 17 = .ok (.istore_n 2, 1) := by decide +kernel
theorem dX9_line_18 : decode cX9_line 18 = .ok (.iload_n 2, 1) := by decide +kernel
theorem dX9_line_19 : decode cX9_line 19 = .ok (.iconst 4, 1) := by decide +kernel
theorem dX9_line_20 : decode cX9_line 20 = .ok (.if_icmp .ge 12, 3) := by decide +kernel
theorem dX9_line_23 : decode cX9_line 23 = .ok (.aload_n 0, 1) := by decide +kernel
theorem dX9_line_24 : decode cX9_line 24 = .ok (.aload_n 1, 1) := by decide +kernel
theorem dX9_line_25 : decode cX9_line 25 = .ok (.iload_n 2, 1) := by decide +kernel
theorem dX9_line_26 : decode cX9_line 26 = .ok (.invokevirtual 51, 3) := by decide +kernel
theorem dX9_line_29 : decode cX9_line 29 = .ok (.goto 39, 3) := by decide +kernel
theorem dX9_line_32 : decode cX9_line 32 = .ok (.iload_n 2, 1) := by decide +kernel
theorem dX9_line_33 : decode cX9_line 33 = .ok (.bipush 8, 2) := by decide +kernel
theorem dX9_line_35 : decode cX9_line 35 = .ok (.if_icmp .ge 14, 3) := by decide +kernel
theorem dX9_line_38 : decode cX9_line 38 = .ok (.aload_n 0, 1) := by decide +kernel
theorem dX9_line_39 : decode cX9_line 39 = .ok (.aload_n 1, 1) := by decide +kernel
theorem dX9_line_40 : decode cX9_line 40 = .ok (.iload_n 2, 1) := by decide +kernel
theorem dX9_line_41 : decode cX9_line 41 = .ok (.iconst 4, 1) := by decide +kernel
theorem dX9_line_42 : decode cX9_line 42 = .ok (.isub, 1) := by decide +kernel
theorem dX9_line_43 : decode cX9_line 43 = .ok (.invokevirtual 55, 3) := by decide +kernel
theorem dX9_line_46 : decode cX9_line 46 = .ok (.goto 22, 3) := by decide +kernel
theorem dX9_line_49 : decode cX9_line 49 = .ok (.iload_n 2, 1) := by decide +kernel
theorem dX9_line_50 : decode cX9_line 50 = .ok (.bipush 8, 2) := by decide +kernel
theorem dX9_line_52 : decode cX9_line 52 = .ok (.if_icmp .ne 11, 3) := by decide +kernel
theorem dX9_line_55 : decode cX9_line 55 = .ok (.aload_n 0, 1) := by decide +kernel
theorem dX9_line_56 : decode cX9_line 56 = .ok (.aload_n 1, 1) := by decide +kernel
theorem dX9_line_57 : decode cX9_line 57 = .ok (.invokevirtual 58, 3) := by decide +kernel
theorem dX9_line_60 : decode cX9_line 60 = .ok (.goto 8, 3) := by decide +kernel
theorem dX9_line_63 : decode cX9_line 63 = .ok (.aload_n 0, 1) := by decide +kernel
theorem dX9_line_64 : decode cX9_line 64 = .ok (.iconst 2, 1) := by decide +kernel
theorem dX9_line_65 : decode cX9_line 65 = .ok (.invokevirtual 61, 3) := by decide +kernel
theorem dX9_line_68 : decode cX9_line 68 = .ok (.aload_n 0, 1) := by decide +kernel
theorem dX9_line_69 : decode cX9_line 69 = .ok (.invokevirtual 37, 3) := by decide +kernel
theorem dX9_line_72 : decode cX9_line 72 = .ok (.aload_n 0, 1) := by decide +kernel
theorem dX9_line_73 : decode cX9_line 73 = .ok (.getfield 40, 3) := by decide +kernel
theorem dX9_line_76 : decode cX9_line 76 = .ok (.iconst 3, 1) := by decide +kernel
theorem dX9_line_77 : decode cX9_line 77 = .ok (.if_icmp .eq 8, 3) := by decide +kernel
theorem dX9_line_80 : decode cX9_line 80 = .ok (.aload_n 0, 1) := by decide +kernel
theorem dX9_line_81 : decode cX9_line 81 = .ok (.iconst 2, 1) := by decide +kernel
theorem dX9_line_82 : decode cX9_line 82 = .ok (.invokevirtual 61, 3) := by decide +kernel
theorem dX9_line_85 : decode cX9_line 85 = .ok (.return_, 1) := by decide +kernel
theorem dX9_lineOfJudge_0 : decode cX9_lineOfJudge 0 = .ok (.aload_n 1, 1) := by decide +kernel
theorem dX9_lineOfJudge_1 : decode cX9_lineOfJudge 1 = .ok (.invokevirtual 65, 3) := by decide +kernel
theorem dX9_lineOfJudge_4 : decode cX9_lineOfJudge 4 = .ok (.ifCond .ne 8, 3) := by decide +kernel
theorem dX9_lineOfJudge_7 : decode cX9_lineOfJudge 7 = .ok (.aload_n 0, 1) := by decide +kernel
theorem dX9_lineOfJudge_8 : decode cX9_lineOfJudge 8 = .ok (.iconst 5, 1) := by decide +kernel
theorem dX9_lineOfJudge_9 : decode cX9_lineOfJudge 9 = .ok (.invokevirtual 61, 3) := by decide +kernel
theorem dX9_lineOfJudge_12 : decode cX9_lineOfJudge 12 = .ok (.aload_n 0, 1) := by decide +kernel
theorem dX9_lineOfJudge_13 : decode cX9_lineOfJudge 13 = .ok (.iconst 1, 1) := by decide +kernel
theorem dX9_lineOfJudge_14 : decode cX9_lineOfJudge 14 = .ok (.bipush 20, 2) := by decide +kernel
theorem dX9_lineOfJudge_16 : decode cX9_lineOfJudge 16 = .ok (.invokevirtual 69, 3) := by decide +kernel
theorem dX9_lineOfJudge_19 : decode cX9_lineOfJudge 19 = .ok (.istore_n 3, 1) := by decide +kernel
theorem dX9_lineOfJudge_20 : decode cX9_lineOfJudge 20 = .ok (.aload_n 0, 1) := by decide +kernel
theorem dX9_lineOfJudge_21 : decode cX9_lineOfJudge 21 = .ok (.iconst 0, 1) := by decide +kernel
theorem dX9_lineOfJudge_22 : decode cX9_lineOfJudge 22 = .ok (.bipush 99, 2) := by decide +kernel
theorem dX9_lineOfJudge_24 : decode cX9_lineOfJudge 24 = .ok (.invokevirtual 69, 3) := by decide +kernel
theorem dX9_lineOfJudge_27 : decode cX9_lineOfJudge 27 = .ok (.istore 4, 2) := by decide +kernel
theorem dX9_lineOfJudge_29 : decode cX9_lineOfJudge 29 = .ok (.aload_n 1, 1) := by decide +kernel
theorem dX9_lineOfJudge_30 : decode cX9_lineOfJudge 30 = .ok (.aload_n 1, 1) := by decide +kernel
theorem dX9_lineOfJudge_31 : decode cX9_lineOfJudge 31 = .ok (.getfield 73, 3) := by decide +kernel
theorem dX9_lineOfJudge_34 : decode cX9_lineOfJudge 34 = .ok (.iconst 1, 1) := by decide +kernel
theorem dX9_lineOfJudge_35 : decode cX9_lineOfJudge 35 = .ok (.isub, 1) := by decide +kernel
theorem dX9_lineOfJudge_36 : decode cX9_lineOfJudge 36 = .ok (.invokevirtual 76, 3) := by decide +kernel
theorem dX9_lineOfJudge_39 : decode cX9_lineOfJudge 39 = .ok (.astore 5, 2) := by decide +kernel
theorem dX9_lineOfJudge_41 : decode cX9_lineOfJudge 41 = .ok (.aload 5, 2) := by decide +kernel
theorem dX9_lineOfJudge_43 : decode cX9_lineOfJudge 43 = .ok (.ifnull 12, 3) := by decide +kernel
theorem dX9_lineOfJudge_46 : decode cX9_lineOfJudge 46 = .ok (.aload 5, 2) := by decide +kernel
theorem dX9_lineOfJudge_48 : decode cX9_lineOfJudge 48 = .ok (.iload_n 2, 1) := by decide +kernel
theorem dX9_lineOfJudge_49 : decode cX9_lineOfJudge 49 = .ok (.iload_n 3, 1) := by decide +kernel
theorem dX9_lineOfJudge_50 : decode cX9_lineOfJudge 50 = .ok (.iload 4, 2) := by decide +kernel
theorem dX9_lineOfJudge_52 : decode cX9_lineOfJudge 52 = .ok (.invokevirtual 80, 3) := by decide +kernel
theorem dX9_lineOfJudge_55 : decode cX9_lineOfJudge 55 = .ok (.return_, 1) := by decide +kernel
theorem dX9_lineOfSuit_0 : decode cX9_lineOfSuit 0 = .ok (.aload_n 1, 1) := by decide +kernel
theorem dX9_lineOfSuit_1 : decode cX9_lineOfSuit 1 = .ok (.invokevirtual 85, 3) := by decide +kernel
theorem dX9_lineOfSuit_4 : decode cX9_lineOfSuit 4 = .ok (.ifCond .ne 8, 3) := by decide +kernel
theorem dX9_lineOfSuit_7 : decode cX9_lineOfSuit 7 = .ok (.aload_n 0, 1) := by decide +kernel
theorem dX9_lineOfSuit_8 : decode cX9_lineOfSuit 8 = .ok (.iconst 5, 1) := by decide +kernel
theorem dX9_lineOfSuit_9 : decode cX9_lineOfSuit 9 = .ok (.invokevirtual 61, 3) := by decide +kernel
theorem dX9_lineOfSuit_12 : decode cX9_lineOfSuit 12 = .ok (.aload_n 0, 1) := by decide +kernel
theorem dX9_lineOfSuit_13 : decode cX9_lineOfSuit 13 = .ok (.iconst 1, 1) := by decide +kernel
theorem dX9_lineOfSuit_14 : decode cX9_lineOfSuit 14 = .ok (.bipush 60, 2) := by decide +kernel
theorem dX9_lineOfSuit_16 : decode cX9_lineOfSuit 16 = .ok (.invokevirtual 69, 3) := by decide +kernel
theorem dX9_lineOfSuit_19 : decode cX9_lineOfSuit 19 = .ok (.istore_n 3, 1) := by decide +kernel
theorem dX9_lineOfSuit_20 : decode cX9_lineOfSuit 20 = .ok (.aload_n 0, 1) := by decide +kernel
theorem dX9_lineOfSuit_21 : decode cX9_lineOfSuit 21 = .ok (.iload_n 3, 1) := by decide +kernel
theorem dX9_lineOfSuit_22 : decode cX9_lineOfSuit 22 = .ok (.bipush 60, 2) := by decide +kernel
theorem dX9_lineOfSuit_24 : decode cX9_lineOfSuit 24 = .ok (.invokevirtual 69, 3) := by decide +kernel
theorem dX9_lineOfSuit_27 : decode cX9_lineOfSuit 27 = .ok (.istore 4, 2) := by decide +kernel
theorem dX9_lineOfSuit_29 : decode cX9_lineOfSuit 29 = .ok (.aload_n 0, 1) := by decide +kernel
theorem dX9_lineOfSuit_30 : decode cX9_lineOfSuit 30 = .ok (.iconst 0, 1) := by decide +kernel
theorem dX9_lineOfSuit_31 : decode cX9_lineOfSuit 31 = .ok (.bipush 20, 2) := by decide +kernel
theorem dX9_lineOfSuit_33 : decode cX9_lineOfSuit 33 = .ok (.invokevirtual 69, 3) := by decide +kernel
theorem dX9_lineOfSuit_36 : decode cX9_lineOfSuit 36 = .ok (.istore 5, 2) := by decide +kernel
theorem dX9_lineOfSuit_38 : decode cX9_lineOfSuit 38 = .ok (.aload_n 1, 1) := by decide +kernel
theorem dX9_lineOfSuit_39 : decode cX9_lineOfSuit 39 = .ok (.aload_n 1, 1) := by decide +kernel
theorem dX9_lineOfSuit_40 : decode cX9_lineOfSuit 40 = .ok (.getfield 88, 3) := by decide +kernel
theorem dX9_lineOfSuit_43 : decode cX9_lineOfSuit 43 = .ok (.iconst 1, 1) := by decide +kernel
theorem dX9_lineOfSuit_44 : decode cX9_lineOfSuit 44 = .ok (.isub, 1) := by decide +kernel
theorem dX9_lineOfSuit_45 : decode cX9_lineOfSuit 45 = .ok (.invokevirtual 91, 3) := by decide +kernel
theorem dX9_lineOfSuit_48 : decode cX9_lineOfSuit 48 = .ok (.astore 6, 2) := by decide +kernel
theorem dX9_lineOfSuit_50 : decode cX9_lineOfSuit 50 = .ok (.aload 6, 2) := by decide +kernel
theorem dX9_lineOfSuit_52 : decode cX9_lineOfSuit 52 = .ok (.ifnull 14, 3) := by decide +kernel
theorem dX9_lineOfSuit_55 : decode cX9_lineOfSuit 55 = .ok (.aload 6, 2) := by decide +kernel
theorem dX9_lineOfSuit_57 : decode cX9_lineOfSuit 57 = .ok (.iload_n 2, 1) := by decide +kernel
theorem dX9_lineOfSuit_58 : decode cX9_lineOfSuit 58 = .ok (.iload_n 3, 1) := by decide +kernel
theorem dX9_lineOfSuit_59 : decode cX9_lineOfSuit 59 = .ok (.iload 4, 2) := by decide +kernel
theorem dX9_lineOfSuit_61 : decode cX9_lineOfSuit 61 = .ok (.iload 5, 2) := by decide +kernel
theorem dX9_lineOfSuit_63 : decode cX9_lineOfSuit 63 = .ok (.invokevirtual 95, 3) := by decide +kernel
theorem dX9_lineOfSuit_66 : decode cX9_lineOfSuit 66 = .ok (.return_, 1) := by decide +kernel
theorem dX9_lineOfCrime_0 : decode cX9_lineOfCrime 0 = .ok (.aload_n 0, 1) := by decide +kernel
theorem dX9_lineOfCrime_1 : decode cX9_lineOfCrime 1 = .ok (.getfield 33, 3) := by decide +kernel
theorem dX9_lineOfCrime_4 : decode cX9_lineOfCrime 4 = .ok (.ifCond .eq 8, 3) := by decide +kernel
theorem dX9_lineOfCrime_7 : decode cX9_lineOfCrime 7 = .ok (.aload_n 0, 1) := by decide +kernel
theorem dX9_lineOfCrime_8 : decode cX9_lineOfCrime 8 = .ok (.iconst 4, 1) := by decide +kernel
theorem dX9_lineOfCrime_9 : decode cX9_lineOfCrime 9 = .ok (.invokevirtual 61, 3) := by decide +kernel
theorem dX9_lineOfCrime_12 : decode cX9_lineOfCrime 12 = .ok (.aload_n 0, 1) := by decide +kernel
theorem dX9_lineOfCrime_13 : decode cX9_lineOfCrime 13 = .ok (.iconst 1, 1) := by decide +kernel
theorem dX9_lineOfCrime_14 : decode cX9_lineOfCrime 14 = .ok (.putfield 33, 3) := by decide +kernel
theorem dX9_lineOfCrime_17 : decode cX9_lineOfCrime 17 = .ok (.aload_n 1, 1) := by decide +kernel
theorem dX9_lineOfCrime_18 : decode cX9_lineOfCrime 18 = .ok (.aload_n 0, 1) := by decide +kernel
theorem dX9_lineOfCrime_19 : decode cX9_lineOfCrime 19 = .ok (.iconst 0, 1) := by decide +kernel
theorem dX9_lineOfCrime_20 : decode cX9_lineOfCrime 20 = .ok (.bipush 99, 2) := by decide +kernel
theorem dX9_lineOfCrime_22 : decode cX9_lineOfCrime 22 = .ok (.invokevirtual 69, 3) := by decide +kernel
theorem dX9_lineOfCrime_25 : decode cX9_lineOfCrime 25 = .ok (.putfield 100, 3) := by decide +kernel
theorem dX9_lineOfCrime_28 : decode cX9_lineOfCrime 28 = .ok (.return_, 1) := by decide +kernel
theorem dX9_number_0 : decode cX9_number 0 = .ok (.aload_n 0, 1) := by decide +kernel
theorem dX9_number_1 : decode cX9_number 1 = .ok (.invokevirtual 37, 3) := by decide +kernel
theorem dX9_number_4 : decode cX9_number 4 = .ok (.aload_n 0, 1) := by decide +kernel
theorem dX9_number_5 : decode cX9_number 5 = .ok (.getfield 40, 3) := by decide +kernel
theorem dX9_number_8 : decode cX9_number 8 = .ok (.iconst 2, 1) := by decide +kernel
theorem dX9_number_9 : decode cX9_number 9 = .ok (.if_icmp .eq 11, 3) := by decide +kernel
theorem dX9_number_12 : decode cX9_number 12 = .ok (.aload_n 0, 1) := by decide +kernel
theorem dX9_number_13 : decode cX9_number 13 = .ok (.iconst 2, 1) := by decide +kernel
theorem dX9_number_14 : decode cX9_number 14 = .ok (.invokevirtual 61, 3) := by decide +kernel
theorem dX9_number_17 : decode cX9_number 17 = .ok (.goto 20, 3) := by decide +kernel
theorem dX9_number_20 : decode cX9_number 20 = .ok (.aload_n 0, 1) := by decide +kernel
theorem dX9_number_21 : decode cX9_number 21 = .ok (.getfield 103, 3) := by decide +kernel
theorem dX9_number_24 : decode cX9_number 24 = .ok (.iload_n 1, 1) := by decide +kernel
theorem dX9_number_25 : decode cX9_number 25 = .ok (.iload_n 2, 1) := by decide +kernel
theorem dX9_number_26 : decode cX9_number 26 = .ok (.invokestatic 106, 3) := by decide +kernel
theorem dX9_number_29 : decode cX9_number 29 = .ok (.ifCond .ne 8, 3) := by decide +kernel
theorem dX9_number_32 : decode cX9_number 32 = .ok (.aload_n 0, 1) := by decide +kernel
theorem dX9_number_33 : decode cX9_number 33 = .ok (.iconst 3, 1) := by decide +kernel
theorem dX9_number_34 : decode cX9_number 34 = .ok (.invokevirtual 61, 3) := by decide +kernel
theorem dX9_number_37 : decode cX9_number 37 = .ok (.aload_n 0, 1) := by decide +kernel
theorem dX9_number_38 : decode cX9_number 38 = .ok (.getfield 103, 3) := by decide +kernel
theorem dX9_number_41 : decode cX9_number 41 = .ok (.ireturn, 1) := by decide +kernel
theorem dX9_fail_0 : decode cX9_fail 0 = .ok (.aload_n 0, 1) := by decide +kernel
theorem dX9_fail_1 : decode cX9_fail 1 = .ok (.getfield 19, 3) := by decide +kernel
theorem dX9_fail_4 : decode cX9_fail 4 = .ok (.ifCond .ne 16, 3) := by decide +kernel
theorem dX9_fail_7 : decode cX9_fail 7 = .ok (.aload_n 0, 1) := by decide +kernel
theorem dX9_fail_8 : decode cX9_fail 8 = .ok (.iload_n 1, 1) := by decide +kernel
theorem dX9_fail_9 : decode cX9_fail 9 = .ok (.putfield 19, 3) := by decide +kernel
theorem dX9_fail_12 : decode cX9_fail 12 = .ok (.aload_n 0, 1) := by decide +kernel
theorem dX9_fail_13 : decode cX9_fail 13 = .ok (.aload_n 0, 1) := by decide +kernel
theorem dX9_fail_14 : decode cX9_fail 14 = .ok (.getfield 110, 3) := by decide +kernel
theorem dX9_fail_17 : decode cX9_fail 17 = .ok (.putfield 22, 3) := by decide +kernel
theorem dX9_fail_20 : decode cX9_fail 20 = .ok (.return_, 1) := by decide +kernel
theorem dX9_take_0 : decode cX9_take 0 = .ok (.aload_n 0, 1) := by decide +kernel
theorem dX9_take_1 : decode cX9_take 1 = .ok (.getfield 19, 3) := by decide +kernel
theorem dX9_take_4 : decode cX9_take 4 = .ok (.ifCond .eq 4, 3) := by decide +kernel
theorem dX9_take_7 : decode cX9_take 7 = .ok (.return_, 1) := by decide +kernel
theorem dX9_take_8 : decode cX9_take 8 = .ok (.aload_n 0, 1) := by decide +kernel
theorem dX9_take_9 : decode cX9_take 9 = .ok (.aload_n 0, 1) := by decide +kernel
theorem dX9_take_10 : decode cX9_take 10 = .ok (.aload_n 0, 1) := by decide +kernel
theorem dX9_take_11 : decode cX9_take 11 = .ok (.getfield 30, 3) := by decide +kernel
theorem dX9_take_14 : decode cX9_take 14 = .ok (.bipush 32, 2) := by decide +kernel
theorem dX9_take_16 : decode cX9_take 16 = .ok (.bipush 32, 2) := by decide +kernel
theorem dX9_take_18 : decode cX9_take 18 = .ok (.invokevirtual 113, 3) := by decide +kernel
theorem dX9_take_21 : decode cX9_take 21 = .ok (.putfield 30, 3) := by decide +kernel
theorem dX9_take_24 : decode cX9_take 24 = .ok (.aload_n 0, 1) := by decide +kernel
theorem dX9_take_25 : decode cX9_take 25 = .ok (.aload_n 0, 1) := by decide +kernel
theorem dX9_take_26 : decode cX9_take 26 = .ok (.getfield 30, 3) := by decide +kernel
theorem dX9_take_29 : decode cX9_take 29 = .ok (.putfield 110, 3) := by decide +kernel
theorem dX9_take_32 : decode cX9_take 32 = .ok (.aload_n 0, 1) := by decide +kernel
theorem dX9_take_33 : decode cX9_take 33 = .ok (.aload_n 0, 1) := by decide +kernel
theorem dX9_take_34 : decode cX9_take 34 = .ok (.getfield 110, 3) := by decide +kernel
theorem dX9_take_37 : decode cX9_take 37 = .ok (.invokevirtual 117, 3) := by decide +kernel
theorem dX9_take_40 : decode cX9_take 40 = .ok (.istore_n 1, 1) := by decide +kernel
theorem dX9_take_41 : decode cX9_take 41 = .ok (.iload_n 1, 1) := by decide +kernel
theorem dX9_take_42 : decode cX9_take 42 = .ok (.ifCond .ge 11, 3) := by decide +kernel
theorem dX9_take_45 : decode cX9_take 45 = .ok (.aload_n 0, 1) := by decide +kernel
theorem dX9_take_46 : decode cX9_take 46 = .ok (.iconst 0, 1) := by decide +kernel
theorem dX9_take_47 : decode cX9_take 47 = .ok (.putfield 40, 3) := by decide +kernel
theorem dX9_take_50 : decode cX9_take 50 = .ok (.goto 141, 3) := by decide +kernel
theorem dX9_take_53 : decode cX9_take 53 = .ok (.iload_n 1, 1) := by decide +kernel
theorem dX9_take_54 : decode cX9_take 54 = .ok (.bipush 97, 2) := by decide +kernel
theorem dX9_take_56 : decode cX9_take 56 = .ok (.if_icmp .lt 33, 3) := by decide +kernel
theorem dX9_take_59 : decode cX9_take 59 = .ok (.iload_n 1, 1) := by decide +kernel
theorem dX9_take_60 : decode cX9_take 60 = .ok (.bipush 122, 2) := by decide +kernel
theorem dX9_take_62 : decode cX9_take 62 = .ok (.if_icmp .gt 27, 3) := by decide +kernel
theorem dX9_take_65 : decode cX9_take 65 = .ok (.aload_n 0, 1) := by decide +kernel
theorem dX9_take_66 : decode cX9_take 66 = .ok (.iconst 1, 1) := by decide +kernel
theorem dX9_take_67 : decode cX9_take 67 = .ok (.putfield 40, 3) := by decide +kernel
theorem dX9_take_70 : decode cX9_take 70 = .ok (.aload_n 0, 1) := by decide +kernel
theorem dX9_take_71 : decode cX9_take 71 = .ok (.aload_n 0, 1) := by decide +kernel
theorem dX9_take_72 : decode cX9_take 72 = .ok (.aload_n 0, 1) := by decide +kernel
theorem dX9_take_73 : decode cX9_take 73 = .ok (.getfield 110, 3) := by decide +kernel
theorem dX9_take_76 : decode cX9_take 76 = .ok (.bipush 97, 2) := by decide +kernel
theorem dX9_take_78 : decode cX9_take 78 = .ok (.bipush 122, 2) := by decide +kernel
theorem dX9_take_80 : decode cX9_take 80 = .ok (.invokevirtual 113, 3) := by decide +kernel
theorem dX9_take_83 : decode cX9_take 83 = .ok (.putfield 30, 3) := by decide +kernel
theorem dX9_take_86 : decode cX9_take 86 = .ok (.goto 105, 3) := by decide +kernel
theorem dX9_take_89 : decode cX9_take 89 = .ok (.iload_n 1, 1) := by decide +kernel
theorem dX9_take_90 : decode cX9_take 90 = .ok (.bipush 48, 2) := by decide +kernel
theorem dX9_take_92 : decode cX9_take 92 = .ok (.if_icmp .lt 70, 3) := by decide +kernel
theorem dX9_take_95 : decode cX9_take 95 = .ok (.iload_n 1, 1) := by decide +kernel
theorem dX9_take_96 : decode cX9_take 96 = .ok (.bipush 57, 2) := by decide +kernel
theorem dX9_take_98 : decode cX9_take 98 = .ok (.if_icmp .gt 64, 3) := by decide +kernel
theorem dX9_take_101 : decode cX9_take 101 = .ok (.aload_n 0, 1) := by decide +kernel
theorem dX9_take_102 : decode cX9_take 102 = .ok (.aload_n 0, 1) := by decide +kernel
theorem dX9_take_103 : decode cX9_take 103 = .ok (.aload_n 0, 1) := by decide +kernel
theorem dX9_take_104 : decode cX9_take 104 = .ok (.getfield 110, 3) := by decide +kernel
theorem dX9_take_107 : decode cX9_take 107 = .ok (.bipush 48, 2) := by decide +kernel
theorem dX9_take_109 : decode cX9_take 109 = .ok (.bipush 57, 2) := by decide +kernel
theorem dX9_take_111 : decode cX9_take 111 = .ok (.invokevirtual 113, 3) := by decide +kernel
theorem dX9_take_114 : decode cX9_take 114 = .ok (.putfield 30, 3) := by decide +kernel
theorem dX9_take_117 : decode cX9_take 117 = .ok (.aload_n 0, 1) := by decide +kernel
theorem dX9_take_118 : decode cX9_take 118 = .ok (.aload_n 0, 1) := by decide +kernel
theorem dX9_take_119 : decode cX9_take 119 = .ok (.getfield 30, 3) := by decide +kernel
theorem dX9_take_122 : decode cX9_take 122 = .ok (.aload_n 0, 1) := by decide +kernel
theorem dX9_take_123 : decode cX9_take 123 = .ok (.getfield 110, 3) := by decide +kernel
theorem dX9_take_126 : decode cX9_take 126 = .ok (.isub, 1) := by decide +kernel
theorem dX9_take_127 : decode cX9_take 127 = .ok (.iconst 2, 1) := by decide +kernel
theorem dX9_take_128 : decode cX9_take 128 = .ok (.if_icmp .le 7, 3) := by decide +kernel
theorem dX9_take_131 : decode cX9_take 131 = .ok (.iconst 4, 1) := by decide +kernel
theorem dX9_take_132 : decode cX9_take 132 = .ok (.goto 4, 3) := by decide +kernel
theorem dX9_take_135 : decode cX9_take 135 = .ok (.iconst 2, 1) := by decide +kernel
theorem dX9_take_136 : decode cX9_take 136 = .ok (.putfield 40, 3) := by decide +kernel
theorem dX9_take_139 : decode cX9_take 139 = .ok (.aload_n 0, 1) := by decide +kernel
theorem dX9_take_140 : decode cX9_take 140 = .ok (.aload_n 0, 1) := by decide +kernel
theorem dX9_take_141 : decode cX9_take 141 = .ok (.getfield 40, 3) := by decide +kernel
theorem dX9_take_144 : decode cX9_take 144 = .ok (.iconst 2, 1) := by decide +kernel
theorem dX9_take_145 : decode cX9_take 145 = .ok (.if_icmp .ne 10, 3) := by decide +kernel
theorem dX9_take_148 : decode cX9_take 148 = .ok (.aload_n 0, 1) := by decide +kernel
theorem dX9_take_149 : decode cX9_take 149 = .ok (.invokevirtual 121, 3) := by decide +kernel
theorem dX9_take_152 : decode cX9_take 152 = .ok (.goto 4, 3) := by decide +kernel
theorem dX9_take_155 : decode cX9_take 155 = .ok (.iconst 0, 1) := by decide +kernel
theorem dX9_take_156 : decode cX9_take 156 = .ok (.putfield 103, 3) := by decide +kernel
theorem dX9_take_159 : decode cX9_take 159 = .ok (.goto 32, 3) := by decide +kernel
theorem dX9_take_162 : decode cX9_take 162 = .ok (.iload_n 1, 1) := by decide +kernel
theorem dX9_take_163 : decode cX9_take 163 = .ok (.bipush 59, 2) := by decide +kernel
theorem dX9_take_165 : decode cX9_take 165 = .ok (.if_icmp .ne 21, 3) := by decide +kernel
theorem dX9_take_168 : decode cX9_take 168 = .ok (.aload_n 0, 1) := by decide +kernel
theorem dX9_take_169 : decode cX9_take 169 = .ok (.iconst 3, 1) := by decide +kernel
theorem dX9_take_170 : decode cX9_take 170 = .ok (.putfield 40, 3) := by decide +kernel
theorem dX9_take_173 : decode cX9_take 173 = .ok (.aload_n 0, 1) := by decide +kernel
theorem dX9_take_174 : decode cX9_take 174 = .ok (.aload_n 0, 1) := by decide +kernel
theorem dX9_take_175 : decode cX9_take 175 = .ok (.getfield 110, 3) := by decide +kernel
theorem dX9_take_178 : decode cX9_take 178 = .ok (.iconst 1, 1) := by decide +kernel
theorem dX9_take_179 : decode cX9_take 179 = .ok (.iadd, 1) := by decide +kernel
theorem dX9_take_180 : decode cX9_take 180 = .ok (.putfield 30, 3) := by decide +kernel
theorem dX9_take_183 : decode cX9_take 183 = .ok (.goto 8, 3) := by decide +kernel
theorem dX9_take_186 : decode cX9_take 186 = .ok (.aload_n 0, 1) := by decide +kernel
theorem dX9_take_187 : decode cX9_take 187 = .ok (.iconst 4, 1) := by decide +kernel
theorem dX9_take_188 : decode cX9_take 188 = .ok (.putfield 40, 3) := by decide +kernel
theorem dX9_take_191 : decode cX9_take 191 = .ok (.aload_n 0, 1) := by decide +kernel
theorem dX9_take_192 : decode cX9_take 192 = .ok (.getfield 40, 3) := by decide +kernel
theorem dX9_take_195 : decode cX9_take 195 = .ok (.iconst 4, 1) := by decide +kernel
theorem dX9_take_196 : decode cX9_take 196 = .ok (.if_icmp .ne 8, 3) := by decide +kernel
theorem dX9_take_199 : decode cX9_take 199 = .ok (.aload_n 0, 1) := by decide +kernel
theorem dX9_take_200 : decode cX9_take 200 = .ok (.iconst 1, 1) := by decide +kernel
theorem dX9_take_201 : decode cX9_take 201 = .ok (.invokevirtual 61, 3) := by decide +kernel
theorem dX9_take_204 : decode cX9_take 204 = .ok (.return_, 1) := by decide +kernel
theorem dX9_valueThere_0 : decode cX9_valueThere 0 = .ok (.iconst 0, 1) := by decide +kernel
theorem dX9_valueThere_1 : decode cX9_valueThere 1 = .ok (.istore_n 1, 1) := by decide +kernel
theorem dX9_valueThere_2 : decode cX9_valueThere 2 = .ok (.aload_n 0, 1) := by decide +kernel
theorem dX9_valueThere_3 : decode cX9_valueThere 3 = .ok (.getfield 110, 3) := by decide +kernel
theorem dX9_valueThere_6 : decode cX9_valueThere 6 = .ok (.istore_n 2, 1) := by decide +kernel
theorem dX9_valueThere_7 : decode cX9_valueThere 7 = .ok (.iload_n 2, 1) := by decide +kernel
theorem dX9_valueThere_8 : decode cX9_valueThere 8 = .ok (.aload_n 0, 1) := by decide +kernel
theorem dX9_valueThere_9 : decode cX9_valueThere 9 = .ok (.getfield 30, 3) := by decide +kernel
theorem dX9_valueThere_12 : decode cX9_valueThere 12 = .ok (.if_icmp .ge 23, 3) := by decide +kernel
theorem dX9_valueThere_15 : decode cX9_valueThere 15 = .ok (.iload_n 1, 1) := by decide +kernel
theorem dX9_valueThere_16 : decode cX9_valueThere 16 = .ok (.bipush 10, 2) := by decide +kernel
theorem dX9_valueThere_18 : decode cX9_valueThere 18 = .ok (.imul, 1) := by decide +kernel
theorem dX9_valueThere_19 : decode cX9_valueThere 19 = .ok (.aload_n 0, 1) := by decide +kernel
theorem dX9_valueThere_20 : decode cX9_valueThere 20 = .ok (.iload_n 2, 1) := by decide +kernel
theorem dX9_valueThere_21 : decode cX9_valueThere 21 = .ok (.invokevirtual 117, 3) := by decide +kernel
theorem dX9_valueThere_24 : decode cX9_valueThere 24 = .ok (.iadd, 1) := by decide +kernel
theorem dX9_valueThere_25 : decode cX9_valueThere 25 = .ok (.bipush 48, 2) := by decide +kernel
theorem dX9_valueThere_27 : decode cX9_valueThere 27 = .ok (.isub, 1) := by decide +kernel
theorem dX9_valueThere_28 : decode cX9_valueThere 28 = .ok (.istore_n 1, 1) := by decide +kernel
theorem dX9_valueThere_29 : decode cX9_valueThere 29 = .ok (.iinc 2 1, 3) := by decide +kernel
theorem dX9_valueThere_32 : decode cX9_valueThere 32 = .ok (.goto (-25), 3) := by decide +kernel
theorem dX9_valueThere_35 : decode cX9_valueThere 35 = .ok (.iload_n 1, 1) := by decide +kernel
theorem dX9_valueThere_36 : decode cX9_valueThere 36 = .ok (.ireturn, 1) := by decide +kernel
theorem dX9_behind_0 : decode cX9_behind 0 = .ok (.iload_n 1, 1) := by decide +kernel
theorem dX9_behind_1 : decode cX9_behind 1 = .ok (.istore 4, 2) := by decide +kernel
theorem dX9_behind_3 : decode cX9_behind 3 = .ok (.iload 4, 2) := by decide +kernel
theorem dX9_behind_5 : decode cX9_behind 5 = .ok (.aload_n 0, 1) := by decide +kernel
theorem dX9_behind_6 : decode cX9_behind 6 = .ok (.getfield 15, 3) := by decide +kernel
theorem dX9_behind_9 : decode cX9_behind 9 = .ok (.if_icmp .ge 23, 3) := by decide +kernel
theorem dX9_behind_12 : decode cX9_behind 12 = .ok (.aload_n 0, 1) := by decide +kernel
theorem dX9_behind_13 : decode cX9_behind 13 = .ok (.iload 4, 2) := by decide +kernel
theorem dX9_behind_15 : decode cX9_behind 15 = .ok (.invokevirtual 117, 3) := by decide +kernel
theorem dX9_behind_18 : decode cX9_behind 18 = .ok (.iload_n 2, 1) := by decide +kernel
theorem dX9_behind_19 : decode cX9_behind 19 = .ok (.iload_n 3, 1) := by decide +kernel
theorem dX9_behind_20 : decode cX9_behind 20 = .ok (.invokestatic 106, 3) := by decide +kernel
theorem dX9_behind_23 : decode cX9_behind 23 = .ok (.ifCond .eq 9, 3) := by decide +kernel
theorem dX9_behind_26 : decode cX9_behind 26 = .ok (.iinc 4 1, 3) := by decide +kernel
theorem dX9_behind_29 : decode cX9_behind 29 = .ok (.goto (-26), 3) := by decide +kernel
theorem dX9_behind_32 : decode cX9_behind 32 = .ok (.iload 4, 2) := by decide +kernel
theorem dX9_behind_34 : decode cX9_behind 34 = .ok (.ireturn, 1) := by decide +kernel
theorem dX9_byteAt_0 : decode cX9_byteAt 0 = .ok (.iload_n 1, 1) := by decide +kernel
theorem dX9_byteAt_1 : decode cX9_byteAt 1 = .ok (.ifCond .lt 29, 3) := by decide +kernel
theorem dX9_byteAt_4 : decode cX9_byteAt 4 = .ok (.iload_n 1, 1) := by decide +kernel
theorem dX9_byteAt_5 : decode cX9_byteAt 5 = .ok (.aload_n 0, 1) := by decide +kernel
theorem dX9_byteAt_6 : decode cX9_byteAt 6 = .ok (.getfield 15, 3) := by decide +kernel
theorem dX9_byteAt_9 : decode cX9_byteAt 9 = .ok (.if_icmp .ge 21, 3) := by decide +kernel
theorem dX9_byteAt_12 : decode cX9_byteAt 12 = .ok (.iload_n 1, 1) := by decide +kernel
theorem dX9_byteAt_13 : decode cX9_byteAt 13 = .ok (.aload_n 0, 1) := by decide +kernel
theorem dX9_byteAt_14 : decode cX9_byteAt 14 = .ok (.getfield 9, 3) := by decide +kernel
theorem dX9_byteAt_17 : decode cX9_byteAt 17 = .ok (.arraylength, 1) := by decide +kernel
theorem dX9_byteAt_18 : decode cX9_byteAt 18 = .ok (.if_icmp .ge 12, 3) := by decide +kernel
theorem dX9_byteAt_21 : decode cX9_byteAt 21 = .ok (.aload_n 0, 1) := by decide +kernel
theorem dX9_byteAt_22 : decode cX9_byteAt 22 = .ok (.getfield 9, 3) := by decide +kernel
theorem dX9_byteAt_25 : decode cX9_byteAt 25 = .ok (.iload_n 1, 1) := by decide +kernel
theorem dX9_byteAt_26 : decode cX9_byteAt 26 = .ok (.baload, 1) := by decide +kernel
theorem dX9_byteAt_27 : decode cX9_byteAt 27 = .ok (.goto 4, 3) := by decide +kernel
theorem dX9_byteAt_30 : decode cX9_byteAt 30 = .ok (.iconst (-1), 1) := by decide +kernel
theorem dX9_byteAt_31 : decode cX9_byteAt 31 = .ok (.ireturn, 1) := by decide +kernel
theorem dX9_wordThere_0 : decode cX9_wordThere 0 = .ok (.iconst 0, 1) := by decide +kernel
theorem dX9_wordThere_1 : decode cX9_wordThere 1 = .ok (.istore_n 1, 1) := by decide +kernel
theorem dX9_wordThere_2 : decode cX9_wordThere 2 = .ok (.iload_n 1, 1) := by decide +kernel
theorem dX9_wordThere_3 : decode cX9_wordThere 3 = .ok (.bipush 9, 2) := by decide +kernel
theorem dX9_wordThere_5 : decode cX9_wordThere 5 = .ok (.if_icmp .ge 22, 3) := by decide +kernel
theorem dX9_wordThere_8 : decode cX9_wordThere 8 = .ok (.aload_n 0, 1) := by decide +kernel
theorem dX9_wordThere_9 : decode cX9_wordThere 9 = .ok (.iload_n 1, 1) := by decide +kernel
theorem dX9_wordThere_10 : decode cX9_wordThere 10 = .ok (.invokestatic 124, 3) := by decide +kernel
theorem dX9_wordThere_13 : decode cX9_wordThere 13 = .ok (.invokevirtual 128, 3) := by decide +kernel
theorem dX9_wordThere_16 : decode cX9_wordThere 16 = .ok (.ifCond .eq 5, 3) := by decide +kernel
theorem dX9_wordThere_19 : decode cX9_wordThere 19 = .ok (.iload_n 1, 1) := by decide +kernel
theorem dX9_wordThere_20 : decode cX9_wordThere 20 = .ok (.ireturn, 1) := by decide +kernel
theorem dX9_wordThere_21 : decode cX9_wordThere 21 = .ok (.iinc 1 1, 3) := by decide +kernel
theorem dX9_wordThere_24 : decode cX9_wordThere 24 = .ok (.goto (-22), 3) := by decide +kernel
theorem dX9_wordThere_27 : decode cX9_wordThere 27 = .ok (.bipush 9, 2) := by decide +kernel
theorem dX9_wordThere_29 : decode cX9_wordThere 29 = .ok (.ireturn, 1) := by decide +kernel
theorem dX9_spells_0 : decode cX9_spells 0 = .ok (.aload_n 0, 1) := by decide +kernel
theorem dX9_spells_1 : decode cX9_spells 1 = .ok (.getfield 30, 3) := by decide +kernel
theorem dX9_spells_4 : decode cX9_spells 4 = .ok (.aload_n 0, 1) := by decide +kernel
theorem dX9_spells_5 : decode cX9_spells 5 = .ok (.getfield 110, 3) := by decide +kernel
theorem dX9_spells_8 : decode cX9_spells 8 = .ok (.isub, 1) := by decide +kernel
theorem dX9_spells_9 : decode cX9_spells 9 = .ok (.aload_n 1, 1) := by decide +kernel
theorem dX9_spells_10 : decode cX9_spells 10 = .ok (.invokevirtual 132, 3) := by decide +kernel
theorem dX9_spells_13 : decode cX9_spells 13 = .ok (.if_icmp .eq 5, 3) := by decide +kernel
theorem dX9_spells_16 : decode cX9_spells 16 = .ok (.iconst 0, 1) := by decide +kernel
theorem dX9_spells_17 : decode cX9_spells 17 = .ok (.ireturn, 1) := by decide +kernel
theorem dX9_spells_18 : decode cX9_spells 18 = .ok (.iconst 0, 1) := by decide +kernel
theorem dX9_spells_19 : decode cX9_spells 19 = .ok (.istore_n 2, 1) := by decide +kernel
theorem dX9_spells_20 : decode cX9_spells 20 = .ok (.iload_n 2, 1) := by decide +kernel
theorem dX9_spells_21 : decode cX9_spells 21 = .ok (.aload_n 1, 1) := by decide +kernel
theorem dX9_spells_22 : decode cX9_spells 22 = .ok (.invokevirtual 132, 3) := by decide +kernel
theorem dX9_spells_25 : decode cX9_spells 25 = .ok (.if_icmp .ge 29, 3) := by decide +kernel
theorem dX9_spells_28 : decode cX9_spells 28 = .ok (.aload_n 0, 1) := by decide +kernel
theorem dX9_spells_29 : decode cX9_spells 29 = .ok (.aload_n 0, 1) := by decide +kernel
theorem dX9_spells_30 : decode cX9_spells 30 = .ok (.getfield 110, 3) := by decide +kernel
theorem dX9_spells_33 : decode cX9_spells 33 = .ok (.iload_n 2, 1) := by decide +kernel
theorem dX9_spells_34 : decode cX9_spells 34 = .ok (.iadd, 1) := by decide +kernel
