theorem dX9_spells_35 : decode cX9_spells 35 = .ok (.invokevirtual 117, 3) := by decide +kernel
theorem dX9_spells_38 : decode cX9_spells 38 = .ok (.aload_n 1, 1) := by decide +kernel
theorem dX9_spells_39 : decode cX9_spells 39 = .ok (.iload_n 2, 1) := by decide +kernel
theorem dX9_spells_40 : decode cX9_spells 40 = .ok (.invokevirtual 136, 3) := by decide +kernel
theorem dX9_spells_43 : decode cX9_spells 43 = .ok (.if_icmp .eq 5, 3) := by decide +kernel
theorem dX9_spells_46 : decode cX9_spells 46 = .ok (.iconst 0, 1) := by decide +kernel
theorem dX9_spells_47 : decode cX9_spells 47 = .ok (.ireturn, 1) := by decide +kernel
theorem dX9_spells_48 : decode cX9_spells 48 = .ok (.iinc 2 1, 3) := by decide +kernel
theorem dX9_spells_51 : decode cX9_spells 51 = .ok (.goto (-31), 3) := by decide +kernel
theorem dX9_spells_54 : decode cX9_spells 54 = .ok (.iconst 1, 1) := by decide +kernel
theorem dX9_spells_55 : decode cX9_spells 55 = .ok (.ireturn, 1) := by decide +kernel
theorem dX9_wordOf_0 : decode cX9_wordOf 0 = .ok (.iload_n 0, 1) := by decide +kernel
theorem dX9_wordOf_1 : decode cX9_wordOf 1 = .ok (.tableswitch 71 0 7 #[47, 50, 53, 56, 59, 62, 65, 68], 47) := by decide +kernel
theorem dX9_wordOf_48 : decode cX9_wordOf 48 = .ok (.ldc 140, 2) := by decide +kernel
theorem dX9_wordOf_50 : decode cX9_wordOf 50 = .ok (.areturn, 1) := by decide +kernel
theorem dX9_wordOf_51 : decode cX9_wordOf 51 = .ok (.ldc 142, 2) := by decide +kernel
theorem dX9_wordOf_53 : decode cX9_wordOf 53 = .ok (.areturn, 1) := by decide +kernel
theorem dX9_wordOf_54 : decode cX9_wordOf 54 = .ok (.ldc 144, 2) := by decide +kernel
theorem dX9_wordOf_56 : decode cX9_wordOf 56 = .ok (.areturn, 1) := by decide +kernel
theorem dX9_wordOf_57 : decode cX9_wordOf 57 = .ok (.ldc 146, 2) := by decide +kernel
theorem dX9_wordOf_59 : decode cX9_wordOf 59 = .ok (.areturn, 1) := by decide +kernel
theorem dX9_wordOf_60 : decode cX9_wordOf 60 = .ok (.ldc 148, 2) := by decide +kernel
theorem dX9_wordOf_62 : decode cX9_wordOf 62 = .ok (.areturn, 1) := by decide +kernel
theorem dX9_wordOf_63 : decode cX9_wordOf 63 = .ok (.ldc 150, 2) := by decide +kernel
theorem dX9_wordOf_65 : decode cX9_wordOf 65 = .ok (.areturn, 1) := by decide +kernel
theorem dX9_wordOf_66 : decode cX9_wordOf 66 = .ok (.ldc 152, 2) := by decide +kernel
theorem dX9_wordOf_68 : decode cX9_wordOf 68 = .ok (.areturn, 1) := by decide +kernel
theorem dX9_wordOf_69 : decode cX9_wordOf 69 = .ok (.ldc 154, 2) := by decide +kernel
theorem dX9_wordOf_71 : decode cX9_wordOf 71 = .ok (.areturn, 1) := by decide +kernel
theorem dX9_wordOf_72 : decode cX9_wordOf 72 = .ok (.ldc 156, 2) := by decide +kernel
theorem dX9_wordOf_74 : decode cX9_wordOf 74 = .ok (.areturn, 1) := by decide +kernel
theorem dX10_init_0 : decode cX10_init 0 = .ok (.aload_n 0, 1) := by decide +kernel
theorem dX10_init_1 : decode cX10_init 1 = .ok (.invokespecial 1, 3) := by decide +kernel
theorem dX10_init_4 : decode cX10_init 4 = .ok (.aload_n 0, 1) := by decide +kernel
theorem dX10_init_5 : decode cX10_init 5 = .ok (.new 7, 3) := by decide +kernel
theorem dX10_init_8 : decode cX10_init 8 = .ok (.dup, 1) := by decide +kernel
theorem dX10_init_9 : decode cX10_init 9 = .ok (.invokespecial 9, 3) := by decide +kernel
theorem dX10_init_12 : decode cX10_init 12 = .ok (.putfield 10, 3) := by decide +kernel
theorem dX10_init_15 : decode cX10_init 15 = .ok (.aload_n 0, 1) := by decide +kernel
theorem dX10_init_16 : decode cX10_init 16 = .ok (.new 7, 3) := by decide +kernel
theorem dX10_init_19 : decode cX10_init 19 = .ok (.dup, 1) := by decide +kernel
theorem dX10_init_20 : decode cX10_init 20 = .ok (.invokespecial 9, 3) := by decide +kernel
theorem dX10_init_23 : decode cX10_init 23 = .ok (.putfield 16, 3) := by decide +kernel
theorem dX10_init_26 : decode cX10_init 26 = .ok (.aload_n 0, 1) := by decide +kernel
theorem dX10_init_27 : decode cX10_init 27 = .ok (.iconst 2, 1) := by decide +kernel
theorem dX10_init_28 : decode cX10_init 28 = .ok (.anewarray 19, 3) := by decide +kernel
theorem dX10_init_31 : decode cX10_init 31 = .ok (.putfield 21, 3) := by decide +kernel
theorem dX10_init_34 : decode cX10_init 34 = .ok (.iconst 0, 1) := by decide +kernel
theorem dX10_init_35 : decode cX10_init 35 = .ok (.istore_n 1, 1) := by decide +kernel
theorem dX10_init_36 : decode cX10_init 36 = .ok (.iload_n 1, 1) := by decide +kernel
theorem dX10_init_37 : decode cX10_init 37 = .ok (.aload_n 0, 1) := by decide +kernel
theorem dX10_init_38 : decode cX10_init 38 = .ok (.getfield 21, 3) := by decide +kernel
theorem dX10_init_41 : decode cX10_init 41 = .ok (.arraylength, 1) := by decide +kernel
theorem dX10_init_42 : decode cX10_init 42 = .ok (.if_icmp .ge 22, 3) := by decide +kernel
theorem dX10_init_45 : decode cX10_init 45 = .ok (.aload_n 0, 1) := by decide +kernel
theorem dX10_init_46 : decode cX10_init 46 = .ok (.getfield 21, 3) := by decide +kernel
theorem dX10_init_49 : decode cX10_init 49 = .ok (.iload_n 1, 1) := by decide +kernel
theorem dX10_init_50 : decode cX10_init 50 = .ok (.new 19, 3) := by decide +kernel
theorem dX10_init_53 : decode cX10_init 53 = .ok (.dup, 1) := by decide +kernel
theorem dX10_init_54 : decode cX10_init 54 = .ok (.invokespecial 25, 3) := by decide +kernel
theorem dX10_init_57 : decode cX10_init 57 = .ok (.aastore, 1) := by decide +kernel
theorem dX10_init_58 : decode cX10_init 58 = .ok (.iinc 1 1, 3) := by decide +kernel
theorem dX10_init_61 : decode cX10_init 61 = .ok (.goto (-25), 3) := by decide +kernel
theorem dX10_init_64 : decode cX10_init 64 = .ok (.aload_n 0, 1) := by decide +kernel
theorem dX10_init_65 : decode cX10_init 65 = .ok (.new 26, 3) := by decide +kernel
theorem dX10_init_68 : decode cX10_init 68 = .ok (.dup, 1) := by decide +kernel
theorem dX10_init_69 : decode cX10_init 69 = .ok (.invokespecial 28, 3) := by decide +kernel
theorem dX10_init_72 : decode cX10_init 72 = .ok (.putfield 29, 3) := by decide +kernel
theorem dX10_init_75 : decode cX10_init 75 = .ok (.aload_n 0, 1) := by decide +kernel
theorem dX10_init_76 : decode cX10_init 76 = .ok (.new 33, 3) := by decide +kernel
theorem dX10_init_79 : decode cX10_init 79 = .ok (.dup, 1) := by decide +kernel
theorem dX10_init_80 : decode cX10_init 80 = .ok (.invokespecial 35, 3) := by decide +kernel
theorem dX10_init_83 : decode cX10_init 83 = .ok (.putfield 36, 3) := by decide +kernel
theorem dX10_init_86 : decode cX10_init 86 = .ok (.aload_n 0, 1) := by decide +kernel
theorem dX10_init_87 : decode cX10_init 87 = .ok (.new 40, 3) := by decide +kernel
theorem dX10_init_90 : decode cX10_init 90 = .ok (.dup, 1) := by decide +kernel
theorem dX10_init_91 : decode cX10_init 91 = .ok (.invokespecial 42, 3) := by decide +kernel
theorem dX10_init_94 : decode cX10_init 94 = .ok (.putfield 43, 3) := by decide +kernel
theorem dX10_init_97 : decode cX10_init 97 = .ok (.aload_n 0, 1) := by decide +kernel
theorem dX10_init_98 : decode cX10_init 98 = .ok (.new 47, 3) := by decide +kernel
theorem dX10_init_101 : decode cX10_init 101 = .ok (.dup, 1) := by decide +kernel
theorem dX10_init_102 : decode cX10_init 102 = .ok (.invokespecial 49, 3) := by decide +kernel
theorem dX10_init_105 : decode cX10_init 105 = .ok (.putfield 50, 3) := by decide +kernel
theorem dX10_init_108 : decode cX10_init 108 = .ok (.aload_n 0, 1) := by decide +kernel
theorem dX10_init_109 : decode cX10_init 109 = .ok (.iconst 4, 1) := by decide +kernel
theorem dX10_init_110 : decode cX10_init 110 = .ok (.anewarray 54, 3) := by decide +kernel
theorem dX10_init_113 : decode cX10_init 113 = .ok (.putfield 56, 3) := by decide +kernel
theorem dX10_init_116 : decode cX10_init 116 = .ok (.iconst 0, 1) := by decide +kernel
theorem dX10_init_117 : decode cX10_init 117 = .ok (.istore_n 1, 1) := by decide +kernel
theorem dX10_init_118 : decode cX10_init 118 = .ok (.iload_n 1, 1) := by decide +kernel
theorem dX10_init_119 : decode cX10_init 119 = .ok (.aload_n 0, 1) := by decide +kernel
theorem dX10_init_120 : decode cX10_init 120 = .ok (.getfield 56, 3) := by decide +kernel
theorem dX10_init_123 : decode cX10_init 123 = .ok (.arraylength, 1) := by decide +kernel
theorem dX10_init_124 : decode cX10_init 124 = .ok (.if_icmp .ge 22, 3) := by decide +kernel
theorem dX10_init_127 : decode cX10_init 127 = .ok (.aload_n 0, 1) := by decide +kernel
theorem dX10_init_128 : decode cX10_init 128 = .ok (.getfield 56, 3) := by decide +kernel
theorem dX10_init_131 : decode cX10_init 131 = .ok (.iload_n 1, 1) := by decide +kernel
theorem dX10_init_132 : decode cX10_init 132 = .ok (.new 54, 3) := by decide +kernel
theorem dX10_init_135 : decode cX10_init 135 = .ok (.dup, 1) := by decide +kernel
theorem dX10_init_136 : decode cX10_init 136 = .ok (.invokespecial 60, 3) := by decide +kernel
theorem dX10_init_139 : decode cX10_init 139 = .ok (.aastore, 1) := by decide +kernel
theorem dX10_init_140 : decode cX10_init 140 = .ok (.iinc 1 1, 3) := by decide +kernel
theorem dX10_init_143 : decode cX10_init 143 = .ok (.goto (-25), 3) := by decide +kernel
theorem dX10_init_146 : decode cX10_init 146 = .ok (.aload_n 0, 1) := by decide +kernel
theorem dX10_init_147 : decode cX10_init 147 = .ok (.iconst 0, 1) := by decide +kernel
theorem dX10_init_148 : decode cX10_init 148 = .ok (.putfield 61, 3) := by decide +kernel
theorem dX10_init_151 : decode cX10_init 151 = .ok (.return_, 1) := by decide +kernel
theorem dX10_feed_0 : decode cX10_feed 0 = .ok (.iload_n 1, 1) := by decide +kernel
theorem dX10_feed_1 : decode cX10_feed 1 = .ok (.ifCond .lt 9, 3) := by decide +kernel
theorem dX10_feed_4 : decode cX10_feed 4 = .ok (.iload_n 1, 1) := by decide +kernel
theorem dX10_feed_5 : decode cX10_feed 5 = .ok (.bipush 127, 2) := by decide +kernel
theorem dX10_feed_7 : decode cX10_feed 7 = .ok (.if_icmp .le 5, 3) := by decide +kernel
theorem dX10_feed_10 : decode cX10_feed 10 = .ok (.iconst (-1), 1) := by decide +kernel
theorem dX10_feed_11 : decode cX10_feed 11 = .ok (.ireturn, 1) := by decide +kernel
theorem dX10_feed_12 : decode cX10_feed 12 = .ok (.aload_n 0, 1) := by decide +kernel
theorem dX10_feed_13 : decode cX10_feed 13 = .ok (.getfield 29, 3) := by decide +kernel
theorem dX10_feed_16 : decode cX10_feed 16 = .ok (.iload_n 1, 1) := by decide +kernel
theorem dX10_feed_17 : decode cX10_feed 17 = .ok (.invokevirtual 65, 3) := by decide +kernel
theorem dX10_feed_20 : decode cX10_feed 20 = .ok (.ifCond .eq 13, 3) := by decide +kernel
theorem dX10_feed_23 : decode cX10_feed 23 = .ok (.aload_n 0, 1) := by decide +kernel
theorem dX10_feed_24 : decode cX10_feed 24 = .ok (.getfield 29, 3) := by decide +kernel
theorem dX10_feed_27 : decode cX10_feed 27 = .ok (.getfield 69, 3) := by decide +kernel
theorem dX10_feed_30 : decode cX10_feed 30 = .ok (.goto 5, 3) := by decide +kernel
theorem dX10_feed_33 : decode cX10_feed 33 = .ok (.bipush (-3), 2) := by decide +kernel
theorem dX10_feed_35 : decode cX10_feed 35 = .ok (.ireturn, 1) := by decide +kernel
theorem dX10_end_0 : decode cX10_end 0 = .ok (.aload_n 0, 1) := by decide +kernel
theorem dX10_end_1 : decode cX10_end 1 = .ok (.getfield 29, 3) := by decide +kernel
theorem dX10_end_4 : decode cX10_end 4 = .ok (.getfield 69, 3) := by decide +kernel
theorem dX10_end_7 : decode cX10_end 7 = .ok (.istore_n 2, 1) := by decide +kernel
theorem dX10_end_8 : decode cX10_end 8 = .ok (.iload_n 1, 1) := by decide +kernel
theorem dX10_end_9 : decode cX10_end 9 = .ok (.ifCond .lt 8, 3) := by decide +kernel
theorem dX10_end_12 : decode cX10_end 12 = .ok (.iload_n 1, 1) := by decide +kernel
theorem dX10_end_13 : decode cX10_end 13 = .ok (.iload_n 2, 1) := by decide +kernel
theorem dX10_end_14 : decode cX10_end 14 = .ok (.if_icmp .le 5, 3) := by decide +kernel
theorem dX10_end_17 : decode cX10_end 17 = .ok (.iconst (-1), 1) := by decide +kernel
theorem dX10_end_18 : decode cX10_end 18 = .ok (.ireturn, 1) := by decide +kernel
theorem dX10_end_19 : decode cX10_end 19 = .ok (.aload_n 0, 1) := by decide +kernel
theorem dX10_end_20 : decode cX10_end 20 = .ok (.getfield 29, 3) := by decide +kernel
theorem dX10_end_23 : decode cX10_end 23 = .ok (.iload_n 1, 1) := by decide +kernel
theorem dX10_end_24 : decode cX10_end 24 = .ok (.putfield 69, 3) := by decide +kernel
theorem dX10_end_27 : decode cX10_end 27 = .ok (.iload_n 2, 1) := by decide +kernel
theorem dX10_end_28 : decode cX10_end 28 = .ok (.ireturn, 1) := by decide +kernel
theorem dX10_text_0 : decode cX10_text 0 = .ok (.aload_n 0, 1) := by decide +kernel
theorem dX10_text_1 : decode cX10_text 1 = .ok (.getfield 29, 3) := by decide +kernel
theorem dX10_text_4 : decode cX10_text 4 = .ok (.aload_n 0, 1) := by decide +kernel
theorem dX10_text_5 : decode cX10_text 5 = .ok (.getfield 16, 3) := by decide +kernel
theorem dX10_text_8 : decode cX10_text 8 = .ok (.invokevirtual 72, 3) := by decide +kernel
theorem dX10_text_11 : decode cX10_text 11 = .ok (.istore_n 1, 1) := by decide +kernel
theorem dX10_text_12 : decode cX10_text 12 = .ok (.aload_n 0, 1) := by decide +kernel
theorem dX10_text_13 : decode cX10_text 13 = .ok (.getfield 29, 3) := by decide +kernel
theorem dX10_text_16 : decode cX10_text 16 = .ok (.iconst 0, 1) := by decide +kernel
theorem dX10_text_17 : decode cX10_text 17 = .ok (.putfield 69, 3) := by decide +kernel
theorem dX10_text_20 : decode cX10_text 20 = .ok (.aload_n 0, 1) := by decide +kernel
theorem dX10_text_21 : decode cX10_text 21 = .ok (.getfield 29, 3) := by decide +kernel
theorem dX10_text_24 : decode cX10_text 24 = .ok (.getfield 76, 3) := by decide +kernel
theorem dX10_text_27 : decode cX10_text 27 = .ok (.ifCond .eq 14, 3) := by decide +kernel
theorem dX10_text_30 : decode cX10_text 30 = .ok (.bipush (-10), 2) := by decide +kernel
theorem dX10_text_32 : decode cX10_text 32 = .ok (.aload_n 0, 1) := by decide +kernel
theorem dX10_text_33 : decode cX10_text 33 = .ok (.getfield 29, 3) := by decide +kernel
theorem dX10_text_36 : decode cX10_text 36 = .ok (.getfield 79, 3) := by decide +kernel
theorem dX10_text_39 : decode cX10_text 39 = .ok (.isub, 1) := by decide +kernel
theorem dX10_text_40 : decode cX10_text 40 = .ok (.ireturn, 1) := by decide +kernel
theorem dX10_text_41 : decode cX10_text 41 = .ok (.aload_n 0, 1) := by decide +kernel
theorem dX10_text_42 : decode cX10_text 42 = .ok (.getfield 10, 3) := by decide +kernel
theorem dX10_text_45 : decode cX10_text 45 = .ok (.aload_n 0, 1) := by decide +kernel
theorem dX10_text_46 : decode cX10_text 46 = .ok (.getfield 16, 3) := by decide +kernel
theorem dX10_text_49 : decode cX10_text 49 = .ok (.invokevirtual 82, 3) := by decide +kernel
theorem dX10_text_52 : decode cX10_text 52 = .ok (.aload_n 0, 1) := by decide +kernel
theorem dX10_text_53 : decode cX10_text 53 = .ok (.invokevirtual 86, 3) := by decide +kernel
theorem dX10_text_56 : decode cX10_text 56 = .ok (.iload_n 1, 1) := by decide +kernel
theorem dX10_text_57 : decode cX10_text 57 = .ok (.ireturn, 1) := by decide +kernel
theorem dX10_fault_0 : decode cX10_fault 0 = .ok (.aload_n 0, 1) := by decide +kernel
theorem dX10_fault_1 : decode cX10_fault 1 = .ok (.getfield 29, 3) := by decide +kernel
theorem dX10_fault_4 : decode cX10_fault 4 = .ok (.getfield 76, 3) := by decide +kernel
theorem dX10_fault_7 : decode cX10_fault 7 = .ok (.ireturn, 1) := by decide +kernel
theorem dX10_rule_0 : decode cX10_rule 0 = .ok (.iload_n 1, 1) := by decide +kernel
theorem dX10_rule_1 : decode cX10_rule 1 = .ok (.tableswitch 99 0 6 #[43, 51, 59, 67, 75, 83, 91], 43) := by decide +kernel
theorem dX10_rule_44 : decode cX10_rule 44 = .ok (.aload_n 0, 1) := by decide +kernel
theorem dX10_rule_45 : decode cX10_rule 45 = .ok (.getfield 10, 3) := by decide +kernel
theorem dX10_rule_48 : decode cX10_rule 48 = .ok (.getfield 89, 3) := by decide +kernel
theorem dX10_rule_51 : decode cX10_rule 51 = .ok (.ireturn, 1) := by decide +kernel
theorem dX10_rule_52 : decode cX10_rule 52 = .ok (.aload_n 0, 1) := by decide +kernel
theorem dX10_rule_53 : decode cX10_rule 53 = .ok (.getfield 10, 3) := by decide +kernel
theorem dX10_rule_56 : decode cX10_rule 56 = .ok (.getfield 92, 3) := by decide +kernel
theorem dX10_rule_59 : decode cX10_rule 59 = .ok (.ireturn, 1) := by decide +kernel
theorem dX10_rule_60 : decode cX10_rule 60 = .ok (.aload_n 0, 1) := by decide +kernel
theorem dX10_rule_61 : decode cX10_rule 61 = .ok (.getfield 10, 3) := by decide +kernel
theorem dX10_rule_64 : decode cX10_rule 64 = .ok (.getfield 95, 3) := by decide +kernel
theorem dX10_rule_67 : decode cX10_rule 67 = .ok (.ireturn, 1) := by decide +kernel
theorem dX10_rule_68 : decode cX10_rule 68 = .ok (.aload_n 0, 1) := by decide +kernel
theorem dX10_rule_69 : decode cX10_rule 69 = .ok (.getfield 10, 3) := by decide +kernel
theorem dX10_rule_72 : decode cX10_rule 72 = .ok (.getfield 98, 3) := by decide +kernel
theorem dX10_rule_75 : decode cX10_rule 75 = .ok (.ireturn, 1) := by decide +kernel
theorem dX10_rule_76 : decode cX10_rule 76 = .ok (.aload_n 0, 1) := by decide +kernel
theorem dX10_rule_77 : decode cX10_rule 77 = .ok (.getfield 10, 3) := by decide +kernel
theorem dX10_rule_80 : decode cX10_rule 80 = .ok (.invokevirtual 101, 3) := by decide +kernel
theorem dX10_rule_83 : decode cX10_rule 83 = .ok (.ireturn, 1) := by decide +kernel
theorem dX10_rule_84 : decode cX10_rule 84 = .ok (.aload_n 0, 1) := by decide +kernel
theorem dX10_rule_85 : decode cX10_rule 85 = .ok (.getfield 10, 3) := by decide +kernel
theorem dX10_rule_88 : decode cX10_rule 88 = .ok (.invokevirtual 105, 3) := by decide +kernel
theorem dX10_rule_91 : decode cX10_rule 91 = .ok (.ireturn, 1) := by decide +kernel
theorem dX10_rule_92 : decode cX10_rule 92 = .ok (.aload_n 0, 1) := by decide +kernel
theorem dX10_rule_93 : decode cX10_rule 93 = .ok (.getfield 10, 3) := by decide +kernel
theorem dX10_rule_96 : decode cX10_rule 96 = .ok (.invokevirtual 108, 3) := by decide +kernel
theorem dX10_rule_99 : decode cX10_rule 99 = .ok (.ireturn, 1) := by decide +kernel
theorem dX10_rule_100 : decode cX10_rule 100 = .ok (.iconst (-1), 1) := by decide +kernel
theorem dX10_rule_101 : decode cX10_rule 101 = .ok (.ireturn, 1) := by decide +kernel
theorem dX10_judge_0 : decode cX10_judge 0 = .ok (.aload_n 0, 1) := by decide +kernel
theorem dX10_judge_1 : decode cX10_judge 1 = .ok (.getfield 10, 3) := by decide +kernel
theorem dX10_judge_4 : decode cX10_judge 4 = .ok (.iload_n 1, 1) := by decide +kernel
theorem dX10_judge_5 : decode cX10_judge 5 = .ok (.invokevirtual 111, 3) := by decide +kernel
theorem dX10_judge_8 : decode cX10_judge 8 = .ok (.astore_n 3, 1) := by decide +kernel
theorem dX10_judge_9 : decode cX10_judge 9 = .ok (.aload_n 3, 1) := by decide +kernel
theorem dX10_judge_10 : decode cX10_judge 10 = .ok (.ifnonnull 5, 3) := by decide +kernel
theorem dX10_judge_13 : decode cX10_judge 13 = .ok (.iconst (-1), 1) := by decide +kernel
theorem dX10_judge_14 : decode cX10_judge 14 = .ok (.ireturn, 1) := by decide +kernel
theorem dX10_judge_15 : decode cX10_judge 15 = .ok (.iload_n 2, 1) := by decide +kernel
theorem dX10_judge_16 : decode cX10_judge 16 = .ok (.tableswitch 74 0 5 #[40, 45, 50, 55, 60, 65], 40) := by decide +kernel
theorem dX10_judge_56 : decode cX10_judge 56 = .ok (.aload_n 3, 1) := by decide +kernel
theorem dX10_judge_57 : decode cX10_judge 57 = .ok (.getfield 115, 3) := by decide +kernel
theorem dX10_judge_60 : decode cX10_judge 60 = .ok (.ireturn, 1) := by decide +kernel
theorem dX10_judge_61 : decode cX10_judge 61 = .ok (.aload_n 3, 1) := by decide +kernel
theorem dX10_judge_62 : decode cX10_judge 62 = .ok (.getfield 120, 3) := by decide +kernel
theorem dX10_judge_65 : decode cX10_judge 65 = .ok (.ireturn, 1) := by decide +kernel
theorem dX10_judge_66 : decode cX10_judge 66 = .ok (.aload_n 3, 1) := by decide +kernel
theorem dX10_judge_67 : decode cX10_judge 67 = .ok (.getfield 123, 3) := by decide +kernel
theorem dX10_judge_70 : decode cX10_judge 70 = .ok (.ireturn, 1) := by decide +kernel
theorem dX10_judge_71 : decode cX10_judge 71 = .ok (.aload_n 3, 1) := by decide +kernel
theorem dX10_judge_72 : decode cX10_judge 72 = .ok (.getfield 126, 3) := by decide +kernel
theorem dX10_judge_75 : decode cX10_judge 75 = .ok (.ireturn, 1) := by decide +kernel
theorem dX10_judge_76 : decode cX10_judge 76 = .ok (.aload_n 3, 1) := by decide +kernel
theorem dX10_judge_77 : decode cX10_judge 77 = .ok (.getfield 129, 3) := by decide +kernel
theorem dX10_judge_80 : decode cX10_judge 80 = .ok (.ireturn, 1) := by decide +kernel
theorem dX10_judge_81 : decode cX10_judge 81 = .ok (.aload_n 0, 1) := by decide +kernel
theorem dX10_judge_82 : decode cX10_judge 82 = .ok (.getfield 10, 3) := by decide +kernel
theorem dX10_judge_85 : decode cX10_judge 85 = .ok (.iload_n 1, 1) := by decide +kernel
theorem dX10_judge_86 : decode cX10_judge 86 = .ok (.invokevirtual 132, 3) := by decide +kernel
theorem dX10_judge_89 : decode cX10_judge 89 = .ok (.ireturn, 1) := by decide +kernel
theorem dX10_judge_90 : decode cX10_judge 90 = .ok (.iconst (-1), 1) := by decide +kernel
theorem dX10_judge_91 : decode cX10_judge 91 = .ok (.ireturn, 1) := by decide +kernel
theorem dX10_suit_0 : decode cX10_suit 0 = .ok (.aload_n 0, 1) := by decide +kernel
theorem dX10_suit_1 : decode cX10_suit 1 = .ok (.getfield 10, 3) := by decide +kernel
theorem dX10_suit_4 : decode cX10_suit 4 = .ok (.iload_n 1, 1) := by decide +kernel
theorem dX10_suit_5 : decode cX10_suit 5 = .ok (.invokevirtual 136, 3) := by decide +kernel
theorem dX10_suit_8 : decode cX10_suit 8 = .ok (.astore_n 3, 1) := by decide +kernel
theorem dX10_suit_9 : decode cX10_suit 9 = .ok (.aload_n 3, 1) := by decide +kernel
theorem dX10_suit_10 : decode cX10_suit 10 = .ok (.ifnonnull 5, 3) := by decide +kernel
theorem dX10_suit_13 : decode cX10_suit 13 = .ok (.iconst (-1), 1) := by decide +kernel
theorem dX10_suit_14 : decode cX10_suit 14 = .ok (.ireturn, 1) := by decide +kernel
theorem dX10_suit_15 : decode cX10_suit 15 = .ok (.iload_n 2, 1) := by decide +kernel
theorem dX10_suit_16 : decode cX10_suit 16 = .ok (.tableswitch 70 0 5 #[40, 45, 50, 55, 60, 65], 40) := by decide +kernel
theorem dX10_suit_56 : decode cX10_suit 56 = .ok (.aload_n 3, 1) := by decide +kernel
theorem dX10_suit_57 : decode cX10_suit 57 = .ok (.getfield 140, 3) := by decide +kernel
theorem dX10_suit_60 : decode cX10_suit 60 = .ok (.ireturn, 1) := by decide +kernel
theorem dX10_suit_61 : decode cX10_suit 61 = .ok (.aload_n 3, 1) := by decide +kernel
theorem dX10_suit_62 : decode cX10_suit 62 = .ok (.getfield 145, 3) := by decide +kernel
theorem dX10_suit_65 : decode cX10_suit 65 = .ok (.ireturn, 1) := by decide +kernel
theorem dX10_suit_66 : decode cX10_suit 66 = .ok (.aload_n 3, 1) := by decide +kernel
theorem dX10_suit_67 : decode cX10_suit 67 = .ok (.getfield 148, 3) := by decide +kernel
theorem dX10_suit_70 : decode cX10_suit 70 = .ok (.ireturn, 1) := by decide +kernel
theorem dX10_suit_71 : decode cX10_suit 71 = .ok (.aload_n 3, 1) := by decide +kernel
theorem dX10_suit_72 : decode cX10_suit 72 = .ok (.getfield 151, 3) := by decide +kernel
theorem dX10_suit_75 : decode cX10_suit 75 = .ok (.ireturn, 1) := by decide +kernel
theorem dX10_suit_76 : decode cX10_suit 76 = .ok (.aload_n 3, 1) := by decide +kernel
theorem dX10_suit_77 : decode cX10_suit 77 = .ok (.getfield 152, 3) := by decide +kernel
theorem dX10_suit_80 : decode cX10_suit 80 = .ok (.ireturn, 1) := by decide +kernel
theorem dX10_suit_81 : decode cX10_suit 81 = .ok (.aload_n 3, 1) := by decide +kernel
theorem dX10_suit_82 : decode cX10_suit 82 = .ok (.getfield 155, 3) := by decide +kernel
theorem dX10_suit_85 : decode cX10_suit 85 = .ok (.ireturn, 1) := by decide +kernel
theorem dX10_suit_86 : decode cX10_suit 86 = .ok (.iconst (-1), 1) := by decide +kernel
theorem dX10_suit_87 : decode cX10_suit 87 = .ok (.ireturn, 1) := by decide +kernel
theorem dX10_tenth_0 : decode cX10_tenth 0 = .ok (.aload_n 0, 1) := by decide +kernel
theorem dX10_tenth_1 : decode cX10_tenth 1 = .ok (.getfield 10, 3) := by decide +kernel
theorem dX10_tenth_4 : decode cX10_tenth 4 = .ok (.iload_n 1, 1) := by decide +kernel
theorem dX10_tenth_5 : decode cX10_tenth 5 = .ok (.invokevirtual 111, 3) := by decide +kernel
theorem dX10_tenth_8 : decode cX10_tenth 8 = .ok (.astore_n 3, 1) := by decide +kernel
theorem dX10_tenth_9 : decode cX10_tenth 9 = .ok (.aload_n 3, 1) := by decide +kernel
theorem dX10_tenth_10 : decode cX10_tenth 10 = .ok (.ifnull 13, 3) := by decide +kernel
theorem dX10_tenth_13 : decode cX10_tenth 13 = .ok (.iload_n 2, 1) := by decide +kernel
theorem dX10_tenth_14 : decode cX10_tenth 14 = .ok (.iconst 1, 1) := by decide +kernel
theorem dX10_tenth_15 : decode cX10_tenth 15 = .ok (.bipush 60, 2) := by decide +kernel
theorem dX10_tenth_17 : decode cX10_tenth 17 = .ok (.invokestatic 158, 3) := by decide +kernel
theorem dX10_tenth_20 : decode cX10_tenth 20 = .ok (.ifCond .ne 5, 3) := by decide +kernel
theorem dX10_tenth_23 : decode cX10_tenth 23 = .ok (.iconst (-1), 1) := by decide +kernel
theorem dX10_tenth_24 : decode cX10_tenth 24 = .ok (.ireturn, 1) := by decide +kernel
theorem dX10_tenth_25 : decode cX10_tenth 25 = .ok (.aload_n 3, 1) := by decide +kernel
theorem dX10_tenth_26 : decode cX10_tenth 26 = .ok (.getfield 115, 3) := by decide +kernel
theorem dX10_tenth_29 : decode cX10_tenth 29 = .ok (.iload_n 2, 1) := by decide +kernel
theorem dX10_tenth_30 : decode cX10_tenth 30 = .ok (.invokestatic 162, 3) := by decide +kernel
theorem dX10_tenth_33 : decode cX10_tenth 33 = .ok (.ireturn, 1) := by decide +kernel
theorem dX10_alter_0 : decode cX10_alter 0 = .ok (.aload_n 0, 1) := by decide +kernel
theorem dX10_alter_1 : decode cX10_alter 1 = .ok (.getfield 10, 3) := by decide +kernel
theorem dX10_alter_4 : decode cX10_alter 4 = .ok (.iload_n 1, 1) := by decide +kernel
theorem dX10_alter_5 : decode cX10_alter 5 = .ok (.invokevirtual 111, 3) := by decide +kernel
theorem dX10_alter_8 : decode cX10_alter 8 = .ok (.astore 4, 2) := by decide +kernel
theorem dX10_alter_10 : decode cX10_alter 10 = .ok (.aload 4, 2) := by decide +kernel
theorem dX10_alter_12 : decode cX10_alter 12 = .ok (.ifnonnull 5, 3) := by decide +kernel
theorem dX10_alter_15 : decode cX10_alter 15 = .ok (.iconst (-1), 1) := by decide +kernel
theorem dX10_alter_16 : decode cX10_alter 16 = .ok (.ireturn, 1) := by decide +kernel
theorem dX10_alter_17 : decode cX10_alter 17 = .ok (.iload_n 2, 1) := by decide +kernel
theorem dX10_alter_18 : decode cX10_alter 18 = .ok (.ifCond .ne 28, 3) := by decide +kernel
theorem dX10_alter_21 : decode cX10_alter 21 = .ok (.iload_n 3, 1) := by decide +kernel
theorem dX10_alter_22 : decode cX10_alter 22 = .ok (.iconst 0, 1) := by decide +kernel
theorem dX10_alter_23 : decode cX10_alter 23 = .ok (.iconst 3, 1) := by decide +kernel
theorem dX10_alter_24 : decode cX10_alter 24 = .ok (.invokestatic 158, 3) := by decide +kernel
theorem dX10_alter_27 : decode cX10_alter 27 = .ok (.ifCond .eq 19, 3) := by decide +kernel
theorem dX10_alter_30 : decode cX10_alter 30 = .ok (.aload 4, 2) := by decide +kernel
theorem dX10_alter_32 : decode cX10_alter 32 = .ok (.getfield 115, 3) := by decide +kernel
theorem dX10_alter_35 : decode cX10_alter 35 = .ok (.istore 5, 2) := by decide +kernel
theorem dX10_alter_37 : decode cX10_alter 37 = .ok (.aload 4, 2) := by decide +kernel
theorem dX10_alter_39 : decode cX10_alter 39 = .ok (.iload_n 3, 1) := by decide +kernel
theorem dX10_alter_40 : decode cX10_alter 40 = .ok (.putfield 115, 3) := by decide +kernel
theorem dX10_alter_43 : decode cX10_alter 43 = .ok (.goto 67, 3) := by decide +kernel
theorem dX10_alter_46 : decode cX10_alter 46 = .ok (.iload_n 2, 1) := by decide +kernel
theorem dX10_alter_47 : decode cX10_alter 47 = .ok (.iconst 1, 1) := by decide +kernel
theorem dX10_alter_48 : decode cX10_alter 48 = .ok (.if_icmp .ne 29, 3) := by decide +kernel
theorem dX10_alter_51 : decode cX10_alter 51 = .ok (.iload_n 3, 1) := by decide +kernel
theorem dX10_alter_52 : decode cX10_alter 52 = .ok (.iconst 1, 1) := by decide +kernel
theorem dX10_alter_53 : decode cX10_alter 53 = .ok (.bipush 20, 2) := by decide +kernel
theorem dX10_alter_55 : decode cX10_alter 55 = .ok (.invokestatic 158, 3) := by decide +kernel
theorem dX10_alter_58 : decode cX10_alter 58 = .ok (.ifCond .eq 19, 3) := by decide +kernel
theorem dX10_alter_61 : decode cX10_alter 61 = .ok (.aload 4, 2) := by decide +kernel
theorem dX10_alter_63 : decode cX10_alter 63 = .ok (.getfield 120, 3) := by decide +kernel
theorem dX10_alter_66 : decode cX10_alter 66 = .ok (.istore 5, 2) := by decide +kernel
theorem dX10_alter_68 : decode cX10_alter 68 = .ok (.aload 4, 2) := by decide +kernel
theorem dX10_alter_70 : decode cX10_alter 70 = .ok (.iload_n 3, 1) := by decide +kernel
theorem dX10_alter_71 : decode cX10_alter 71 = .ok (.putfield 120, 3) := by decide +kernel
theorem dX10_alter_74 : decode cX10_alter 74 = .ok (.goto 36, 3) := by decide +kernel
theorem dX10_alter_77 : decode cX10_alter 77 = .ok (.iload_n 2, 1) := by decide +kernel
theorem dX10_alter_78 : decode cX10_alter 78 = .ok (.iconst 2, 1) := by decide +kernel
theorem dX10_alter_79 : decode cX10_alter 79 = .ok (.if_icmp .ne 29, 3) := by decide +kernel
theorem dX10_alter_82 : decode cX10_alter 82 = .ok (.iload_n 3, 1) := by decide +kernel
theorem dX10_alter_83 : decode cX10_alter 83 = .ok (.iconst 0, 1) := by decide +kernel
theorem dX10_alter_84 : decode cX10_alter 84 = .ok (.bipush 99, 2) := by decide +kernel
theorem dX10_alter_86 : decode cX10_alter 86 = .ok (.invokestatic 158, 3) := by decide +kernel
theorem dX10_alter_89 : decode cX10_alter 89 = .ok (.ifCond .eq 19, 3) := by decide +kernel
theorem dX10_alter_92 : decode cX10_alter 92 = .ok (.aload 4, 2) := by decide +kernel
theorem dX10_alter_94 : decode cX10_alter 94 = .ok (.getfield 123, 3) := by decide +kernel
theorem dX10_alter_97 : decode cX10_alter 97 = .ok (.istore 5, 2) := by decide +kernel
theorem dX10_alter_99 : decode cX10_alter 99 = .ok (.aload 4, 2) := by decide +kernel
theorem dX10_alter_101 : decode cX10_alter 101 = .ok (.iload_n 3, 1) := by decide +kernel
theorem dX10_alter_102 : decode cX10_alter 102 = .ok (.putfield 123, 3) := by decide +kernel
theorem dX10_alter_105 : decode cX10_alter 105 = .ok (.goto 5, 3) := by decide +kernel
theorem dX10_alter_108 : decode cX10_alter 108 = .ok (.iconst (-1), 1) := by decide +kernel
theorem dX10_alter_109 : decode cX10_alter 109 = .ok (.ireturn, 1) := by decide +kernel
theorem dX10_alter_110 : decode cX10_alter 110 = .ok (.iload 5, 2) := by decide +kernel
theorem dX10_alter_112 : decode cX10_alter 112 = .ok (.ireturn, 1) := by decide +kernel
theorem dX10_amend_0 : decode cX10_amend 0 = .ok (.aload_n 0, 1) := by decide +kernel
theorem dX10_amend_1 : decode cX10_amend 1 = .ok (.getfield 10, 3) := by decide +kernel
theorem dX10_amend_4 : decode cX10_amend 4 = .ok (.iload_n 1, 1) := by decide +kernel
theorem dX10_amend_5 : decode cX10_amend 5 = .ok (.invokevirtual 136, 3) := by decide +kernel
theorem dX10_amend_8 : decode cX10_amend 8 = .ok (.astore 4, 2) := by decide +kernel
theorem dX10_amend_10 : decode cX10_amend 10 = .ok (.aload 4, 2) := by decide +kernel
theorem dX10_amend_12 : decode cX10_amend 12 = .ok (.ifnull 13, 3) := by decide +kernel
theorem dX10_amend_15 : decode cX10_amend 15 = .ok (.aload 4, 2) := by decide +kernel
theorem dX10_amend_17 : decode cX10_amend 17 = .ok (.iload_n 2, 1) := by decide +kernel
theorem dX10_amend_18 : decode cX10_amend 18 = .ok (.iload_n 3, 1) := by decide +kernel
theorem dX10_amend_19 : decode cX10_amend 19 = .ok (.invokevirtual 166, 3) := by decide +kernel
theorem dX10_amend_22 : decode cX10_amend 22 = .ok (.ifCond .ne 5, 3) := by decide +kernel
theorem dX10_amend_25 : decode cX10_amend 25 = .ok (.iconst (-1), 1) := by decide +kernel
theorem dX10_amend_26 : decode cX10_amend 26 = .ok (.ireturn, 1) := by decide +kernel
theorem dX10_amend_27 : decode cX10_amend 27 = .ok (.aload 4, 2) := by decide +kernel
theorem dX10_amend_29 : decode cX10_amend 29 = .ok (.invokevirtual 170, 3) := by decide +kernel
theorem dX10_amend_32 : decode cX10_amend 32 = .ok (.ifCond .eq 8, 3) := by decide +kernel
theorem dX10_amend_35 : decode cX10_amend 35 = .ok (.bipush (-2), 2) := by decide +kernel
theorem dX10_amend_37 : decode cX10_amend 37 = .ok (.goto 10, 3) := by decide +kernel
theorem dX10_amend_40 : decode cX10_amend 40 = .ok (.aload 4, 2) := by decide +kernel
theorem dX10_amend_42 : decode cX10_amend 42 = .ok (.iload_n 2, 1) := by decide +kernel
theorem dX10_amend_43 : decode cX10_amend 43 = .ok (.iload_n 3, 1) := by decide +kernel
theorem dX10_amend_44 : decode cX10_amend 44 = .ok (.invokevirtual 174, 3) := by decide +kernel
theorem dX10_amend_47 : decode cX10_amend 47 = .ok (.ireturn, 1) := by decide +kernel
theorem dX10_crime_0 : decode cX10_crime 0 = .ok (.iload_n 1, 1) := by decide +kernel
theorem dX10_crime_1 : decode cX10_crime 1 = .ok (.iconst 0, 1) := by decide +kernel
theorem dX10_crime_2 : decode cX10_crime 2 = .ok (.bipush 99, 2) := by decide +kernel
theorem dX10_crime_4 : decode cX10_crime 4 = .ok (.invokestatic 158, 3) := by decide +kernel
theorem dX10_crime_7 : decode cX10_crime 7 = .ok (.ifCond .ne 5, 3) := by decide +kernel
theorem dX10_crime_10 : decode cX10_crime 10 = .ok (.iconst (-1), 1) := by decide +kernel
theorem dX10_crime_11 : decode cX10_crime 11 = .ok (.ireturn, 1) := by decide +kernel
theorem dX10_crime_12 : decode cX10_crime 12 = .ok (.aload_n 0, 1) := by decide +kernel
theorem dX10_crime_13 : decode cX10_crime 13 = .ok (.getfield 10, 3) := by decide +kernel
theorem dX10_crime_16 : decode cX10_crime 16 = .ok (.getfield 98, 3) := by decide +kernel
theorem dX10_crime_19 : decode cX10_crime 19 = .ok (.istore_n 2, 1) := by decide +kernel
theorem dX10_crime_20 : decode cX10_crime 20 = .ok (.aload_n 0, 1) := by decide +kernel
theorem dX10_crime_21 : decode cX10_crime 21 = .ok (.getfield 10, 3) := by decide +kernel
theorem dX10_crime_24 : decode cX10_crime 24 = .ok (.iload_n 1, 1) := by decide +kernel
theorem dX10_crime_25 : decode cX10_crime 25 = .ok (.putfield 98, 3) := by decide +kernel
theorem dX10_crime_28 : decode cX10_crime 28 = .ok (.iload_n 2, 1) := by decide +kernel
theorem dX10_crime_29 : decode cX10_crime 29 = .ok (.ireturn, 1) := by decide +kernel
theorem dX10_can_0 : decode cX10_can 0 = .ok (.aload_n 0, 1) := by decide +kernel
theorem dX10_can_1 : decode cX10_can 1 = .ok (.getfield 10, 3) := by decide +kernel
theorem dX10_can_4 : decode cX10_can 4 = .ok (.iload_n 1, 1) := by decide +kernel
theorem dX10_can_5 : decode cX10_can 5 = .ok (.invokevirtual 136, 3) := by decide +kernel
theorem dX10_can_8 : decode cX10_can 8 = .ok (.astore_n 3, 1) := by decide +kernel
theorem dX10_can_9 : decode cX10_can 9 = .ok (.aload_n 3, 1) := by decide +kernel
theorem dX10_can_10 : decode cX10_can 10 = .ok (.ifnull 18, 3) := by decide +kernel
theorem dX10_can_13 : decode cX10_can 13 = .ok (.iload_n 2, 1) := by decide +kernel
theorem dX10_can_14 : decode cX10_can 14 = .ok (.aload_n 3, 1) := by decide +kernel
theorem dX10_can_15 : decode cX10_can 15 = .ok (.getfield 145, 3) := by decide +kernel
theorem dX10_can_18 : decode cX10_can 18 = .ok (.aload_n 3, 1) := by decide +kernel
theorem dX10_can_19 : decode cX10_can 19 = .ok (.getfield 148, 3) := by decide +kernel
theorem dX10_can_22 : decode cX10_can 22 = .ok (.invokestatic 158, 3) := by decide +kernel
theorem dX10_can_25 : decode cX10_can 25 = .ok (.ifCond .ne 5, 3) := by decide +kernel
theorem dX10_can_28 : decode cX10_can 28 = .ok (.iconst (-1), 1) := by decide +kernel
theorem dX10_can_29 : decode cX10_can 29 = .ok (.ireturn, 1) := by decide +kernel
theorem dX10_can_30 : decode cX10_can 30 = .ok (.iconst 0, 1) := by decide +kernel
theorem dX10_can_31 : decode cX10_can 31 = .ok (.istore 4, 2) := by decide +kernel
theorem dX10_can_33 : decode cX10_can 33 = .ok (.iconst 0, 1) := by decide +kernel
theorem dX10_can_34 : decode cX10_can 34 = .ok (.istore 5, 2) := by decide +kernel
theorem dX10_can_36 : decode cX10_can 36 = .ok (.iload 5, 2) := by decide +kernel
theorem dX10_can_38 : decode cX10_can 38 = .ok (.aload_n 0, 1) := by decide +kernel
theorem dX10_can_39 : decode cX10_can 39 = .ok (.getfield 10, 3) := by decide +kernel
theorem dX10_can_42 : decode cX10_can 42 = .ok (.getfield 89, 3) := by decide +kernel
theorem dX10_can_45 : decode cX10_can 45 = .ok (.if_icmp .ge 39, 3) := by decide +kernel
theorem dX10_can_48 : decode cX10_can 48 = .ok (.aload_n 0, 1) := by decide +kernel
theorem dX10_can_49 : decode cX10_can 49 = .ok (.getfield 10, 3) := by decide +kernel
theorem dX10_can_52 : decode cX10_can 52 = .ok (.aload_n 3, 1) := by decide +kernel
theorem dX10_can_53 : decode cX10_can 53 = .ok (.aload_n 0, 1) := by decide +kernel
theorem dX10_can_54 : decode cX10_can 54 = .ok (.getfield 10, 3) := by decide +kernel
theorem dX10_can_57 : decode cX10_can 57 = .ok (.iload 5, 2) := by decide +kernel
theorem dX10_can_59 : decode cX10_can 59 = .ok (.invokevirtual 111, 3) := by decide +kernel
theorem dX10_can_62 : decode cX10_can 62 = .ok (.iload_n 2, 1) := by decide +kernel
theorem dX10_can_63 : decode cX10_can 63 = .ok (.invokevirtual 177, 3) := by decide +kernel
theorem dX10_can_66 : decode cX10_can 66 = .ok (.ifCond .eq 12, 3) := by decide +kernel
theorem dX10_can_69 : decode cX10_can 69 = .ok (.iload 4, 2) := by decide +kernel
theorem dX10_can_71 : decode cX10_can 71 = .ok (.iconst 1, 1) := by decide +kernel
theorem dX10_can_72 : decode cX10_can 72 = .ok (.iload 5, 2) := by decide +kernel
theorem dX10_can_74 : decode cX10_can 74 = .ok (.ishl, 1) := by decide +kernel
theorem dX10_can_75 : decode cX10_can 75 = .ok (.ior, 1) := by decide +kernel
theorem dX10_can_76 : decode cX10_can 76 = .ok (.istore 4, 2) := by decide +kernel
theorem dX10_can_78 : decode cX10_can 78 = .ok (.iinc 5 1, 3) := by decide +kernel
theorem dX10_can_81 : decode cX10_can 81 = .ok (.goto (-45), 3) := by decide +kernel
theorem dX10_can_84 : decode cX10_can 84 = .ok (.iload 4, 2) := by decide +kernel
theorem dX10_can_86 : decode cX10_can 86 = .ok (.ireturn, 1) := by decide +kernel
theorem dX10_give_0 : decode cX10_give 0 = .ok (.aload_n 0, 1) := by decide +kernel
theorem dX10_give_1 : decode cX10_give 1 = .ok (.getfield 10, 3) := by decide +kernel
theorem dX10_give_4 : decode cX10_give 4 = .ok (.iload_n 1, 1) := by decide +kernel
theorem dX10_give_5 : decode cX10_give 5 = .ok (.iload_n 2, 1) := by decide +kernel
theorem dX10_give_6 : decode cX10_give 6 = .ok (.iload_n 3, 1) := by decide +kernel
theorem dX10_give_7 : decode cX10_give 7 = .ok (.invokestatic 181, 3) := by decide +kernel
theorem dX10_give_10 : decode cX10_give 10 = .ok (.ireturn, 1) := by decide +kernel
theorem dX10_appeal_0 : decode cX10_appeal 0 = .ok (.aload_n 0, 1) := by decide +kernel
theorem dX10_appeal_1 : decode cX10_appeal 1 = .ok (.getfield 10, 3) := by decide +kernel
theorem dX10_appeal_4 : decode cX10_appeal 4 = .ok (.iload_n 1, 1) := by decide +kernel
theorem dX10_appeal_5 : decode cX10_appeal 5 = .ok (.invokevirtual 136, 3) := by decide +kernel
theorem dX10_appeal_8 : decode cX10_appeal 8 = .ok (.astore_n 2, 1) := by decide +kernel
theorem dX10_appeal_9 : decode cX10_appeal 9 = .ok (.aload_n 2, 1) := by decide +kernel
theorem dX10_appeal_10 : decode cX10_appeal 10 = .ok (.ifnonnull 5, 3) := by decide +kernel
theorem dX10_appeal_13 : decode cX10_appeal 13 = .ok (.iconst (-1), 1) := by decide +kernel
theorem dX10_appeal_14 : decode cX10_appeal 14 = .ok (.ireturn, 1) := by decide +kernel
theorem dX10_appeal_15 : decode cX10_appeal 15 = .ok (.aload_n 2, 1) := by decide +kernel
theorem dX10_appeal_16 : decode cX10_appeal 16 = .ok (.invokevirtual 170, 3) := by decide +kernel
theorem dX10_appeal_19 : decode cX10_appeal 19 = .ok (.ifCond .ne 6, 3) := by decide +kernel
theorem dX10_appeal_22 : decode cX10_appeal 22 = .ok (.bipush (-2), 2) := by decide +kernel
theorem dX10_appeal_24 : decode cX10_appeal 24 = .ok (.ireturn, 1) := by decide +kernel
theorem dX10_appeal_25 : decode cX10_appeal 25 = .ok (.aload_n 0, 1) := by decide +kernel
theorem dX10_appeal_26 : decode cX10_appeal 26 = .ok (.getfield 10, 3) := by decide +kernel
theorem dX10_appeal_29 : decode cX10_appeal 29 = .ok (.aload_n 2, 1) := by decide +kernel
theorem dX10_appeal_30 : decode cX10_appeal 30 = .ok (.invokevirtual 185, 3) := by decide +kernel
theorem dX10_appeal_33 : decode cX10_appeal 33 = .ok (.aload_n 0, 1) := by decide +kernel
theorem dX10_appeal_34 : decode cX10_appeal 34 = .ok (.getfield 10, 3) := by decide +kernel
theorem dX10_appeal_37 : decode cX10_appeal 37 = .ok (.getfield 98, 3) := by decide +kernel
theorem dX10_appeal_40 : decode cX10_appeal 40 = .ok (.ireturn, 1) := by decide +kernel
theorem dX10_days_0 : decode cX10_days 0 = .ok (.iload_n 1, 1) := by decide +kernel
theorem dX10_days_1 : decode cX10_days 1 = .ok (.iconst 0, 1) := by decide +kernel
theorem dX10_days_2 : decode cX10_days 2 = .ok (.bipush 30, 2) := by decide +kernel
theorem dX10_days_4 : decode cX10_days 4 = .ok (.invokestatic 158, 3) := by decide +kernel
theorem dX10_days_7 : decode cX10_days 7 = .ok (.ifCond .ne 5, 3) := by decide +kernel
theorem dX10_days_10 : decode cX10_days 10 = .ok (.iconst (-1), 1) := by decide +kernel
theorem dX10_days_11 : decode cX10_days 11 = .ok (.ireturn, 1) := by decide +kernel
theorem dX10_days_12 : decode cX10_days 12 = .ok (.aload_n 0, 1) := by decide +kernel
theorem dX10_days_13 : decode cX10_days 13 = .ok (.getfield 10, 3) := by decide +kernel
theorem dX10_days_16 : decode cX10_days 16 = .ok (.getfield 95, 3) := by decide +kernel
theorem dX10_days_19 : decode cX10_days 19 = .ok (.iload_n 1, 1) := by decide +kernel
theorem dX10_days_20 : decode cX10_days 20 = .ok (.iadd, 1) := by decide +kernel
theorem dX10_days_21 : decode cX10_days 21 = .ok (.sipush 1000, 3) := by decide +kernel
theorem dX10_days_24 : decode cX10_days 24 = .ok (.if_icmp .lt 6, 3) := by decide +kernel
theorem dX10_days_27 : decode cX10_days 27 = .ok (.bipush (-3), 2) := by decide +kernel
theorem dX10_days_29 : decode cX10_days 29 = .ok (.ireturn, 1) := by decide +kernel
theorem dX10_days_30 : decode cX10_days 30 = .ok (.iconst 0, 1) := by decide +kernel
theorem dX10_days_31 : decode cX10_days 31 = .ok (.istore_n 2, 1) := by decide +kernel
theorem dX10_days_32 : decode cX10_days 32 = .ok (.iload_n 2, 1) := by decide +kernel
theorem dX10_days_33 : decode cX10_days 33 = .ok (.iload_n 1, 1) := by decide +kernel
theorem dX10_days_34 : decode cX10_days 34 = .ok (.if_icmp .ge 16, 3) := by decide +kernel
theorem dX10_days_37 : decode cX10_days 37 = .ok (.aload_n 0, 1) := by decide +kernel
theorem dX10_days_38 : decode cX10_days 38 = .ok (.getfield 10, 3) := by decide +kernel
theorem dX10_days_41 : decode cX10_days 41 = .ok (.invokevirtual 189, 3) := by decide +kernel
theorem dX10_days_44 : decode cX10_days 44 = .ok (.iinc 2 1, 3) := by decide +kernel
theorem dX10_days_47 : decode cX10_days 47 = .ok (.goto (-15), 3) := by decide +kernel
theorem dX10_days_50 : decode cX10_days 50 = .ok (.aload_n 0, 1) := by decide +kernel
theorem dX10_days_51 : decode cX10_days 51 = .ok (.getfield 10, 3) := by decide +kernel
theorem dX10_days_54 : decode cX10_days 54 = .ok (.getfield 98, 3) := by decide +kernel
theorem dX10_days_57 : decode cX10_days 57 = .ok (.ireturn, 1) := by decide +kernel
theorem dX10_docket_0 : decode cX10_docket 0 = .ok (.iload_n 1, 1) := by decide +kernel
theorem dX10_docket_1 : decode cX10_docket 1 = .ok (.iconst 0, 1) := by decide +kernel
theorem dX10_docket_2 : decode cX10_docket 2 = .ok (.bipush 30, 2) := by decide +kernel
theorem dX10_docket_4 : decode cX10_docket 4 = .ok (.invokestatic 158, 3) := by decide +kernel
theorem dX10_docket_7 : decode cX10_docket 7 = .ok (.ifCond .eq 12, 3) := by decide +kernel
theorem dX10_docket_10 : decode cX10_docket 10 = .ok (.iload_n 2, 1) := by decide +kernel
theorem dX10_docket_11 : decode cX10_docket 11 = .ok (.iconst 0, 1) := by decide +kernel
theorem dX10_docket_12 : decode cX10_docket 12 = .ok (.iconst 5, 1) := by decide +kernel
theorem dX10_docket_13 : decode cX10_docket 13 = .ok (.invokestatic 158, 3) := by decide +kernel
theorem dX10_docket_16 : decode cX10_docket 16 = .ok (.ifCond .ne 5, 3) := by decide +kernel
theorem dX10_docket_19 : decode cX10_docket 19 = .ok (.iconst (-1), 1) := by decide +kernel
theorem dX10_docket_20 : decode cX10_docket 20 = .ok (.ireturn, 1) := by decide +kernel
theorem dX10_docket_21 : decode cX10_docket 21 = .ok (.aload_n 0, 1) := by decide +kernel
theorem dX10_docket_22 : decode cX10_docket 22 = .ok (.getfield 36, 3) := by decide +kernel
theorem dX10_docket_25 : decode cX10_docket 25 = .ok (.aload_n 0, 1) := by decide +kernel
theorem dX10_docket_26 : decode cX10_docket 26 = .ok (.getfield 10, 3) := by decide +kernel
theorem dX10_docket_29 : decode cX10_docket 29 = .ok (.invokevirtual 192, 3) := by decide +kernel
theorem dX10_docket_32 : decode cX10_docket 32 = .ok (.aload_n 0, 1) := by decide +kernel
theorem dX10_docket_33 : decode cX10_docket 33 = .ok (.getfield 36, 3) := by decide +kernel
theorem dX10_docket_36 : decode cX10_docket 36 = .ok (.aload_n 0, 1) := by decide +kernel
theorem dX10_docket_37 : decode cX10_docket 37 = .ok (.getfield 16, 3) := by decide +kernel
theorem dX10_docket_40 : decode cX10_docket 40 = .ok (.aload_n 0, 1) := by decide +kernel
theorem dX10_docket_41 : decode cX10_docket 41 = .ok (.getfield 10, 3) := by decide +kernel
theorem dX10_docket_44 : decode cX10_docket 44 = .ok (.iload_n 1, 1) := by decide +kernel
theorem dX10_docket_45 : decode cX10_docket 45 = .ok (.invokevirtual 195, 3) := by decide +kernel
theorem dX10_docket_48 : decode cX10_docket 48 = .ok (.iload_n 2, 1) := by decide +kernel
theorem dX10_docket_49 : decode cX10_docket 49 = .ok (.tableswitch 88 0 4 #[35, 43, 51, 59, 67], 35) := by decide +kernel
theorem dX10_docket_84 : decode cX10_docket 84 = .ok (.aload_n 0, 1) := by decide +kernel
theorem dX10_docket_85 : decode cX10_docket 85 = .ok (.getfield 36, 3) := by decide +kernel
theorem dX10_docket_88 : decode cX10_docket 88 = .ok (.getfield 199, 3) := by decide +kernel
theorem dX10_docket_91 : decode cX10_docket 91 = .ok (.ireturn, 1) := by decide +kernel
theorem dX10_docket_92 : decode cX10_docket 92 = .ok (.aload_n 0, 1) := by decide +kernel
theorem dX10_docket_93 : decode cX10_docket 93 = .ok (.getfield 16, 3) := by decide +kernel
theorem dX10_docket_96 : decode cX10_docket 96 = .ok (.getfield 98, 3) := by decide +kernel
theorem dX10_docket_99 : decode cX10_docket 99 = .ok (.ireturn, 1) := by decide +kernel
theorem dX10_docket_100 : decode cX10_docket 100 = .ok (.aload_n 0, 1) := by decide +kernel
theorem dX10_docket_101 : decode cX10_docket 101 = .ok (.getfield 16, 3) := by decide +kernel
theorem dX10_docket_104 : decode cX10_docket 104 = .ok (.invokevirtual 202, 3) := by decide +kernel
theorem dX10_docket_107 : decode cX10_docket 107 = .ok (.ireturn, 1) := by decide +kernel
theorem dX10_docket_108 : decode cX10_docket 108 = .ok (.aload_n 0, 1) := by decide +kernel
theorem dX10_docket_109 : decode cX10_docket 109 = .ok (.getfield 16, 3) := by decide +kernel
theorem dX10_docket_112 : decode cX10_docket 112 = .ok (.invokevirtual 205, 3) := by decide +kernel
theorem dX10_docket_115 : decode cX10_docket 115 = .ok (.ireturn, 1) := by decide +kernel
theorem dX10_docket_116 : decode cX10_docket 116 = .ok (.iload_n 1, 1) := by decide +kernel
theorem dX10_docket_117 : decode cX10_docket 117 = .ok (.aload_n 0, 1) := by decide +kernel
theorem dX10_docket_118 : decode cX10_docket 118 = .ok (.getfield 10, 3) := by decide +kernel
theorem dX10_docket_121 : decode cX10_docket 121 = .ok (.getfield 89, 3) := by decide +kernel
theorem dX10_docket_124 : decode cX10_docket 124 = .ok (.imul, 1) := by decide +kernel
theorem dX10_docket_125 : decode cX10_docket 125 = .ok (.aload_n 0, 1) := by decide +kernel
theorem dX10_docket_126 : decode cX10_docket 126 = .ok (.getfield 36, 3) := by decide +kernel
theorem dX10_docket_129 : decode cX10_docket 129 = .ok (.getfield 199, 3) := by decide +kernel
theorem dX10_docket_132 : decode cX10_docket 132 = .ok (.invokestatic 208, 3) := by decide +kernel
theorem dX10_docket_135 : decode cX10_docket 135 = .ok (.isub, 1) := by decide +kernel
theorem dX10_docket_136 : decode cX10_docket 136 = .ok (.ireturn, 1) := by decide +kernel
theorem dX10_docket_137 : decode cX10_docket 137 = .ok (.aload_n 0, 1) := by decide +kernel
theorem dX10_docket_138 : decode cX10_docket 138 = .ok (.getfield 36, 3) := by decide +kernel
theorem dX10_docket_141 : decode cX10_docket 141 = .ok (.getfield 213, 3) := by decide +kernel
theorem dX10_docket_144 : decode cX10_docket 144 = .ok (.ireturn, 1) := by decide +kernel
theorem dX10_hears_0 : decode cX10_hears 0 = .ok (.aload_n 0, 1) := by decide +kernel
theorem dX10_hears_1 : decode cX10_hears 1 = .ok (.getfield 10, 3) := by decide +kernel
theorem dX10_hears_4 : decode cX10_hears 4 = .ok (.iload_n 1, 1) := by decide +kernel
theorem dX10_hears_5 : decode cX10_hears 5 = .ok (.invokevirtual 136, 3) := by decide +kernel
theorem dX10_hears_8 : decode cX10_hears 8 = .ok (.astore_n 3, 1) := by decide +kernel
theorem dX10_hears_9 : decode cX10_hears 9 = .ok (.aload_n 3, 1) := by decide +kernel
theorem dX10_hears_10 : decode cX10_hears 10 = .ok (.ifnull 13, 3) := by decide +kernel
theorem dX10_hears_13 : decode cX10_hears 13 = .ok (.iload_n 2, 1) := by decide +kernel
theorem dX10_hears_14 : decode cX10_hears 14 = .ok (.iconst 0, 1) := by decide +kernel
theorem dX10_hears_15 : decode cX10_hears 15 = .ok (.bipush 30, 2) := by decide +kernel
theorem dX10_hears_17 : decode cX10_hears 17 = .ok (.invokestatic 158, 3) := by decide +kernel
theorem dX10_hears_20 : decode cX10_hears 20 = .ok (.ifCond .ne 5, 3) := by decide +kernel
theorem dX10_hears_23 : decode cX10_hears 23 = .ok (.iconst (-1), 1) := by decide +kernel
theorem dX10_hears_24 : decode cX10_hears 24 = .ok (.ireturn, 1) := by decide +kernel
theorem dX10_hears_25 : decode cX10_hears 25 = .ok (.aload_n 3, 1) := by decide +kernel
theorem dX10_hears_26 : decode cX10_hears 26 = .ok (.invokevirtual 170, 3) := by decide +kernel
theorem dX10_hears_29 : decode cX10_hears 29 = .ok (.ifCond .eq 6, 3) := by decide +kernel
theorem dX10_hears_32 : decode cX10_hears 32 = .ok (.bipush (-4), 2) := by decide +kernel
theorem dX10_hears_34 : decode cX10_hears 34 = .ok (.ireturn, 1) := by decide +kernel
theorem dX10_hears_35 : decode cX10_hears 35 = .ok (.aload_n 0, 1) := by decide +kernel
theorem dX10_hears_36 : decode cX10_hears 36 = .ok (.getfield 36, 3) := by decide +kernel
theorem dX10_hears_39 : decode cX10_hears 39 = .ok (.aload_n 0, 1) := by decide +kernel
theorem dX10_hears_40 : decode cX10_hears 40 = .ok (.getfield 10, 3) := by decide +kernel
theorem dX10_hears_43 : decode cX10_hears 43 = .ok (.invokevirtual 192, 3) := by decide +kernel
theorem dX10_hears_46 : decode cX10_hears 46 = .ok (.aload_n 0, 1) := by decide +kernel
theorem dX10_hears_47 : decode cX10_hears 47 = .ok (.getfield 36, 3) := by decide +kernel
theorem dX10_hears_50 : decode cX10_hears 50 = .ok (.aload_n 0, 1) := by decide +kernel
theorem dX10_hears_51 : decode cX10_hears 51 = .ok (.getfield 16, 3) := by decide +kernel
theorem dX10_hears_54 : decode cX10_hears 54 = .ok (.aload_n 0, 1) := by decide +kernel
theorem dX10_hears_55 : decode cX10_hears 55 = .ok (.getfield 10, 3) := by decide +kernel
theorem dX10_hears_58 : decode cX10_hears 58 = .ok (.iload_n 2, 1) := by decide +kernel
theorem dX10_hears_59 : decode cX10_hears 59 = .ok (.invokevirtual 195, 3) := by decide +kernel
theorem dX10_hears_62 : decode cX10_hears 62 = .ok (.aload_n 0, 1) := by decide +kernel
theorem dX10_hears_63 : decode cX10_hears 63 = .ok (.getfield 16, 3) := by decide +kernel
theorem dX10_hears_66 : decode cX10_hears 66 = .ok (.iload_n 1, 1) := by decide +kernel
theorem dX10_hears_67 : decode cX10_hears 67 = .ok (.invokevirtual 136, 3) := by decide +kernel
theorem dX10_hears_70 : decode cX10_hears 70 = .ok (.astore 4, 2) := by decide +kernel
theorem dX10_hears_72 : decode cX10_hears 72 = .ok (.aload 4, 2) := by decide +kernel
theorem dX10_hears_74 : decode cX10_hears 74 = .ok (.ifnonnull 8, 3) := by decide +kernel
theorem dX10_hears_77 : decode cX10_hears 77 = .ok (.bipush (-4), 2) := by decide +kernel
theorem dX10_hears_79 : decode cX10_hears 79 = .ok (.goto 8, 3) := by decide +kernel
theorem dX10_hears_82 : decode cX10_hears 82 = .ok (.aload 4, 2) := by decide +kernel
theorem dX10_hears_84 : decode cX10_hears 84 = .ok (.getfield 155, 3) := by decide +kernel
theorem dX10_hears_87 : decode cX10_hears 87 = .ok (.ireturn, 1) := by decide +kernel
theorem dX10_best_0 : decode cX10_best 0 = .ok (.iload_n 1, 1) := by decide +kernel
theorem dX10_best_1 : decode cX10_best 1 = .ok (.bipush 10, 2) := by decide +kernel
theorem dX10_best_3 : decode cX10_best 3 = .ok (.if_icmp .lt 21, 3) := by decide +kernel
theorem dX10_best_6 : decode cX10_best 6 = .ok (.aload_n 0, 1) := by decide +kernel
theorem dX10_best_7 : decode cX10_best 7 = .ok (.getfield 10, 3) := by decide +kernel
theorem dX10_best_10 : decode cX10_best 10 = .ok (.iload_n 1, 1) := by decide +kernel
theorem dX10_best_11 : decode cX10_best 11 = .ok (.bipush 10, 2) := by decide +kernel
theorem dX10_best_13 : decode cX10_best 13 = .ok (.isub, 1) := by decide +kernel
theorem dX10_best_14 : decode cX10_best 14 = .ok (.invokevirtual 111, 3) := by decide +kernel
theorem dX10_best_17 : decode cX10_best 17 = .ok (.ifnull 7, 3) := by decide +kernel
theorem dX10_best_20 : decode cX10_best 20 = .ok (.iconst 1, 1) := by decide +kernel
theorem dX10_best_21 : decode cX10_best 21 = .ok (.goto 4, 3) := by decide +kernel
theorem dX10_best_24 : decode cX10_best 24 = .ok (.iconst 0, 1) := by decide +kernel
theorem dX10_best_25 : decode cX10_best 25 = .ok (.istore_n 2, 1) := by decide +kernel
theorem dX10_best_26 : decode cX10_best 26 = .ok (.iload_n 1, 1) := by decide +kernel
theorem dX10_best_27 : decode cX10_best 27 = .ok (.ifCond .eq 14, 3) := by decide +kernel
theorem dX10_best_30 : decode cX10_best 30 = .ok (.iload_n 1, 1) := by decide +kernel
theorem dX10_best_31 : decode cX10_best 31 = .ok (.iconst 1, 1) := by decide +kernel
theorem dX10_best_32 : decode cX10_best 32 = .ok (.if_icmp .eq 9, 3) := by decide +kernel
theorem dX10_best_35 : decode cX10_best 35 = .ok (.iload_n 2, 1) := by decide +kernel
theorem dX10_best_36 : decode cX10_best 36 = .ok (.ifCond .ne 5, 3) := by decide +kernel
theorem dX10_best_39 : decode cX10_best 39 = .ok (.iconst (-1), 1) := by decide +kernel
theorem dX10_best_40 : decode cX10_best 40 = .ok (.ireturn, 1) := by decide +kernel
theorem dX10_best_41 : decode cX10_best 41 = .ok (.aload_n 0, 1) := by decide +kernel
theorem dX10_best_42 : decode cX10_best 42 = .ok (.getfield 43, 3) := by decide +kernel
theorem dX10_best_45 : decode cX10_best 45 = .ok (.aload_n 0, 1) := by decide +kernel
theorem dX10_best_46 : decode cX10_best 46 = .ok (.getfield 10, 3) := by decide +kernel
theorem dX10_best_49 : decode cX10_best 49 = .ok (.invokevirtual 216, 3) := by decide +kernel
theorem dX10_best_52 : decode cX10_best 52 = .ok (.iload_n 1, 1) := by decide +kernel
theorem dX10_best_53 : decode cX10_best 53 = .ok (.ifCond .ne 11, 3) := by decide +kernel
theorem dX10_best_56 : decode cX10_best 56 = .ok (.aload_n 0, 1) := by decide +kernel
theorem dX10_best_57 : decode cX10_best 57 = .ok (.getfield 43, 3) := by decide +kernel
theorem dX10_best_60 : decode cX10_best 60 = .ok (.getfield 219, 3) := by decide +kernel
theorem dX10_best_63 : decode cX10_best 63 = .ok (.ireturn, 1) := by decide +kernel
theorem dX10_best_64 : decode cX10_best 64 = .ok (.iload_n 1, 1) := by decide +kernel
theorem dX10_best_65 : decode cX10_best 65 = .ok (.iconst 1, 1) := by decide +kernel
theorem dX10_best_66 : decode cX10_best 66 = .ok (.if_icmp .ne 13, 3) := by decide +kernel
theorem dX10_best_69 : decode cX10_best 69 = .ok (.aload_n 0, 1) := by decide +kernel
theorem dX10_best_70 : decode cX10_best 70 = .ok (.getfield 43, 3) := by decide +kernel
theorem dX10_best_73 : decode cX10_best 73 = .ok (.getfield 222, 3) := by decide +kernel
theorem dX10_best_76 : decode cX10_best 76 = .ok (.goto 14, 3) := by decide +kernel
theorem dX10_best_79 : decode cX10_best 79 = .ok (.aload_n 0, 1) := by decide +kernel
theorem dX10_best_80 : decode cX10_best 80 = .ok (.getfield 43, 3) := by decide +kernel
theorem dX10_best_83 : decode cX10_best 83 = .ok (.iload_n 1, 1) := by decide +kernel
theorem dX10_best_84 : decode cX10_best 84 = .ok (.bipush 10, 2) := by decide +kernel
theorem dX10_best_86 : decode cX10_best 86 = .ok (.isub, 1) := by decide +kernel
theorem dX10_best_87 : decode cX10_best 87 = .ok (.invokevirtual 225, 3) := by decide +kernel
theorem dX10_best_90 : decode cX10_best 90 = .ok (.ireturn, 1) := by decide +kernel
theorem dX10_deter_0 : decode cX10_deter 0 = .ok (.aload_n 0, 1) := by decide +kernel
theorem dX10_deter_1 : decode cX10_deter 1 = .ok (.getfield 10, 3) := by decide +kernel
theorem dX10_deter_4 : decode cX10_deter 4 = .ok (.iload_n 1, 1) := by decide +kernel
theorem dX10_deter_5 : decode cX10_deter 5 = .ok (.invokevirtual 136, 3) := by decide +kernel
theorem dX10_deter_8 : decode cX10_deter 8 = .ok (.astore_n 3, 1) := by decide +kernel
theorem dX10_deter_9 : decode cX10_deter 9 = .ok (.aload_n 3, 1) := by decide +kernel
theorem dX10_deter_10 : decode cX10_deter 10 = .ok (.ifnull 13, 3) := by decide +kernel
theorem dX10_deter_13 : decode cX10_deter 13 = .ok (.iload_n 2, 1) := by decide +kernel
theorem dX10_deter_14 : decode cX10_deter 14 = .ok (.iconst 0, 1) := by decide +kernel
theorem dX10_deter_15 : decode cX10_deter 15 = .ok (.bipush 99, 2) := by decide +kernel
theorem dX10_deter_17 : decode cX10_deter 17 = .ok (.invokestatic 158, 3) := by decide +kernel
theorem dX10_deter_20 : decode cX10_deter 20 = .ok (.ifCond .ne 5, 3) := by decide +kernel
theorem dX10_deter_23 : decode cX10_deter 23 = .ok (.iconst (-1), 1) := by decide +kernel
theorem dX10_deter_24 : decode cX10_deter 24 = .ok (.ireturn, 1) := by decide +kernel
theorem dX10_deter_25 : decode cX10_deter 25 = .ok (.aload_n 3, 1) := by decide +kernel
theorem dX10_deter_26 : decode cX10_deter 26 = .ok (.invokevirtual 170, 3) := by decide +kernel
theorem dX10_deter_29 : decode cX10_deter 29 = .ok (.ifCond .eq 6, 3) := by decide +kernel
theorem dX10_deter_32 : decode cX10_deter 32 = .ok (.bipush (-2), 2) := by decide +kernel
theorem dX10_deter_34 : decode cX10_deter 34 = .ok (.ireturn, 1) := by decide +kernel
theorem dX10_deter_35 : decode cX10_deter 35 = .ok (.aload_n 3, 1) := by decide +kernel
theorem dX10_deter_36 : decode cX10_deter 36 = .ok (.getfield 145, 3) := by decide +kernel
theorem dX10_deter_39 : decode cX10_deter 39 = .ok (.istore 4, 2) := by decide +kernel
theorem dX10_deter_41 : decode cX10_deter 41 = .ok (.iload 4, 2) := by decide +kernel
theorem dX10_deter_43 : decode cX10_deter 43 = .ok (.aload_n 3, 1) := by decide +kernel
theorem dX10_deter_44 : decode cX10_deter 44 = .ok (.getfield 148, 3) := by decide +kernel
theorem dX10_deter_47 : decode cX10_deter 47 = .ok (.if_icmp .gt 28, 3) := by decide +kernel
theorem dX10_deter_50 : decode cX10_deter 50 = .ok (.aload_n 0, 1) := by decide +kernel
theorem dX10_deter_51 : decode cX10_deter 51 = .ok (.getfield 10, 3) := by decide +kernel
theorem dX10_deter_54 : decode cX10_deter 54 = .ok (.getfield 98, 3) := by decide +kernel
theorem dX10_deter_57 : decode cX10_deter 57 = .ok (.iload 4, 2) := by decide +kernel
theorem dX10_deter_59 : decode cX10_deter 59 = .ok (.invokestatic 228, 3) := by decide +kernel
theorem dX10_deter_62 : decode cX10_deter 62 = .ok (.iload_n 2, 1) := by decide +kernel
theorem dX10_deter_63 : decode cX10_deter 63 = .ok (.if_icmp .gt 6, 3) := by decide +kernel
theorem dX10_deter_66 : decode cX10_deter 66 = .ok (.iload 4, 2) := by decide +kernel
theorem dX10_deter_68 : decode cX10_deter 68 = .ok (.ireturn, 1) := by decide +kernel
theorem dX10_deter_69 : decode cX10_deter 69 = .ok (.iinc 4 1, 3) := by decide +kernel
theorem dX10_deter_72 : decode cX10_deter 72 = .ok (.goto (-31), 3) := by decide +kernel
theorem dX10_deter_75 : decode cX10_deter 75 = .ok (.bipush (-4), 2) := by decide +kernel
theorem dX10_deter_77 : decode cX10_deter 77 = .ok (.ireturn, 1) := by decide +kernel
theorem dX10_order_0 : decode cX10_order 0 = .ok (.iload_n 2, 1) := by decide +kernel
theorem dX10_order_1 : decode cX10_order 1 = .ok (.bipush 10, 2) := by decide +kernel
theorem dX10_order_3 : decode cX10_order 3 = .ok (.bipush 13, 2) := by decide +kernel
theorem dX10_order_5 : decode cX10_order 5 = .ok (.invokestatic 158, 3) := by decide +kernel
theorem dX10_order_8 : decode cX10_order 8 = .ok (.istore_n 3, 1) := by decide +kernel
theorem dX10_order_9 : decode cX10_order 9 = .ok (.iload_n 1, 1) := by decide +kernel
theorem dX10_order_10 : decode cX10_order 10 = .ok (.iconst 0, 1) := by decide +kernel
theorem dX10_order_11 : decode cX10_order 11 = .ok (.bipush 30, 2) := by decide +kernel
theorem dX10_order_13 : decode cX10_order 13 = .ok (.invokestatic 158, 3) := by decide +kernel
theorem dX10_order_16 : decode cX10_order 16 = .ok (.ifCond .eq 11, 3) := by decide +kernel
theorem dX10_order_19 : decode cX10_order 19 = .ok (.iload_n 2, 1) := by decide +kernel
theorem dX10_order_20 : decode cX10_order 20 = .ok (.ifCond .eq 9, 3) := by decide +kernel
theorem dX10_order_23 : decode cX10_order 23 = .ok (.iload_n 3, 1) := by decide +kernel
theorem dX10_order_24 : decode cX10_order 24 = .ok (.ifCond .ne 5, 3) := by decide +kernel
theorem dX10_order_27 : decode cX10_order 27 = .ok (.iconst (-1), 1) := by decide +kernel
theorem dX10_order_28 : decode cX10_order 28 = .ok (.ireturn, 1) := by decide +kernel
theorem dX10_order_29 : decode cX10_order 29 = .ok (.aload_n 0, 1) := by decide +kernel
theorem dX10_order_30 : decode cX10_order 30 = .ok (.getfield 36, 3) := by decide +kernel
theorem dX10_order_33 : decode cX10_order 33 = .ok (.aload_n 0, 1) := by decide +kernel
theorem dX10_order_34 : decode cX10_order 34 = .ok (.getfield 16, 3) := by decide +kernel
theorem dX10_order_37 : decode cX10_order 37 = .ok (.aload_n 0, 1) := by decide +kernel
theorem dX10_order_38 : decode cX10_order 38 = .ok (.getfield 10, 3) := by decide +kernel
theorem dX10_order_41 : decode cX10_order 41 = .ok (.iload_n 1, 1) := by decide +kernel
theorem dX10_order_42 : decode cX10_order 42 = .ok (.invokevirtual 231, 3) := by decide +kernel
theorem dX10_order_45 : decode cX10_order 45 = .ok (.iload_n 2, 1) := by decide +kernel
theorem dX10_order_46 : decode cX10_order 46 = .ok (.ifCond .ne 11, 3) := by decide +kernel
theorem dX10_order_49 : decode cX10_order 49 = .ok (.aload_n 0, 1) := by decide +kernel
theorem dX10_order_50 : decode cX10_order 50 = .ok (.getfield 36, 3) := by decide +kernel
theorem dX10_order_53 : decode cX10_order 53 = .ok (.getfield 234, 3) := by decide +kernel
theorem dX10_order_56 : decode cX10_order 56 = .ok (.ireturn, 1) := by decide +kernel
theorem dX10_order_57 : decode cX10_order 57 = .ok (.iload_n 2, 1) := by decide +kernel
theorem dX10_order_58 : decode cX10_order 58 = .ok (.bipush 10, 2) := by decide +kernel
theorem dX10_order_60 : decode cX10_order 60 = .ok (.isub, 1) := by decide +kernel
theorem dX10_order_61 : decode cX10_order 61 = .ok (.istore 4, 2) := by decide +kernel
theorem dX10_order_63 : decode cX10_order 63 = .ok (.iload 4, 2) := by decide +kernel
theorem dX10_order_65 : decode cX10_order 65 = .ok (.aload_n 0, 1) := by decide +kernel
theorem dX10_order_66 : decode cX10_order 66 = .ok (.getfield 10, 3) := by decide +kernel
theorem dX10_order_69 : decode cX10_order 69 = .ok (.getfield 89, 3) := by decide +kernel
theorem dX10_order_72 : decode cX10_order 72 = .ok (.if_icmp .ge 25, 3) := by decide +kernel
theorem dX10_order_75 : decode cX10_order 75 = .ok (.aload_n 0, 1) := by decide +kernel
theorem dX10_order_76 : decode cX10_order 76 = .ok (.getfield 36, 3) := by decide +kernel
theorem dX10_order_79 : decode cX10_order 79 = .ok (.getfield 235, 3) := by decide +kernel
theorem dX10_order_82 : decode cX10_order 82 = .ok (.aload_n 0, 1) := by decide +kernel
theorem dX10_order_83 : decode cX10_order 83 = .ok (.getfield 10, 3) := by decide +kernel
theorem dX10_order_86 : decode cX10_order 86 = .ok (.getfield 89, 3) := by decide +kernel
theorem dX10_order_89 : decode cX10_order 89 = .ok (.iload 4, 2) := by decide +kernel
theorem dX10_order_91 : decode cX10_order 91 = .ok (.invokestatic 238, 3) := by decide +kernel
theorem dX10_order_94 : decode cX10_order 94 = .ok (.goto 5, 3) := by decide +kernel
theorem dX10_order_97 : decode cX10_order 97 = .ok (.bipush (-4), 2) := by decide +kernel
theorem dX10_order_99 : decode cX10_order 99 = .ok (.ireturn, 1) := by decide +kernel
theorem dX10_spare_0 : decode cX10_spare 0 = .ok (.iload_n 1, 1) := by decide +kernel
theorem dX10_spare_1 : decode cX10_spare 1 = .ok (.iconst 0, 1) := by decide +kernel
theorem dX10_spare_2 : decode cX10_spare 2 = .ok (.bipush 30, 2) := by decide +kernel
theorem dX10_spare_4 : decode cX10_spare 4 = .ok (.invokestatic 158, 3) := by decide +kernel
theorem dX10_spare_7 : decode cX10_spare 7 = .ok (.ifCond .ne 5, 3) := by decide +kernel
theorem dX10_spare_10 : decode cX10_spare 10 = .ok (.iconst (-1), 1) := by decide +kernel
theorem dX10_spare_11 : decode cX10_spare 11 = .ok (.ireturn, 1) := by decide +kernel
theorem dX10_spare_12 : decode cX10_spare 12 = .ok (.aload_n 0, 1) := by decide +kernel
theorem dX10_spare_13 : decode cX10_spare 13 = .ok (.getfield 36, 3) := by decide +kernel
theorem dX10_spare_16 : decode cX10_spare 16 = .ok (.aload_n 0, 1) := by decide +kernel
theorem dX10_spare_17 : decode cX10_spare 17 = .ok (.getfield 10, 3) := by decide +kernel
theorem dX10_spare_20 : decode cX10_spare 20 = .ok (.invokevirtual 192, 3) := by decide +kernel
theorem dX10_spare_23 : decode cX10_spare 23 = .ok (.aload_n 0, 1) := by decide +kernel
theorem dX10_spare_24 : decode cX10_spare 24 = .ok (.getfield 36, 3) := by decide +kernel
theorem dX10_spare_27 : decode cX10_spare 27 = .ok (.aload_n 0, 1) := by decide +kernel
theorem dX10_spare_28 : decode cX10_spare 28 = .ok (.getfield 16, 3) := by decide +kernel
theorem dX10_spare_31 : decode cX10_spare 31 = .ok (.aload_n 0, 1) := by decide +kernel
theorem dX10_spare_32 : decode cX10_spare 32 = .ok (.getfield 10, 3) := by decide +kernel
theorem dX10_spare_35 : decode cX10_spare 35 = .ok (.iload_n 1, 1) := by decide +kernel
theorem dX10_spare_36 : decode cX10_spare 36 = .ok (.invokevirtual 195, 3) := by decide +kernel
theorem dX10_spare_39 : decode cX10_spare 39 = .ok (.aload_n 0, 1) := by decide +kernel
theorem dX10_spare_40 : decode cX10_spare 40 = .ok (.getfield 36, 3) := by decide +kernel
theorem dX10_spare_43 : decode cX10_spare 43 = .ok (.getfield 199, 3) := by decide +kernel
theorem dX10_spare_46 : decode cX10_spare 46 = .ok (.invokestatic 208, 3) := by decide +kernel
theorem dX10_spare_49 : decode cX10_spare 49 = .ok (.istore_n 2, 1) := by decide +kernel
theorem dX10_spare_50 : decode cX10_spare 50 = .ok (.aload_n 0, 1) := by decide +kernel
theorem dX10_spare_51 : decode cX10_spare 51 = .ok (.getfield 10, 3) := by decide +kernel
theorem dX10_spare_54 : decode cX10_spare 54 = .ok (.getfield 89, 3) := by decide +kernel
theorem dX10_spare_57 : decode cX10_spare 57 = .ok (.iconst 1, 1) := by decide +kernel
theorem dX10_spare_58 : decode cX10_spare 58 = .ok (.isub, 1) := by decide +kernel
theorem dX10_spare_59 : decode cX10_spare 59 = .ok (.istore_n 3, 1) := by decide +kernel
theorem dX10_spare_60 : decode cX10_spare 60 = .ok (.iload_n 3, 1) := by decide +kernel
theorem dX10_spare_61 : decode cX10_spare 61 = .ok (.ifCond .lt 53, 3) := by decide +kernel
theorem dX10_spare_64 : decode cX10_spare 64 = .ok (.aload_n 0, 1) := by decide +kernel
theorem dX10_spare_65 : decode cX10_spare 65 = .ok (.getfield 36, 3) := by decide +kernel
theorem dX10_spare_68 : decode cX10_spare 68 = .ok (.aload_n 0, 1) := by decide +kernel
theorem dX10_spare_69 : decode cX10_spare 69 = .ok (.getfield 10, 3) := by decide +kernel
theorem dX10_spare_72 : decode cX10_spare 72 = .ok (.iload_n 3, 1) := by decide +kernel
theorem dX10_spare_73 : decode cX10_spare 73 = .ok (.invokevirtual 242, 3) := by decide +kernel
theorem dX10_spare_76 : decode cX10_spare 76 = .ok (.aload_n 0, 1) := by decide +kernel
theorem dX10_spare_77 : decode cX10_spare 77 = .ok (.getfield 36, 3) := by decide +kernel
theorem dX10_spare_80 : decode cX10_spare 80 = .ok (.aload_n 0, 1) := by decide +kernel
theorem dX10_spare_81 : decode cX10_spare 81 = .ok (.getfield 16, 3) := by decide +kernel
theorem dX10_spare_84 : decode cX10_spare 84 = .ok (.aload_n 0, 1) := by decide +kernel
theorem dX10_spare_85 : decode cX10_spare 85 = .ok (.getfield 10, 3) := by decide +kernel
theorem dX10_spare_88 : decode cX10_spare 88 = .ok (.iload_n 1, 1) := by decide +kernel
theorem dX10_spare_89 : decode cX10_spare 89 = .ok (.invokevirtual 195, 3) := by decide +kernel
theorem dX10_spare_92 : decode cX10_spare 92 = .ok (.aload_n 0, 1) := by decide +kernel
theorem dX10_spare_93 : decode cX10_spare 93 = .ok (.getfield 36, 3) := by decide +kernel
theorem dX10_spare_96 : decode cX10_spare 96 = .ok (.getfield 199, 3) := by decide +kernel
theorem dX10_spare_99 : decode cX10_spare 99 = .ok (.invokestatic 208, 3) := by decide +kernel
theorem dX10_spare_102 : decode cX10_spare 102 = .ok (.iload_n 2, 1) := by decide +kernel
theorem dX10_spare_103 : decode cX10_spare 103 = .ok (.if_icmp .ne 5, 3) := by decide +kernel
theorem dX10_spare_106 : decode cX10_spare 106 = .ok (.iload_n 3, 1) := by decide +kernel
theorem dX10_spare_107 : decode cX10_spare 107 = .ok (.ireturn, 1) := by decide +kernel
theorem dX10_spare_108 : decode cX10_spare 108 = .ok (.iinc 3 (-1), 3) := by decide +kernel
theorem dX10_spare_111 : decode cX10_spare 111 = .ok (.goto (-51), 3) := by decide +kernel
theorem dX10_spare_114 : decode cX10_spare 114 = .ok (.bipush (-4), 2) := by decide +kernel
theorem dX10_spare_116 : decode cX10_spare 116 = .ok (.ireturn, 1) := by decide +kernel
theorem dX10_hopeless_0 : decode cX10_hopeless 0 = .ok (.iconst 0, 1) := by decide +kernel
theorem dX10_hopeless_1 : decode cX10_hopeless 1 = .ok (.istore_n 1, 1) := by decide +kernel
theorem dX10_hopeless_2 : decode cX10_hopeless 2 = .ok (.iconst 0, 1) := by decide +kernel
theorem dX10_hopeless_3 : decode cX10_hopeless 3 = .ok (.istore_n 2, 1) := by decide +kernel
theorem dX10_hopeless_4 : decode cX10_hopeless 4 = .ok (.iload_n 2, 1) := by decide +kernel
theorem dX10_hopeless_5 : decode cX10_hopeless 5 = .ok (.aload_n 0, 1) := by decide +kernel
theorem dX10_hopeless_6 : decode cX10_hopeless 6 = .ok (.getfield 10, 3) := by decide +kernel
theorem dX10_hopeless_9 : decode cX10_hopeless 9 = .ok (.getfield 92, 3) := by decide +kernel
theorem dX10_hopeless_12 : decode cX10_hopeless 12 = .ok (.if_icmp .ge 46, 3) := by decide +kernel
theorem dX10_hopeless_15 : decode cX10_hopeless 15 = .ok (.aload_n 0, 1) := by decide +kernel
theorem dX10_hopeless_16 : decode cX10_hopeless 16 = .ok (.getfield 10, 3) := by decide +kernel
theorem dX10_hopeless_19 : decode cX10_hopeless 19 = .ok (.iload_n 2, 1) := by decide +kernel
theorem dX10_hopeless_20 : decode cX10_hopeless 20 = .ok (.invokevirtual 136, 3) := by decide +kernel
theorem dX10_hopeless_23 : decode cX10_hopeless 23 = .ok (.astore_n 3, 1) := by decide +kernel
theorem dX10_hopeless_24 : decode cX10_hopeless 24 = .ok (.aload_n 3, 1) := by decide +kernel
theorem dX10_hopeless_25 : decode cX10_hopeless 25 = .ok (.ifnull 27, 3) := by decide +kernel
theorem dX10_hopeless_28 : decode cX10_hopeless 28 = .ok (.aload_n 3, 1) := by decide +kernel
theorem dX10_hopeless_29 : decode cX10_hopeless 29 = .ok (.invokevirtual 170, 3) := by decide +kernel
theorem dX10_hopeless_32 : decode cX10_hopeless 32 = .ok (.ifCond .ne 20, 3) := by decide +kernel
theorem dX10_hopeless_35 : decode cX10_hopeless 35 = .ok (.aload_n 0, 1) := by decide +kernel
theorem dX10_hopeless_36 : decode cX10_hopeless 36 = .ok (.getfield 10, 3) := by decide +kernel
theorem dX10_hopeless_39 : decode cX10_hopeless 39 = .ok (.aload_n 3, 1) := by decide +kernel
theorem dX10_hopeless_40 : decode cX10_hopeless 40 = .ok (.invokevirtual 246, 3) := by decide +kernel
theorem dX10_hopeless_43 : decode cX10_hopeless 43 = .ok (.ifCond .ne 9, 3) := by decide +kernel
theorem dX10_hopeless_46 : decode cX10_hopeless 46 = .ok (.iload_n 1, 1) := by decide +kernel
theorem dX10_hopeless_47 : decode cX10_hopeless 47 = .ok (.iconst 1, 1) := by decide +kernel
theorem dX10_hopeless_48 : decode cX10_hopeless 48 = .ok (.iload_n 2, 1) := by decide +kernel
theorem dX10_hopeless_49 : decode cX10_hopeless 49 = .ok (.ishl, 1) := by decide +kernel
theorem dX10_hopeless_50 : decode cX10_hopeless 50 = .ok (.ior, 1) := by decide +kernel
theorem dX10_hopeless_51 : decode cX10_hopeless 51 = .ok (.istore_n 1, 1) := by decide +kernel
theorem dX10_hopeless_52 : decode cX10_hopeless 52 = .ok (.iinc 2 1, 3) := by decide +kernel
theorem dX10_hopeless_55 : decode cX10_hopeless 55 = .ok (.goto (-51), 3) := by decide +kernel
theorem dX10_hopeless_58 : decode cX10_hopeless 58 = .ok (.iload_n 1, 1) := by decide +kernel
theorem dX10_hopeless_59 : decode cX10_hopeless 59 = .ok (.ireturn, 1) := by decide +kernel
theorem dX10_mean_0 : decode cX10_mean 0 = .ok (.iload_n 1, 1) := by decide +kernel
theorem dX10_mean_1 : decode cX10_mean 1 = .ok (.iconst 0, 1) := by decide +kernel
theorem dX10_mean_2 : decode cX10_mean 2 = .ok (.bipush 10, 2) := by decide +kernel
theorem dX10_mean_4 : decode cX10_mean 4 = .ok (.invokestatic 158, 3) := by decide +kernel
theorem dX10_mean_7 : decode cX10_mean 7 = .ok (.ifCond .eq 12, 3) := by decide +kernel
theorem dX10_mean_10 : decode cX10_mean 10 = .ok (.iload_n 2, 1) := by decide +kernel
theorem dX10_mean_11 : decode cX10_mean 11 = .ok (.iconst 0, 1) := by decide +kernel
theorem dX10_mean_12 : decode cX10_mean 12 = .ok (.iconst 1, 1) := by decide +kernel
theorem dX10_mean_13 : decode cX10_mean 13 = .ok (.invokestatic 158, 3) := by decide +kernel
theorem dX10_mean_16 : decode cX10_mean 16 = .ok (.ifCond .ne 7, 3) := by decide +kernel
theorem dX10_mean_19 : decode cX10_mean 19 = .ok (.ldc2_w 250, 3) := by decide +kernel
theorem dX10_mean_22 : decode cX10_mean 22 = .ok (.lreturn, 1) := by decide +kernel
theorem dX10_mean_23 : decode cX10_mean 23 = .ok (.aload_n 0, 1) := by decide +kernel
theorem dX10_mean_24 : decode cX10_mean 24 = .ok (.getfield 10, 3) := by decide +kernel
theorem dX10_mean_27 : decode cX10_mean 27 = .ok (.invokevirtual 101, 3) := by decide +kernel
theorem dX10_mean_30 : decode cX10_mean 30 = .ok (.istore_n 3, 1) := by decide +kernel
theorem dX10_mean_31 : decode cX10_mean 31 = .ok (.lconst 0, 1) := by decide +kernel
theorem dX10_mean_32 : decode cX10_mean 32 = .ok (.lstore 4, 2) := by decide +kernel
theorem dX10_mean_34 : decode cX10_mean 34 = .ok (.iconst 0, 1) := by decide +kernel
theorem dX10_mean_35 : decode cX10_mean 35 = .ok (.istore 6, 2) := by decide +kernel
theorem dX10_mean_37 : decode cX10_mean 37 = .ok (.iload 6, 2) := by decide +kernel
theorem dX10_mean_39 : decode cX10_mean 39 = .ok (.bipush 32, 2) := by decide +kernel
theorem dX10_mean_41 : decode cX10_mean 41 = .ok (.if_icmp .ge 41, 3) := by decide +kernel
theorem dX10_mean_44 : decode cX10_mean 44 = .ok (.iload 6, 2) := by decide +kernel
theorem dX10_mean_46 : decode cX10_mean 46 = .ok (.iload_n 3, 1) := by decide +kernel
theorem dX10_mean_47 : decode cX10_mean 47 = .ok (.iconst (-1), 1) := by decide +kernel
theorem dX10_mean_48 : decode cX10_mean 48 = .ok (.ixor, 1) := by decide +kernel
theorem dX10_mean_49 : decode cX10_mean 49 = .ok (.iand, 1) := by decide +kernel
theorem dX10_mean_50 : decode cX10_mean 50 = .ok (.ifCond .ne 26, 3) := by decide +kernel
theorem dX10_mean_53 : decode cX10_mean 53 = .ok (.lload 4, 2) := by decide +kernel
theorem dX10_mean_55 : decode cX10_mean 55 = .ok (.iload 6, 2) := by decide +kernel
theorem dX10_mean_57 : decode cX10_mean 57 = .ok (.iload_n 3, 1) := by decide +kernel
theorem dX10_mean_58 : decode cX10_mean 58 = .ok (.iload_n 1, 1) := by decide +kernel
theorem dX10_mean_59 : decode cX10_mean 59 = .ok (.invokestatic 252, 3) := by decide +kernel
theorem dX10_mean_62 : decode cX10_mean 62 = .ok (.aload_n 0, 1) := by decide +kernel
theorem dX10_mean_63 : decode cX10_mean 63 = .ok (.getfield 10, 3) := by decide +kernel
theorem dX10_mean_66 : decode cX10_mean 66 = .ok (.iload 6, 2) := by decide +kernel
theorem dX10_mean_68 : decode cX10_mean 68 = .ok (.invokevirtual 256, 3) := by decide +kernel
theorem dX10_mean_71 : decode cX10_mean 71 = .ok (.i2l, 1) := by decide +kernel
theorem dX10_mean_72 : decode cX10_mean 72 = .ok (.lmul, 1) := by decide +kernel
theorem dX10_mean_73 : decode cX10_mean 73 = .ok (.ladd, 1) := by decide +kernel
theorem dX10_mean_74 : decode cX10_mean 74 = .ok (.lstore 4, 2) := by decide +kernel
theorem dX10_mean_76 : decode cX10_mean 76 = .ok (.iinc 6 1, 3) := by decide +kernel
theorem dX10_mean_79 : decode cX10_mean 79 = .ok (.goto (-42), 3) := by decide +kernel
theorem dX10_mean_82 : decode cX10_mean 82 = .ok (.lload 4, 2) := by decide +kernel
theorem dX10_mean_84 : decode cX10_mean 84 = .ok (.iload_n 3, 1) := by decide +kernel
theorem dX10_mean_85 : decode cX10_mean 85 = .ok (.invokestatic 259, 3) := by decide +kernel
theorem dX10_mean_88 : decode cX10_mean 88 = .ok (.iload_n 2, 1) := by decide +kernel
theorem dX10_mean_89 : decode cX10_mean 89 = .ok (.invokestatic 263, 3) := by decide +kernel
theorem dX10_mean_92 : decode cX10_mean 92 = .ok (.lreturn, 1) := by decide +kernel
theorem dX10_luck_0 : decode cX10_luck 0 = .ok (.iload_n 1, 1) := by decide +kernel
theorem dX10_luck_1 : decode cX10_luck 1 = .ok (.iconst 0, 1) := by decide +kernel
theorem dX10_luck_2 : decode cX10_luck 2 = .ok (.bipush 10, 2) := by decide +kernel
theorem dX10_luck_4 : decode cX10_luck 4 = .ok (.invokestatic 158, 3) := by decide +kernel
theorem dX10_luck_7 : decode cX10_luck 7 = .ok (.ifCond .eq 22, 3) := by decide +kernel
theorem dX10_luck_10 : decode cX10_luck 10 = .ok (.iload_n 2, 1) := by decide +kernel
theorem dX10_luck_11 : decode cX10_luck 11 = .ok (.iconst 0, 1) := by decide +kernel
theorem dX10_luck_12 : decode cX10_luck 12 = .ok (.bipush 99, 2) := by decide +kernel
theorem dX10_luck_14 : decode cX10_luck 14 = .ok (.invokestatic 158, 3) := by decide +kernel
theorem dX10_luck_17 : decode cX10_luck 17 = .ok (.ifCond .eq 12, 3) := by decide +kernel
theorem dX10_luck_20 : decode cX10_luck 20 = .ok (.iload_n 3, 1) := by decide +kernel
theorem dX10_luck_21 : decode cX10_luck 21 = .ok (.iconst 0, 1) := by decide +kernel
theorem dX10_luck_22 : decode cX10_luck 22 = .ok (.iconst 1, 1) := by decide +kernel
theorem dX10_luck_23 : decode cX10_luck 23 = .ok (.invokestatic 158, 3) := by decide +kernel
theorem dX10_luck_26 : decode cX10_luck 26 = .ok (.ifCond .ne 7, 3) := by decide +kernel
theorem dX10_luck_29 : decode cX10_luck 29 = .ok (.ldc2_w 250, 3) := by decide +kernel
theorem dX10_luck_32 : decode cX10_luck 32 = .ok (.lreturn, 1) := by decide +kernel
theorem dX10_luck_33 : decode cX10_luck 33 = .ok (.aload_n 0, 1) := by decide +kernel
theorem dX10_luck_34 : decode cX10_luck 34 = .ok (.getfield 10, 3) := by decide +kernel
theorem dX10_luck_37 : decode cX10_luck 37 = .ok (.invokevirtual 101, 3) := by decide +kernel
theorem dX10_luck_40 : decode cX10_luck 40 = .ok (.istore 4, 2) := by decide +kernel
theorem dX10_luck_42 : decode cX10_luck 42 = .ok (.lconst 0, 1) := by decide +kernel
theorem dX10_luck_43 : decode cX10_luck 43 = .ok (.lstore 5, 2) := by decide +kernel
theorem dX10_luck_45 : decode cX10_luck 45 = .ok (.iconst 0, 1) := by decide +kernel
theorem dX10_luck_46 : decode cX10_luck 46 = .ok (.istore 7, 2) := by decide +kernel
theorem dX10_luck_48 : decode cX10_luck 48 = .ok (.iload 7, 2) := by decide +kernel
theorem dX10_luck_50 : decode cX10_luck 50 = .ok (.bipush 32, 2) := by decide +kernel
theorem dX10_luck_52 : decode cX10_luck 52 = .ok (.if_icmp .ge 45, 3) := by decide +kernel
theorem dX10_luck_55 : decode cX10_luck 55 = .ok (.iload 7, 2) := by decide +kernel
theorem dX10_luck_57 : decode cX10_luck 57 = .ok (.iload 4, 2) := by decide +kernel
theorem dX10_luck_59 : decode cX10_luck 59 = .ok (.iconst (-1), 1) := by decide +kernel
theorem dX10_luck_60 : decode cX10_luck 60 = .ok (.ixor, 1) := by decide +kernel
theorem dX10_luck_61 : decode cX10_luck 61 = .ok (.iand, 1) := by decide +kernel
theorem dX10_luck_62 : decode cX10_luck 62 = .ok (.ifCond .ne 29, 3) := by decide +kernel
theorem dX10_luck_65 : decode cX10_luck 65 = .ok (.aload_n 0, 1) := by decide +kernel
theorem dX10_luck_66 : decode cX10_luck 66 = .ok (.getfield 10, 3) := by decide +kernel
theorem dX10_luck_69 : decode cX10_luck 69 = .ok (.iload 7, 2) := by decide +kernel
theorem dX10_luck_71 : decode cX10_luck 71 = .ok (.invokevirtual 256, 3) := by decide +kernel
theorem dX10_luck_74 : decode cX10_luck 74 = .ok (.iload_n 2, 1) := by decide +kernel
theorem dX10_luck_75 : decode cX10_luck 75 = .ok (.if_icmp .gt 16, 3) := by decide +kernel
theorem dX10_luck_78 : decode cX10_luck 78 = .ok (.lload 5, 2) := by decide +kernel
theorem dX10_luck_80 : decode cX10_luck 80 = .ok (.iload 7, 2) := by decide +kernel
theorem dX10_luck_82 : decode cX10_luck 82 = .ok (.iload 4, 2) := by decide +kernel
theorem dX10_luck_84 : decode cX10_luck 84 = .ok (.iload_n 1, 1) := by decide +kernel
theorem dX10_luck_85 : decode cX10_luck 85 = .ok (.invokestatic 252, 3) := by decide +kernel
theorem dX10_luck_88 : decode cX10_luck 88 = .ok (.ladd, 1) := by decide +kernel
theorem dX10_luck_89 : decode cX10_luck 89 = .ok (.lstore 5, 2) := by decide +kernel
theorem dX10_luck_91 : decode cX10_luck 91 = .ok (.iinc 7 1, 3) := by decide +kernel
theorem dX10_luck_94 : decode cX10_luck 94 = .ok (.goto (-46), 3) := by decide +kernel
theorem dX10_luck_97 : decode cX10_luck 97 = .ok (.lload 5, 2) := by decide +kernel
theorem dX10_luck_99 : decode cX10_luck 99 = .ok (.iload 4, 2) := by decide +kernel
theorem dX10_luck_101 : decode cX10_luck 101 = .ok (.invokestatic 259, 3) := by decide +kernel
theorem dX10_luck_104 : decode cX10_luck 104 = .ok (.iload_n 3, 1) := by decide +kernel
theorem dX10_luck_105 : decode cX10_luck 105 = .ok (.invokestatic 263, 3) := by decide +kernel
theorem dX10_luck_108 : decode cX10_luck 108 = .ok (.lreturn, 1) := by decide +kernel
theorem dX10_see_0 : decode cX10_see 0 = .ok (.aload_n 0, 1) := by decide +kernel
theorem dX10_see_1 : decode cX10_see 1 = .ok (.getfield 10, 3) := by decide +kernel
theorem dX10_see_4 : decode cX10_see 4 = .ok (.iload_n 1, 1) := by decide +kernel
theorem dX10_see_5 : decode cX10_see 5 = .ok (.invokevirtual 111, 3) := by decide +kernel
theorem dX10_see_8 : decode cX10_see 8 = .ok (.ifnull 24, 3) := by decide +kernel
theorem dX10_see_11 : decode cX10_see 11 = .ok (.aload_n 0, 1) := by decide +kernel
theorem dX10_see_12 : decode cX10_see 12 = .ok (.getfield 10, 3) := by decide +kernel
theorem dX10_see_15 : decode cX10_see 15 = .ok (.iload_n 2, 1) := by decide +kernel
theorem dX10_see_16 : decode cX10_see 16 = .ok (.invokevirtual 136, 3) := by decide +kernel
theorem dX10_see_19 : decode cX10_see 19 = .ok (.ifnull 13, 3) := by decide +kernel
theorem dX10_see_22 : decode cX10_see 22 = .ok (.iload_n 3, 1) := by decide +kernel
theorem dX10_see_23 : decode cX10_see 23 = .ok (.iconst 0, 1) := by decide +kernel
theorem dX10_see_24 : decode cX10_see 24 = .ok (.bipush 60, 2) := by decide +kernel
theorem dX10_see_26 : decode cX10_see 26 = .ok (.invokestatic 158, 3) := by decide +kernel
theorem dX10_see_29 : decode cX10_see 29 = .ok (.ifCond .ne 5, 3) := by decide +kernel
theorem dX10_see_32 : decode cX10_see 32 = .ok (.iconst (-1), 1) := by decide +kernel
theorem dX10_see_33 : decode cX10_see 33 = .ok (.ireturn, 1) := by decide +kernel
theorem dX10_see_34 : decode cX10_see 34 = .ok (.aload_n 0, 1) := by decide +kernel
theorem dX10_see_35 : decode cX10_see 35 = .ok (.getfield 10, 3) := by decide +kernel
theorem dX10_see_38 : decode cX10_see 38 = .ok (.iload_n 1, 1) := by decide +kernel
theorem dX10_see_39 : decode cX10_see 39 = .ok (.iload_n 2, 1) := by decide +kernel
theorem dX10_see_40 : decode cX10_see 40 = .ok (.iload_n 3, 1) := by decide +kernel
theorem dX10_see_41 : decode cX10_see 41 = .ok (.invokevirtual 267, 3) := by decide +kernel
theorem dX10_see_44 : decode cX10_see 44 = .ok (.ifCond .eq 13, 3) := by decide +kernel
theorem dX10_see_47 : decode cX10_see 47 = .ok (.aload_n 0, 1) := by decide +kernel
theorem dX10_see_48 : decode cX10_see 48 = .ok (.getfield 10, 3) := by decide +kernel
theorem dX10_see_51 : decode cX10_see 51 = .ok (.getfield 270, 3) := by decide +kernel
theorem dX10_see_54 : decode cX10_see 54 = .ok (.goto 5, 3) := by decide +kernel
theorem dX10_see_57 : decode cX10_see 57 = .ok (.bipush (-3), 2) := by decide +kernel
theorem dX10_see_59 : decode cX10_see 59 = .ok (.ireturn, 1) := by decide +kernel
theorem dX10_forget_0 : decode cX10_forget 0 = .ok (.aload_n 0, 1) := by decide +kernel
theorem dX10_forget_1 : decode cX10_forget 1 = .ok (.getfield 10, 3) := by decide +kernel
theorem dX10_forget_4 : decode cX10_forget 4 = .ok (.getfield 270, 3) := by decide +kernel
theorem dX10_forget_7 : decode cX10_forget 7 = .ok (.istore_n 2, 1) := by decide +kernel
theorem dX10_forget_8 : decode cX10_forget 8 = .ok (.iload_n 1, 1) := by decide +kernel
theorem dX10_forget_9 : decode cX10_forget 9 = .ok (.ifCond .lt 8, 3) := by decide +kernel
theorem dX10_forget_12 : decode cX10_forget 12 = .ok (.iload_n 1, 1) := by decide +kernel
theorem dX10_forget_13 : decode cX10_forget 13 = .ok (.iload_n 2, 1) := by decide +kernel
theorem dX10_forget_14 : decode cX10_forget 14 = .ok (.if_icmp .le 5, 3) := by decide +kernel
theorem dX10_forget_17 : decode cX10_forget 17 = .ok (.iconst (-1), 1) := by decide +kernel
theorem dX10_forget_18 : decode cX10_forget 18 = .ok (.ireturn, 1) := by decide +kernel
theorem dX10_forget_19 : decode cX10_forget 19 = .ok (.aload_n 0, 1) := by decide +kernel
theorem dX10_forget_20 : decode cX10_forget 20 = .ok (.getfield 10, 3) := by decide +kernel
theorem dX10_forget_23 : decode cX10_forget 23 = .ok (.iload_n 1, 1) := by decide +kernel
theorem dX10_forget_24 : decode cX10_forget 24 = .ok (.putfield 270, 3) := by decide +kernel
theorem dX10_forget_27 : decode cX10_forget 27 = .ok (.iload_n 2, 1) := by decide +kernel
theorem dX10_forget_28 : decode cX10_forget 28 = .ok (.ireturn, 1) := by decide +kernel
theorem dX10_kinds_0 : decode cX10_kinds 0 = .ok (.aload_n 0, 1) := by decide +kernel
theorem dX10_kinds_1 : decode cX10_kinds 1 = .ok (.getfield 10, 3) := by decide +kernel
theorem dX10_kinds_4 : decode cX10_kinds 4 = .ok (.iload_n 1, 1) := by decide +kernel
theorem dX10_kinds_5 : decode cX10_kinds 5 = .ok (.invokevirtual 111, 3) := by decide +kernel
theorem dX10_kinds_8 : decode cX10_kinds 8 = .ok (.ifnonnull 7, 3) := by decide +kernel
theorem dX10_kinds_11 : decode cX10_kinds 11 = .ok (.iconst (-1), 1) := by decide +kernel
theorem dX10_kinds_12 : decode cX10_kinds 12 = .ok (.goto 11, 3) := by decide +kernel
theorem dX10_kinds_15 : decode cX10_kinds 15 = .ok (.aload_n 0, 1) := by decide +kernel
theorem dX10_kinds_16 : decode cX10_kinds 16 = .ok (.getfield 10, 3) := by decide +kernel
theorem dX10_kinds_19 : decode cX10_kinds 19 = .ok (.iload_n 1, 1) := by decide +kernel
theorem dX10_kinds_20 : decode cX10_kinds 20 = .ok (.invokestatic 273, 3) := by decide +kernel
theorem dX10_kinds_23 : decode cX10_kinds 23 = .ok (.ireturn, 1) := by decide +kernel
theorem dX10_terms_0 : decode cX10_terms 0 = .ok (.aload_n 0, 1) := by decide +kernel
theorem dX10_terms_1 : decode cX10_terms 1 = .ok (.getfield 10, 3) := by decide +kernel
theorem dX10_terms_4 : decode cX10_terms 4 = .ok (.iload_n 1, 1) := by decide +kernel
theorem dX10_terms_5 : decode cX10_terms 5 = .ok (.invokevirtual 136, 3) := by decide +kernel
theorem dX10_terms_8 : decode cX10_terms 8 = .ok (.astore_n 3, 1) := by decide +kernel
theorem dX10_terms_9 : decode cX10_terms 9 = .ok (.aload_n 3, 1) := by decide +kernel
theorem dX10_terms_10 : decode cX10_terms 10 = .ok (.ifnull 12, 3) := by decide +kernel
theorem dX10_terms_13 : decode cX10_terms 13 = .ok (.iload_n 2, 1) := by decide +kernel
theorem dX10_terms_14 : decode cX10_terms 14 = .ok (.iconst 0, 1) := by decide +kernel
theorem dX10_terms_15 : decode cX10_terms 15 = .ok (.iconst 2, 1) := by decide +kernel
theorem dX10_terms_16 : decode cX10_terms 16 = .ok (.invokestatic 158, 3) := by decide +kernel
theorem dX10_terms_19 : decode cX10_terms 19 = .ok (.ifCond .ne 5, 3) := by decide +kernel
theorem dX10_terms_22 : decode cX10_terms 22 = .ok (.iconst (-1), 1) := by decide +kernel
theorem dX10_terms_23 : decode cX10_terms 23 = .ok (.ireturn, 1) := by decide +kernel
theorem dX10_terms_24 : decode cX10_terms 24 = .ok (.aload_n 0, 1) := by decide +kernel
theorem dX10_terms_25 : decode cX10_terms 25 = .ok (.getfield 50, 3) := by decide +kernel
theorem dX10_terms_28 : decode cX10_terms 28 = .ok (.aload_n 0, 1) := by decide +kernel
theorem dX10_terms_29 : decode cX10_terms 29 = .ok (.getfield 10, 3) := by decide +kernel
theorem dX10_terms_32 : decode cX10_terms 32 = .ok (.invokevirtual 277, 3) := by decide +kernel
theorem dX10_terms_35 : decode cX10_terms 35 = .ok (.iconst 0, 1) := by decide +kernel
theorem dX10_terms_36 : decode cX10_terms 36 = .ok (.istore 4, 2) := by decide +kernel
theorem dX10_terms_38 : decode cX10_terms 38 = .ok (.bipush (-4), 2) := by decide +kernel
theorem dX10_terms_40 : decode cX10_terms 40 = .ok (.istore 5, 2) := by decide +kernel
theorem dX10_terms_42 : decode cX10_terms 42 = .ok (.bipush (-4), 2) := by decide +kernel
theorem dX10_terms_44 : decode cX10_terms 44 = .ok (.istore 6, 2) := by decide +kernel
theorem dX10_terms_46 : decode cX10_terms 46 = .ok (.aload_n 3, 1) := by decide +kernel
theorem dX10_terms_47 : decode cX10_terms 47 = .ok (.getfield 145, 3) := by decide +kernel
theorem dX10_terms_50 : decode cX10_terms 50 = .ok (.istore 7, 2) := by decide +kernel
theorem dX10_terms_52 : decode cX10_terms 52 = .ok (.iload 7, 2) := by decide +kernel
theorem dX10_terms_54 : decode cX10_terms 54 = .ok (.aload_n 3, 1) := by decide +kernel
theorem dX10_terms_55 : decode cX10_terms 55 = .ok (.getfield 148, 3) := by decide +kernel
theorem dX10_terms_58 : decode cX10_terms 58 = .ok (.if_icmp .gt 49, 3) := by decide +kernel
theorem dX10_terms_61 : decode cX10_terms 61 = .ok (.aload_n 0, 1) := by decide +kernel
theorem dX10_terms_62 : decode cX10_terms 62 = .ok (.getfield 50, 3) := by decide +kernel
theorem dX10_terms_65 : decode cX10_terms 65 = .ok (.aload_n 0, 1) := by decide +kernel
theorem dX10_terms_66 : decode cX10_terms 66 = .ok (.getfield 10, 3) := by decide +kernel
theorem dX10_terms_69 : decode cX10_terms 69 = .ok (.iload_n 1, 1) := by decide +kernel
theorem dX10_terms_70 : decode cX10_terms 70 = .ok (.iload 7, 2) := by decide +kernel
theorem dX10_terms_72 : decode cX10_terms 72 = .ok (.invokevirtual 280, 3) := by decide +kernel
theorem dX10_terms_75 : decode cX10_terms 75 = .ok (.ifCond .eq 26, 3) := by decide +kernel
theorem dX10_terms_78 : decode cX10_terms 78 = .ok (.iinc 4 1, 3) := by decide +kernel
theorem dX10_terms_81 : decode cX10_terms 81 = .ok (.iload 5, 2) := by decide +kernel
theorem dX10_terms_83 : decode cX10_terms 83 = .ok (.bipush (-4), 2) := by decide +kernel
theorem dX10_terms_85 : decode cX10_terms 85 = .ok (.if_icmp .ne 8, 3) := by decide +kernel
theorem dX10_terms_88 : decode cX10_terms 88 = .ok (.iload 7, 2) := by decide +kernel
theorem dX10_terms_90 : decode cX10_terms 90 = .ok (.goto 5, 3) := by decide +kernel
theorem dX10_terms_93 : decode cX10_terms 93 = .ok (.iload 5, 2) := by decide +kernel
theorem dX10_terms_95 : decode cX10_terms 95 = .ok (.istore 5, 2) := by decide +kernel
theorem dX10_terms_97 : decode cX10_terms 97 = .ok (.iload 7, 2) := by decide +kernel
theorem dX10_terms_99 : decode cX10_terms 99 = .ok (.istore 6, 2) := by decide +kernel
theorem dX10_terms_101 : decode cX10_terms 101 = .ok (.iinc 7 1, 3) := by decide +kernel
theorem dX10_terms_104 : decode cX10_terms 104 = .ok (.goto (-52), 3) := by decide +kernel
theorem dX10_terms_107 : decode cX10_terms 107 = .ok (.iload_n 2, 1) := by decide +kernel
theorem dX10_terms_108 : decode cX10_terms 108 = .ok (.ifCond .ne 6, 3) := by decide +kernel
theorem dX10_terms_111 : decode cX10_terms 111 = .ok (.iload 4, 2) := by decide +kernel
theorem dX10_terms_113 : decode cX10_terms 113 = .ok (.ireturn, 1) := by decide +kernel
theorem dX10_terms_114 : decode cX10_terms 114 = .ok (.iload_n 2, 1) := by decide +kernel
theorem dX10_terms_115 : decode cX10_terms 115 = .ok (.iconst 1, 1) := by decide +kernel
theorem dX10_terms_116 : decode cX10_terms 116 = .ok (.if_icmp .ne 8, 3) := by decide +kernel
theorem dX10_terms_119 : decode cX10_terms 119 = .ok (.iload 5, 2) := by decide +kernel
theorem dX10_terms_121 : decode cX10_terms 121 = .ok (.goto 5, 3) := by decide +kernel
theorem dX10_terms_124 : decode cX10_terms 124 = .ok (.iload 6, 2) := by decide +kernel
theorem dX10_terms_126 : decode cX10_terms 126 = .ok (.ireturn, 1) := by decide +kernel
theorem dX10_ask_0 : decode cX10_ask 0 = .ok (.aload_n 0, 1) := by decide +kernel
theorem dX10_ask_1 : decode cX10_ask 1 = .ok (.getfield 10, 3) := by decide +kernel
theorem dX10_ask_4 : decode cX10_ask 4 = .ok (.iload_n 1, 1) := by decide +kernel
theorem dX10_ask_5 : decode cX10_ask 5 = .ok (.invokevirtual 111, 3) := by decide +kernel
theorem dX10_ask_8 : decode cX10_ask 8 = .ok (.ifnull 12, 3) := by decide +kernel
theorem dX10_ask_11 : decode cX10_ask 11 = .ok (.iload_n 2, 1) := by decide +kernel
theorem dX10_ask_12 : decode cX10_ask 12 = .ok (.iconst 0, 1) := by decide +kernel
theorem dX10_ask_13 : decode cX10_ask 13 = .ok (.iconst 1, 1) := by decide +kernel
theorem dX10_ask_14 : decode cX10_ask 14 = .ok (.invokestatic 158, 3) := by decide +kernel
theorem dX10_ask_17 : decode cX10_ask 17 = .ok (.ifCond .ne 5, 3) := by decide +kernel
theorem dX10_ask_20 : decode cX10_ask 20 = .ok (.iconst (-1), 1) := by decide +kernel
theorem dX10_ask_21 : decode cX10_ask 21 = .ok (.ireturn, 1) := by decide +kernel
theorem dX10_ask_22 : decode cX10_ask 22 = .ok (.aload_n 0, 1) := by decide +kernel
theorem dX10_ask_23 : decode cX10_ask 23 = .ok (.getfield 10, 3) := by decide +kernel
theorem dX10_ask_26 : decode cX10_ask 26 = .ok (.iload_n 1, 1) := by decide +kernel
theorem dX10_ask_27 : decode cX10_ask 27 = .ok (.invokestatic 273, 3) := by decide +kernel
theorem dX10_ask_30 : decode cX10_ask 30 = .ok (.istore_n 3, 1) := by decide +kernel
theorem dX10_ask_31 : decode cX10_ask 31 = .ok (.iload_n 3, 1) := by decide +kernel
theorem dX10_ask_32 : decode cX10_ask 32 = .ok (.invokestatic 208, 3) := by decide +kernel
theorem dX10_ask_35 : decode cX10_ask 35 = .ok (.istore 4, 2) := by decide +kernel
theorem dX10_ask_37 : decode cX10_ask 37 = .ok (.bipush (-4), 2) := by decide +kernel
theorem dX10_ask_39 : decode cX10_ask 39 = .ok (.istore 5, 2) := by decide +kernel
theorem dX10_ask_41 : decode cX10_ask 41 = .ok (.iconst 1, 1) := by decide +kernel
theorem dX10_ask_42 : decode cX10_ask 42 = .ok (.istore 6, 2) := by decide +kernel
theorem dX10_ask_44 : decode cX10_ask 44 = .ok (.iload 6, 2) := by decide +kernel
theorem dX10_ask_46 : decode cX10_ask 46 = .ok (.bipush 60, 2) := by decide +kernel
theorem dX10_ask_48 : decode cX10_ask 48 = .ok (.if_icmp .gt 32, 3) := by decide +kernel
theorem dX10_ask_51 : decode cX10_ask 51 = .ok (.iload_n 3, 1) := by decide +kernel
theorem dX10_ask_52 : decode cX10_ask 52 = .ok (.iload 6, 2) := by decide +kernel
theorem dX10_ask_54 : decode cX10_ask 54 = .ok (.invokestatic 284, 3) := by decide +kernel
theorem dX10_ask_57 : decode cX10_ask 57 = .ok (.istore 7, 2) := by decide +kernel
theorem dX10_ask_59 : decode cX10_ask 59 = .ok (.iload 7, 2) := by decide +kernel
theorem dX10_ask_61 : decode cX10_ask 61 = .ok (.iload 4, 2) := by decide +kernel
theorem dX10_ask_63 : decode cX10_ask 63 = .ok (.if_icmp .ge 11, 3) := by decide +kernel
theorem dX10_ask_66 : decode cX10_ask 66 = .ok (.iload 7, 2) := by decide +kernel
theorem dX10_ask_68 : decode cX10_ask 68 = .ok (.istore 4, 2) := by decide +kernel
theorem dX10_ask_70 : decode cX10_ask 70 = .ok (.iload 6, 2) := by decide +kernel
theorem dX10_ask_72 : decode cX10_ask 72 = .ok (.istore 5, 2) := by decide +kernel
theorem dX10_ask_74 : decode cX10_ask 74 = .ok (.iinc 6 1, 3) := by decide +kernel
theorem dX10_ask_77 : decode cX10_ask 77 = .ok (.goto (-33), 3) := by decide +kernel
theorem dX10_ask_80 : decode cX10_ask 80 = .ok (.iload 5, 2) := by decide +kernel
theorem dX10_ask_82 : decode cX10_ask 82 = .ok (.bipush (-4), 2) := by decide +kernel
theorem dX10_ask_84 : decode cX10_ask 84 = .ok (.if_icmp .eq 7, 3) := by decide +kernel
theorem dX10_ask_87 : decode cX10_ask 87 = .ok (.iload_n 2, 1) := by decide +kernel
theorem dX10_ask_88 : decode cX10_ask 88 = .ok (.ifCond .ne 8, 3) := by decide +kernel
theorem dX10_ask_91 : decode cX10_ask 91 = .ok (.iload 5, 2) := by decide +kernel
theorem dX10_ask_93 : decode cX10_ask 93 = .ok (.goto 5, 3) := by decide +kernel
theorem dX10_ask_96 : decode cX10_ask 96 = .ok (.iload 4, 2) := by decide +kernel
theorem dX10_ask_98 : decode cX10_ask 98 = .ok (.ireturn, 1) := by decide +kernel
theorem dX10_drift_0 : decode cX10_drift 0 = .ok (.iload_n 2, 1) := by decide +kernel
theorem dX10_drift_1 : decode cX10_drift 1 = .ok (.iconst 1, 1) := by decide +kernel
theorem dX10_drift_2 : decode cX10_drift 2 = .ok (.bipush 60, 2) := by decide +kernel
theorem dX10_drift_4 : decode cX10_drift 4 = .ok (.invokestatic 158, 3) := by decide +kernel
theorem dX10_drift_7 : decode cX10_drift 7 = .ok (.ifCond .eq 12, 3) := by decide +kernel
theorem dX10_drift_10 : decode cX10_drift 10 = .ok (.iload_n 3, 1) := by decide +kernel
theorem dX10_drift_11 : decode cX10_drift 11 = .ok (.iconst 0, 1) := by decide +kernel
theorem dX10_drift_12 : decode cX10_drift 12 = .ok (.iconst 1, 1) := by decide +kernel
theorem dX10_drift_13 : decode cX10_drift 13 = .ok (.invokestatic 158, 3) := by decide +kernel
theorem dX10_drift_16 : decode cX10_drift 16 = .ok (.ifCond .ne 5, 3) := by decide +kernel
theorem dX10_drift_19 : decode cX10_drift 19 = .ok (.iconst (-1), 1) := by decide +kernel
theorem dX10_drift_20 : decode cX10_drift 20 = .ok (.ireturn, 1) := by decide +kernel
theorem dX10_drift_21 : decode cX10_drift 21 = .ok (.aload_n 0, 1) := by decide +kernel
theorem dX10_drift_22 : decode cX10_drift 22 = .ok (.getfield 10, 3) := by decide +kernel
theorem dX10_drift_25 : decode cX10_drift 25 = .ok (.getfield 89, 3) := by decide +kernel
theorem dX10_drift_28 : decode cX10_drift 28 = .ok (.ifCond .le 13, 3) := by decide +kernel
theorem dX10_drift_31 : decode cX10_drift 31 = .ok (.aload_n 0, 1) := by decide +kernel
theorem dX10_drift_32 : decode cX10_drift 32 = .ok (.getfield 10, 3) := by decide +kernel
theorem dX10_drift_35 : decode cX10_drift 35 = .ok (.getfield 92, 3) := by decide +kernel
theorem dX10_drift_38 : decode cX10_drift 38 = .ok (.ifCond .gt 6, 3) := by decide +kernel
theorem dX10_drift_41 : decode cX10_drift 41 = .ok (.bipush (-2), 2) := by decide +kernel
theorem dX10_drift_43 : decode cX10_drift 43 = .ok (.ireturn, 1) := by decide +kernel
theorem dX10_drift_44 : decode cX10_drift 44 = .ok (.aload_n 0, 1) := by decide +kernel
theorem dX10_drift_45 : decode cX10_drift 45 = .ok (.getfield 16, 3) := by decide +kernel
theorem dX10_drift_48 : decode cX10_drift 48 = .ok (.aload_n 0, 1) := by decide +kernel
theorem dX10_drift_49 : decode cX10_drift 49 = .ok (.getfield 10, 3) := by decide +kernel
theorem dX10_drift_52 : decode cX10_drift 52 = .ok (.invokevirtual 82, 3) := by decide +kernel
theorem dX10_drift_55 : decode cX10_drift 55 = .ok (.iload_n 1, 1) := by decide +kernel
theorem dX10_drift_56 : decode cX10_drift 56 = .ok (.istore 4, 2) := by decide +kernel
theorem dX10_drift_58 : decode cX10_drift 58 = .ok (.iconst 0, 1) := by decide +kernel
theorem dX10_drift_59 : decode cX10_drift 59 = .ok (.istore 5, 2) := by decide +kernel
theorem dX10_drift_61 : decode cX10_drift 61 = .ok (.iload 5, 2) := by decide +kernel
theorem dX10_drift_63 : decode cX10_drift 63 = .ok (.iload_n 2, 1) := by decide +kernel
theorem dX10_drift_64 : decode cX10_drift 64 = .ok (.if_icmp .ge 70, 3) := by decide +kernel
theorem dX10_drift_67 : decode cX10_drift 67 = .ok (.iload 4, 2) := by decide +kernel
theorem dX10_drift_69 : decode cX10_drift 69 = .ok (.ldc_w 287, 3) := by decide +kernel
theorem dX10_drift_72 : decode cX10_drift 72 = .ok (.imul, 1) := by decide +kernel
theorem dX10_drift_73 : decode cX10_drift 73 = .ok (.sipush 12345, 3) := by decide +kernel
theorem dX10_drift_76 : decode cX10_drift 76 = .ok (.iadd, 1) := by decide +kernel
theorem dX10_drift_77 : decode cX10_drift 77 = .ok (.istore 4, 2) := by decide +kernel
theorem dX10_drift_79 : decode cX10_drift 79 = .ok (.iload 4, 2) := by decide +kernel
theorem dX10_drift_81 : decode cX10_drift 81 = .ok (.bipush 16, 2) := by decide +kernel
theorem dX10_drift_83 : decode cX10_drift 83 = .ok (.iushr, 1) := by decide +kernel
theorem dX10_drift_84 : decode cX10_drift 84 = .ok (.sipush 32767, 3) := by decide +kernel
theorem dX10_drift_87 : decode cX10_drift 87 = .ok (.iand, 1) := by decide +kernel
theorem dX10_drift_88 : decode cX10_drift 88 = .ok (.istore 6, 2) := by decide +kernel
theorem dX10_drift_90 : decode cX10_drift 90 = .ok (.aload_n 0, 1) := by decide +kernel
theorem dX10_drift_91 : decode cX10_drift 91 = .ok (.getfield 16, 3) := by decide +kernel
theorem dX10_drift_94 : decode cX10_drift 94 = .ok (.iload 6, 2) := by decide +kernel
theorem dX10_drift_96 : decode cX10_drift 96 = .ok (.aload_n 0, 1) := by decide +kernel
theorem dX10_drift_97 : decode cX10_drift 97 = .ok (.getfield 10, 3) := by decide +kernel
theorem dX10_drift_100 : decode cX10_drift 100 = .ok (.getfield 92, 3) := by decide +kernel
theorem dX10_drift_103 : decode cX10_drift 103 = .ok (.irem, 1) := by decide +kernel
theorem dX10_drift_104 : decode cX10_drift 104 = .ok (.iload 6, 2) := by decide +kernel
theorem dX10_drift_106 : decode cX10_drift 106 = .ok (.bipush 8, 2) := by decide +kernel
theorem dX10_drift_108 : decode cX10_drift 108 = .ok (.idiv, 1) := by decide +kernel
theorem dX10_drift_109 : decode cX10_drift 109 = .ok (.aload_n 0, 1) := by decide +kernel
theorem dX10_drift_110 : decode cX10_drift 110 = .ok (.getfield 10, 3) := by decide +kernel
theorem dX10_drift_113 : decode cX10_drift 113 = .ok (.getfield 89, 3) := by decide +kernel
theorem dX10_drift_116 : decode cX10_drift 116 = .ok (.irem, 1) := by decide +kernel
theorem dX10_drift_117 : decode cX10_drift 117 = .ok (.invokevirtual 288, 3) := by decide +kernel
theorem dX10_drift_120 : decode cX10_drift 120 = .ok (.pop, 1) := by decide +kernel
theorem dX10_drift_121 : decode cX10_drift 121 = .ok (.aload_n 0, 1) := by decide +kernel
theorem dX10_drift_122 : decode cX10_drift 122 = .ok (.getfield 16, 3) := by decide +kernel
theorem dX10_drift_125 : decode cX10_drift 125 = .ok (.invokevirtual 189, 3) := by decide +kernel
theorem dX10_drift_128 : decode cX10_drift 128 = .ok (.iinc 5 1, 3) := by decide +kernel
theorem dX10_drift_131 : decode cX10_drift 131 = .ok (.goto (-70), 3) := by decide +kernel
theorem dX10_drift_134 : decode cX10_drift 134 = .ok (.iload_n 3, 1) := by decide +kernel
theorem dX10_drift_135 : decode cX10_drift 135 = .ok (.ifCond .ne 13, 3) := by decide +kernel
theorem dX10_drift_138 : decode cX10_drift 138 = .ok (.aload_n 0, 1) := by decide +kernel
theorem dX10_drift_139 : decode cX10_drift 139 = .ok (.getfield 16, 3) := by decide +kernel
theorem dX10_drift_142 : decode cX10_drift 142 = .ok (.getfield 98, 3) := by decide +kernel
theorem dX10_drift_145 : decode cX10_drift 145 = .ok (.goto 10, 3) := by decide +kernel
theorem dX10_drift_148 : decode cX10_drift 148 = .ok (.aload_n 0, 1) := by decide +kernel
theorem dX10_drift_149 : decode cX10_drift 149 = .ok (.getfield 16, 3) := by decide +kernel
theorem dX10_drift_152 : decode cX10_drift 152 = .ok (.invokevirtual 101, 3) := by decide +kernel
theorem dX10_drift_155 : decode cX10_drift 155 = .ok (.ireturn, 1) := by decide +kernel
theorem dX10_keep_0 : decode cX10_keep 0 = .ok (.aload_n 0, 1) := by decide +kernel
theorem dX10_keep_1 : decode cX10_keep 1 = .ok (.iload_n 1, 1) := by decide +kernel
theorem dX10_keep_2 : decode cX10_keep 2 = .ok (.invokevirtual 291, 3) := by decide +kernel
theorem dX10_keep_5 : decode cX10_keep 5 = .ok (.astore_n 2, 1) := by decide +kernel
theorem dX10_keep_6 : decode cX10_keep 6 = .ok (.aload_n 2, 1) := by decide +kernel
theorem dX10_keep_7 : decode cX10_keep 7 = .ok (.ifnonnull 5, 3) := by decide +kernel
theorem dX10_keep_10 : decode cX10_keep 10 = .ok (.iconst (-1), 1) := by decide +kernel
theorem dX10_keep_11 : decode cX10_keep 11 = .ok (.ireturn, 1) := by decide +kernel
theorem dX10_keep_12 : decode cX10_keep 12 = .ok (.aload_n 2, 1) := by decide +kernel
theorem dX10_keep_13 : decode cX10_keep 13 = .ok (.getfield 295, 3) := by decide +kernel
theorem dX10_keep_16 : decode cX10_keep 16 = .ok (.ifCond .eq 7, 3) := by decide +kernel
theorem dX10_keep_19 : decode cX10_keep 19 = .ok (.iconst 1, 1) := by decide +kernel
theorem dX10_keep_20 : decode cX10_keep 20 = .ok (.goto 4, 3) := by decide +kernel
theorem dX10_keep_23 : decode cX10_keep 23 = .ok (.iconst 0, 1) := by decide +kernel
theorem dX10_keep_24 : decode cX10_keep 24 = .ok (.istore_n 3, 1) := by decide +kernel
theorem dX10_keep_25 : decode cX10_keep 25 = .ok (.aload_n 2, 1) := by decide +kernel
theorem dX10_keep_26 : decode cX10_keep 26 = .ok (.getfield 299, 3) := by decide +kernel
theorem dX10_keep_29 : decode cX10_keep 29 = .ok (.aload_n 0, 1) := by decide +kernel
theorem dX10_keep_30 : decode cX10_keep 30 = .ok (.getfield 10, 3) := by decide +kernel
theorem dX10_keep_33 : decode cX10_keep 33 = .ok (.invokevirtual 82, 3) := by decide +kernel
theorem dX10_keep_36 : decode cX10_keep 36 = .ok (.aload_n 2, 1) := by decide +kernel
theorem dX10_keep_37 : decode cX10_keep 37 = .ok (.iconst 1, 1) := by decide +kernel
theorem dX10_keep_38 : decode cX10_keep 38 = .ok (.putfield 295, 3) := by decide +kernel
theorem dX10_keep_41 : decode cX10_keep 41 = .ok (.iload_n 3, 1) := by decide +kernel
theorem dX10_keep_42 : decode cX10_keep 42 = .ok (.ireturn, 1) := by decide +kernel
theorem dX10_back_0 : decode cX10_back 0 = .ok (.aload_n 0, 1) := by decide +kernel
theorem dX10_back_1 : decode cX10_back 1 = .ok (.iload_n 1, 1) := by decide +kernel
theorem dX10_back_2 : decode cX10_back 2 = .ok (.invokevirtual 291, 3) := by decide +kernel
theorem dX10_back_5 : decode cX10_back 5 = .ok (.astore_n 2, 1) := by decide +kernel
theorem dX10_back_6 : decode cX10_back 6 = .ok (.aload_n 2, 1) := by decide +kernel
theorem dX10_back_7 : decode cX10_back 7 = .ok (.ifnonnull 5, 3) := by decide +kernel
theorem dX10_back_10 : decode cX10_back 10 = .ok (.iconst (-1), 1) := by decide +kernel
theorem dX10_back_11 : decode cX10_back 11 = .ok (.ireturn, 1) := by decide +kernel
theorem dX10_back_12 : decode cX10_back 12 = .ok (.aload_n 2, 1) := by decide +kernel
theorem dX10_back_13 : decode cX10_back 13 = .ok (.getfield 295, 3) := by decide +kernel
theorem dX10_back_16 : decode cX10_back 16 = .ok (.ifCond .ne 6, 3) := by decide +kernel
theorem dX10_back_19 : decode cX10_back 19 = .ok (.bipush (-2), 2) := by decide +kernel
theorem dX10_back_21 : decode cX10_back 21 = .ok (.ireturn, 1) := by decide +kernel
theorem dX10_back_22 : decode cX10_back 22 = .ok (.aload_n 0, 1) := by decide +kernel
theorem dX10_back_23 : decode cX10_back 23 = .ok (.getfield 10, 3) := by decide +kernel
theorem dX10_back_26 : decode cX10_back 26 = .ok (.aload_n 2, 1) := by decide +kernel
theorem dX10_back_27 : decode cX10_back 27 = .ok (.getfield 299, 3) := by decide +kernel
theorem dX10_back_30 : decode cX10_back 30 = .ok (.invokevirtual 82, 3) := by decide +kernel
theorem dX10_back_33 : decode cX10_back 33 = .ok (.aload_n 0, 1) := by decide +kernel
theorem dX10_back_34 : decode cX10_back 34 = .ok (.getfield 10, 3) := by decide +kernel
theorem dX10_back_37 : decode cX10_back 37 = .ok (.getfield 95, 3) := by decide +kernel
theorem dX10_back_40 : decode cX10_back 40 = .ok (.ireturn, 1) := by decide +kernel
theorem dX10_sheet_0 : decode cX10_sheet 0 = .ok (.aload_n 0, 1) := by decide +kernel
theorem dX10_sheet_1 : decode cX10_sheet 1 = .ok (.iload_n 1, 1) := by decide +kernel
theorem dX10_sheet_2 : decode cX10_sheet 2 = .ok (.invokevirtual 302, 3) := by decide +kernel
theorem dX10_sheet_5 : decode cX10_sheet 5 = .ok (.astore 4, 2) := by decide +kernel
theorem dX10_sheet_7 : decode cX10_sheet 7 = .ok (.aload 4, 2) := by decide +kernel
theorem dX10_sheet_9 : decode cX10_sheet 9 = .ok (.ifnull 18, 3) := by decide +kernel
theorem dX10_sheet_12 : decode cX10_sheet 12 = .ok (.iload_n 2, 1) := by decide +kernel
theorem dX10_sheet_13 : decode cX10_sheet 13 = .ok (.iconst 0, 1) := by decide +kernel
theorem dX10_sheet_14 : decode cX10_sheet 14 = .ok (.iconst 2, 1) := by decide +kernel
theorem dX10_sheet_15 : decode cX10_sheet 15 = .ok (.invokestatic 158, 3) := by decide +kernel
theorem dX10_sheet_18 : decode cX10_sheet 18 = .ok (.ifCond .eq 9, 3) := by decide +kernel
theorem dX10_sheet_21 : decode cX10_sheet 21 = .ok (.iload_n 3, 1) := by decide +kernel
theorem dX10_sheet_22 : decode cX10_sheet 22 = .ok (.bipush 40, 2) := by decide +kernel
theorem dX10_sheet_24 : decode cX10_sheet 24 = .ok (.if_icmp .le 5, 3) := by decide +kernel
theorem dX10_sheet_27 : decode cX10_sheet 27 = .ok (.iconst (-1), 1) := by decide +kernel
theorem dX10_sheet_28 : decode cX10_sheet 28 = .ok (.ireturn, 1) := by decide +kernel
theorem dX10_sheet_29 : decode cX10_sheet 29 = .ok (.iload_n 3, 1) := by decide +kernel
theorem dX10_sheet_30 : decode cX10_sheet 30 = .ok (.ifCond .ge 6, 3) := by decide +kernel
theorem dX10_sheet_33 : decode cX10_sheet 33 = .ok (.bipush (-14), 2) := by decide +kernel
theorem dX10_sheet_35 : decode cX10_sheet 35 = .ok (.ireturn, 1) := by decide +kernel
theorem dX10_sheet_36 : decode cX10_sheet 36 = .ok (.aload 4, 2) := by decide +kernel
theorem dX10_sheet_38 : decode cX10_sheet 38 = .ok (.iload_n 2, 1) := by decide +kernel
theorem dX10_sheet_39 : decode cX10_sheet 39 = .ok (.iload_n 3, 1) := by decide +kernel
theorem dX10_sheet_40 : decode cX10_sheet 40 = .ok (.invokevirtual 306, 3) := by decide +kernel
theorem dX10_sheet_43 : decode cX10_sheet 43 = .ok (.iconst 1, 1) := by decide +kernel
theorem dX10_sheet_44 : decode cX10_sheet 44 = .ok (.ireturn, 1) := by decide +kernel
theorem dX10_lay_0 : decode cX10_lay 0 = .ok (.aload_n 0, 1) := by decide +kernel
theorem dX10_lay_1 : decode cX10_lay 1 = .ok (.iload_n 1, 1) := by decide +kernel
theorem dX10_lay_2 : decode cX10_lay 2 = .ok (.invokevirtual 302, 3) := by decide +kernel
theorem dX10_lay_5 : decode cX10_lay 5 = .ok (.astore 4, 2) := by decide +kernel
theorem dX10_lay_7 : decode cX10_lay 7 = .ok (.aload 4, 2) := by decide +kernel
theorem dX10_lay_9 : decode cX10_lay 9 = .ok (.ifnonnull 5, 3) := by decide +kernel
theorem dX10_lay_12 : decode cX10_lay 12 = .ok (.iconst (-1), 1) := by decide +kernel
theorem dX10_lay_13 : decode cX10_lay 13 = .ok (.ireturn, 1) := by decide +kernel
theorem dX10_lay_14 : decode cX10_lay 14 = .ok (.aload 4, 2) := by decide +kernel
theorem dX10_lay_16 : decode cX10_lay 16 = .ok (.iload_n 2, 1) := by decide +kernel
theorem dX10_lay_17 : decode cX10_lay 17 = .ok (.iload_n 3, 1) := by decide +kernel
theorem dX10_lay_18 : decode cX10_lay 18 = .ok (.invokevirtual 310, 3) := by decide +kernel
theorem dX10_lay_21 : decode cX10_lay 21 = .ok (.istore 5, 2) := by decide +kernel
theorem dX10_lay_23 : decode cX10_lay 23 = .ok (.iload 5, 2) := by decide +kernel
theorem dX10_lay_25 : decode cX10_lay 25 = .ok (.ifCond .ne 7, 3) := by decide +kernel
theorem dX10_lay_28 : decode cX10_lay 28 = .ok (.iconst 1, 1) := by decide +kernel
theorem dX10_lay_29 : decode cX10_lay 29 = .ok (.goto 8, 3) := by decide +kernel
theorem dX10_lay_32 : decode cX10_lay 32 = .ok (.bipush (-10), 2) := by decide +kernel
theorem dX10_lay_34 : decode cX10_lay 34 = .ok (.iload 5, 2) := by decide +kernel
theorem dX10_lay_36 : decode cX10_lay 36 = .ok (.isub, 1) := by decide +kernel
theorem dX10_lay_37 : decode cX10_lay 37 = .ok (.ireturn, 1) := by decide +kernel
theorem dX10_read_0 : decode cX10_read 0 = .ok (.aload_n 0, 1) := by decide +kernel
theorem dX10_read_1 : decode cX10_read 1 = .ok (.iload_n 1, 1) := by decide +kernel
theorem dX10_read_2 : decode cX10_read 2 = .ok (.invokevirtual 302, 3) := by decide +kernel
theorem dX10_read_5 : decode cX10_read 5 = .ok (.astore 5, 2) := by decide +kernel
theorem dX10_read_7 : decode cX10_read 7 = .ok (.aload 5, 2) := by decide +kernel
theorem dX10_read_9 : decode cX10_read 9 = .ok (.ifnull 23, 3) := by decide +kernel
theorem dX10_read_12 : decode cX10_read 12 = .ok (.iload_n 2, 1) := by decide +kernel
theorem dX10_read_13 : decode cX10_read 13 = .ok (.iconst 0, 1) := by decide +kernel
theorem dX10_read_14 : decode cX10_read 14 = .ok (.iconst 2, 1) := by decide +kernel
theorem dX10_read_15 : decode cX10_read 15 = .ok (.invokestatic 158, 3) := by decide +kernel
theorem dX10_read_18 : decode cX10_read 18 = .ok (.ifCond .eq 14, 3) := by decide +kernel
theorem dX10_read_21 : decode cX10_read 21 = .ok (.iload 4, 2) := by decide +kernel
theorem dX10_read_23 : decode cX10_read 23 = .ok (.iconst 0, 1) := by decide +kernel
theorem dX10_read_24 : decode cX10_read 24 = .ok (.bipush 13, 2) := by decide +kernel
theorem dX10_read_26 : decode cX10_read 26 = .ok (.invokestatic 158, 3) := by decide +kernel
theorem dX10_read_29 : decode cX10_read 29 = .ok (.ifCond .ne 5, 3) := by decide +kernel
theorem dX10_read_32 : decode cX10_read 32 = .ok (.iconst (-1), 1) := by decide +kernel
theorem dX10_read_33 : decode cX10_read 33 = .ok (.ireturn, 1) := by decide +kernel
theorem dX10_read_34 : decode cX10_read 34 = .ok (.iload 4, 2) := by decide +kernel
theorem dX10_read_36 : decode cX10_read 36 = .ok (.ifCond .ne 7, 3) := by decide +kernel
theorem dX10_read_39 : decode cX10_read 39 = .ok (.iconst 0, 1) := by decide +kernel
theorem dX10_read_40 : decode cX10_read 40 = .ok (.goto 9, 3) := by decide +kernel
theorem dX10_read_43 : decode cX10_read 43 = .ok (.aload 5, 2) := by decide +kernel
theorem dX10_read_45 : decode cX10_read 45 = .ok (.iload_n 2, 1) := by decide +kernel
theorem dX10_read_46 : decode cX10_read 46 = .ok (.invokevirtual 313, 3) := by decide +kernel
theorem dX10_read_49 : decode cX10_read 49 = .ok (.istore 6, 2) := by decide +kernel
theorem dX10_read_51 : decode cX10_read 51 = .ok (.iconst 0, 1) := by decide +kernel
theorem dX10_read_52 : decode cX10_read 52 = .ok (.istore 7, 2) := by decide +kernel
theorem dX10_read_54 : decode cX10_read 54 = .ok (.aload_n 0, 1) := by decide +kernel
theorem dX10_read_55 : decode cX10_read 55 = .ok (.getfield 16, 3) := by decide +kernel
theorem dX10_read_58 : decode cX10_read 58 = .ok (.aload_n 0, 1) := by decide +kernel
theorem dX10_read_59 : decode cX10_read 59 = .ok (.getfield 10, 3) := by decide +kernel
theorem dX10_read_62 : decode cX10_read 62 = .ok (.invokevirtual 82, 3) := by decide +kernel
theorem dX10_read_65 : decode cX10_read 65 = .ok (.iconst 0, 1) := by decide +kernel
theorem dX10_read_66 : decode cX10_read 66 = .ok (.istore 8, 2) := by decide +kernel
theorem dX10_read_68 : decode cX10_read 68 = .ok (.iload 8, 2) := by decide +kernel
theorem dX10_read_70 : decode cX10_read 70 = .ok (.iload 4, 2) := by decide +kernel
theorem dX10_read_72 : decode cX10_read 72 = .ok (.if_icmp .ge 104, 3) := by decide +kernel
theorem dX10_read_75 : decode cX10_read 75 = .ok (.iload 6, 2) := by decide +kernel
theorem dX10_read_77 : decode cX10_read 77 = .ok (.ifCond .ne 99, 3) := by decide +kernel
theorem dX10_read_80 : decode cX10_read 80 = .ok (.iload_n 3, 1) := by decide +kernel
theorem dX10_read_81 : decode cX10_read 81 = .ok (.i2l, 1) := by decide +kernel
theorem dX10_read_82 : decode cX10_read 82 = .ok (.ldc2_w 316, 3) := by decide +kernel
theorem dX10_read_85 : decode cX10_read 85 = .ok (.iload 8, 2) := by decide +kernel
theorem dX10_read_87 : decode cX10_read 87 = .ok (.i2l, 1) := by decide +kernel
theorem dX10_read_88 : decode cX10_read 88 = .ok (.lmul, 1) := by decide +kernel
theorem dX10_read_89 : decode cX10_read 89 = .ok (.ladd, 1) := by decide +kernel
theorem dX10_read_90 : decode cX10_read 90 = .ok (.lstore 9, 2) := by decide +kernel
theorem dX10_read_92 : decode cX10_read 92 = .ok (.lload 9, 2) := by decide +kernel
theorem dX10_read_94 : decode cX10_read 94 = .ok (.lconst 0, 1) := by decide +kernel
theorem dX10_read_95 : decode cX10_read 95 = .ok (.lcmp, 1) := by decide +kernel
theorem dX10_read_96 : decode cX10_read 96 = .ok (.ifCond .lt 19, 3) := by decide +kernel
theorem dX10_read_99 : decode cX10_read 99 = .ok (.lload 9, 2) := by decide +kernel
theorem dX10_read_101 : decode cX10_read 101 = .ok (.ldc2_w 318, 3) := by decide +kernel
theorem dX10_read_104 : decode cX10_read 104 = .ok (.ladd, 1) := by decide +kernel
theorem dX10_read_105 : decode cX10_read 105 = .ok (.aload 5, 2) := by decide +kernel
theorem dX10_read_107 : decode cX10_read 107 = .ok (.getfield 320, 3) := by decide +kernel
theorem dX10_read_110 : decode cX10_read 110 = .ok (.i2l, 1) := by decide +kernel
theorem dX10_read_111 : decode cX10_read 111 = .ok (.lcmp, 1) := by decide +kernel
theorem dX10_read_112 : decode cX10_read 112 = .ok (.ifCond .lt 9, 3) := by decide +kernel
theorem dX10_read_115 : decode cX10_read 115 = .ok (.iconst 2, 1) := by decide +kernel
theorem dX10_read_116 : decode cX10_read 116 = .ok (.istore 6, 2) := by decide +kernel
theorem dX10_read_118 : decode cX10_read 118 = .ok (.goto 52, 3) := by decide +kernel
theorem dX10_read_121 : decode cX10_read 121 = .ok (.lload 9, 2) := by decide +kernel
theorem dX10_read_123 : decode cX10_read 123 = .ok (.l2i, 1) := by decide +kernel
theorem dX10_read_124 : decode cX10_read 124 = .ok (.istore 11, 2) := by decide +kernel
theorem dX10_read_126 : decode cX10_read 126 = .ok (.aload_n 0, 1) := by decide +kernel
theorem dX10_read_127 : decode cX10_read 127 = .ok (.getfield 16, 3) := by decide +kernel
theorem dX10_read_130 : decode cX10_read 130 = .ok (.aload 5, 2) := by decide +kernel
theorem dX10_read_132 : decode cX10_read 132 = .ok (.iload 11, 2) := by decide +kernel
theorem dX10_read_134 : decode cX10_read 134 = .ok (.invokevirtual 323, 3) := by decide +kernel
theorem dX10_read_137 : decode cX10_read 137 = .ok (.aload 5, 2) := by decide +kernel
theorem dX10_read_139 : decode cX10_read 139 = .ok (.iload 11, 2) := by decide +kernel
theorem dX10_read_141 : decode cX10_read 141 = .ok (.iconst 1, 1) := by decide +kernel
theorem dX10_read_142 : decode cX10_read 142 = .ok (.iadd, 1) := by decide +kernel
theorem dX10_read_143 : decode cX10_read 143 = .ok (.invokevirtual 323, 3) := by decide +kernel
theorem dX10_read_146 : decode cX10_read 146 = .ok (.aload 5, 2) := by decide +kernel
theorem dX10_read_148 : decode cX10_read 148 = .ok (.iload 11, 2) := by decide +kernel
theorem dX10_read_150 : decode cX10_read 150 = .ok (.iconst 2, 1) := by decide +kernel
theorem dX10_read_151 : decode cX10_read 151 = .ok (.iadd, 1) := by decide +kernel
theorem dX10_read_152 : decode cX10_read 152 = .ok (.invokevirtual 323, 3) := by decide +kernel
theorem dX10_read_155 : decode cX10_read 155 = .ok (.invokestatic 181, 3) := by decide +kernel
theorem dX10_read_158 : decode cX10_read 158 = .ok (.ifCond .ge 9, 3) := by decide +kernel
theorem dX10_read_161 : decode cX10_read 161 = .ok (.bipush (-20), 2) := by decide +kernel
theorem dX10_read_163 : decode cX10_read 163 = .ok (.iload 8, 2) := by decide +kernel
theorem dX10_read_165 : decode cX10_read 165 = .ok (.isub, 1) := by decide +kernel
theorem dX10_read_166 : decode cX10_read 166 = .ok (.ireturn, 1) := by decide +kernel
theorem dX10_read_167 : decode cX10_read 167 = .ok (.iinc 7 1, 3) := by decide +kernel
theorem dX10_read_170 : decode cX10_read 170 = .ok (.iinc 8 1, 3) := by decide +kernel
theorem dX10_read_173 : decode cX10_read 173 = .ok (.goto (-105), 3) := by decide +kernel
theorem dX10_read_176 : decode cX10_read 176 = .ok (.aload_n 0, 1) := by decide +kernel
theorem dX10_read_177 : decode cX10_read 177 = .ok (.getfield 10, 3) := by decide +kernel
theorem dX10_read_180 : decode cX10_read 180 = .ok (.aload_n 0, 1) := by decide +kernel
theorem dX10_read_181 : decode cX10_read 181 = .ok (.getfield 16, 3) := by decide +kernel
theorem dX10_read_184 : decode cX10_read 184 = .ok (.invokevirtual 82, 3) := by decide +kernel
theorem dX10_read_187 : decode cX10_read 187 = .ok (.aload_n 0, 1) := by decide +kernel
theorem dX10_read_188 : decode cX10_read 188 = .ok (.iload 6, 2) := by decide +kernel
theorem dX10_read_190 : decode cX10_read 190 = .ok (.putfield 61, 3) := by decide +kernel
theorem dX10_read_193 : decode cX10_read 193 = .ok (.iload 7, 2) := by decide +kernel
theorem dX10_read_195 : decode cX10_read 195 = .ok (.ireturn, 1) := by decide +kernel
theorem dX10_torn_0 : decode cX10_torn 0 = .ok (.aload_n 0, 1) := by decide +kernel
theorem dX10_torn_1 : decode cX10_torn 1 = .ok (.getfield 61, 3) := by decide +kernel
theorem dX10_torn_4 : decode cX10_torn 4 = .ok (.ireturn, 1) := by decide +kernel
theorem dX10_count_0 : decode cX10_count 0 = .ok (.iload_n 1, 1) := by decide +kernel
theorem dX10_count_1 : decode cX10_count 1 = .ok (.tableswitch 81 0 5 #[39, 47, 52, 60, 65, 73], 39) := by decide +kernel
theorem dX10_count_40 : decode cX10_count 40 = .ok (.aload_n 0, 1) := by decide +kernel
theorem dX10_count_41 : decode cX10_count 41 = .ok (.getfield 10, 3) := by decide +kernel
theorem dX10_count_44 : decode cX10_count 44 = .ok (.getfield 270, 3) := by decide +kernel
theorem dX10_count_47 : decode cX10_count 47 = .ok (.ireturn, 1) := by decide +kernel
theorem dX10_count_48 : decode cX10_count 48 = .ok (.aload_n 0, 1) := by decide +kernel
theorem dX10_count_49 : decode cX10_count 49 = .ok (.invokevirtual 326, 3) := by decide +kernel
theorem dX10_count_52 : decode cX10_count 52 = .ok (.ireturn, 1) := by decide +kernel
theorem dX10_count_53 : decode cX10_count 53 = .ok (.aload_n 0, 1) := by decide +kernel
theorem dX10_count_54 : decode cX10_count 54 = .ok (.getfield 29, 3) := by decide +kernel
theorem dX10_count_57 : decode cX10_count 57 = .ok (.getfield 69, 3) := by decide +kernel
theorem dX10_count_60 : decode cX10_count 60 = .ok (.ireturn, 1) := by decide +kernel
theorem dX10_count_61 : decode cX10_count 61 = .ok (.aload_n 0, 1) := by decide +kernel
theorem dX10_count_62 : decode cX10_count 62 = .ok (.invokevirtual 329, 3) := by decide +kernel
theorem dX10_count_65 : decode cX10_count 65 = .ok (.ireturn, 1) := by decide +kernel
theorem dX10_count_66 : decode cX10_count 66 = .ok (.aload_n 0, 1) := by decide +kernel
theorem dX10_count_67 : decode cX10_count 67 = .ok (.getfield 10, 3) := by decide +kernel
theorem dX10_count_70 : decode cX10_count 70 = .ok (.invokevirtual 202, 3) := by decide +kernel
theorem dX10_count_73 : decode cX10_count 73 = .ok (.ireturn, 1) := by decide +kernel
theorem dX10_count_74 : decode cX10_count 74 = .ok (.aload_n 0, 1) := by decide +kernel
theorem dX10_count_75 : decode cX10_count 75 = .ok (.getfield 10, 3) := by decide +kernel
theorem dX10_count_78 : decode cX10_count 78 = .ok (.invokevirtual 332, 3) := by decide +kernel
theorem dX10_count_81 : decode cX10_count 81 = .ok (.ireturn, 1) := by decide +kernel
theorem dX10_count_82 : decode cX10_count 82 = .ok (.iconst (-1), 1) := by decide +kernel
theorem dX10_count_83 : decode cX10_count 83 = .ok (.ireturn, 1) := by decide +kernel
theorem dX10_within_0 : decode cX10_within 0 = .ok (.iload_n 0, 1) := by decide +kernel
theorem dX10_within_1 : decode cX10_within 1 = .ok (.iload_n 1, 1) := by decide +kernel
theorem dX10_within_2 : decode cX10_within 2 = .ok (.if_icmp .lt 12, 3) := by decide +kernel
theorem dX10_within_5 : decode cX10_within 5 = .ok (.iload_n 0, 1) := by decide +kernel
theorem dX10_within_6 : decode cX10_within 6 = .ok (.iload_n 2, 1) := by decide +kernel
theorem dX10_within_7 : decode cX10_within 7 = .ok (.if_icmp .gt 7, 3) := by decide +kernel
theorem dX10_within_10 : decode cX10_within 10 = .ok (.iconst 1, 1) := by decide +kernel
theorem dX10_within_11 : decode cX10_within 11 = .ok (.goto 4, 3) := by decide +kernel
theorem dX10_within_14 : decode cX10_within 14 = .ok (.iconst 0, 1) := by decide +kernel
theorem dX10_within_15 : decode cX10_within 15 = .ok (.ireturn, 1) := by decide +kernel
theorem dX10_tenthBy_0 : decode cX10_tenthBy 0 = .ok (.iload_n 1, 1) := by decide +kernel
theorem dX10_tenthBy_1 : decode cX10_tenthBy 1 = .ok (.bipush 9, 2) := by decide +kernel
theorem dX10_tenthBy_3 : decode cX10_tenthBy 3 = .ok (.iadd, 1) := by decide +kernel
theorem dX10_tenthBy_4 : decode cX10_tenthBy 4 = .ok (.bipush 10, 2) := by decide +kernel
theorem dX10_tenthBy_6 : decode cX10_tenthBy 6 = .ok (.idiv, 1) := by decide +kernel
theorem dX10_tenthBy_7 : decode cX10_tenthBy 7 = .ok (.istore_n 2, 1) := by decide +kernel
theorem dX10_tenthBy_8 : decode cX10_tenthBy 8 = .ok (.iload_n 2, 1) := by decide +kernel
theorem dX10_tenthBy_9 : decode cX10_tenthBy 9 = .ok (.iconst 1, 1) := by decide +kernel
theorem dX10_tenthBy_10 : decode cX10_tenthBy 10 = .ok (.iadd, 1) := by decide +kernel
theorem dX10_tenthBy_11 : decode cX10_tenthBy 11 = .ok (.iconst 2, 1) := by decide +kernel
theorem dX10_tenthBy_12 : decode cX10_tenthBy 12 = .ok (.idiv, 1) := by decide +kernel
theorem dX10_tenthBy_13 : decode cX10_tenthBy 13 = .ok (.istore_n 3, 1) := by decide +kernel
theorem dX10_tenthBy_14 : decode cX10_tenthBy 14 = .ok (.iload_n 0, 1) := by decide +kernel
theorem dX10_tenthBy_15 : decode cX10_tenthBy 15 = .ok (.tableswitch 42 0 2 #[25, 27, 40], 25) := by decide +kernel
theorem dX10_tenthBy_40 : decode cX10_tenthBy 40 = .ok (.iload_n 2, 1) := by decide +kernel
theorem dX10_tenthBy_41 : decode cX10_tenthBy 41 = .ok (.ireturn, 1) := by decide +kernel
theorem dX10_tenthBy_42 : decode cX10_tenthBy 42 = .ok (.iload_n 2, 1) := by decide +kernel
theorem dX10_tenthBy_43 : decode cX10_tenthBy 43 = .ok (.iconst 1, 1) := by decide +kernel
theorem dX10_tenthBy_44 : decode cX10_tenthBy 44 = .ok (.if_icmp .le 9, 3) := by decide +kernel
theorem dX10_tenthBy_47 : decode cX10_tenthBy 47 = .ok (.iload_n 2, 1) := by decide +kernel
theorem dX10_tenthBy_48 : decode cX10_tenthBy 48 = .ok (.iconst 1, 1) := by decide +kernel
theorem dX10_tenthBy_49 : decode cX10_tenthBy 49 = .ok (.isub, 1) := by decide +kernel
theorem dX10_tenthBy_50 : decode cX10_tenthBy 50 = .ok (.goto 4, 3) := by decide +kernel
theorem dX10_tenthBy_53 : decode cX10_tenthBy 53 = .ok (.iconst 1, 1) := by decide +kernel
theorem dX10_tenthBy_54 : decode cX10_tenthBy 54 = .ok (.ireturn, 1) := by decide +kernel
theorem dX10_tenthBy_55 : decode cX10_tenthBy 55 = .ok (.iload_n 3, 1) := by decide +kernel
theorem dX10_tenthBy_56 : decode cX10_tenthBy 56 = .ok (.ireturn, 1) := by decide +kernel
theorem dX10_tenthBy_57 : decode cX10_tenthBy 57 = .ok (.iconst 2, 1) := by decide +kernel
theorem dX10_tenthBy_58 : decode cX10_tenthBy 58 = .ok (.iload_n 3, 1) := by decide +kernel
theorem dX10_tenthBy_59 : decode cX10_tenthBy 59 = .ok (.imul, 1) := by decide +kernel
theorem dX10_tenthBy_60 : decode cX10_tenthBy 60 = .ok (.ireturn, 1) := by decide +kernel
theorem dX10_lessCrime_0 : decode cX10_lessCrime 0 = .ok (.iconst 0, 1) := by decide +kernel
theorem dX10_lessCrime_1 : decode cX10_lessCrime 1 = .ok (.iload_n 0, 1) := by decide +kernel
theorem dX10_lessCrime_2 : decode cX10_lessCrime 2 = .ok (.iload_n 1, 1) := by decide +kernel
theorem dX10_lessCrime_3 : decode cX10_lessCrime 3 = .ok (.iconst 5, 1) := by decide +kernel
theorem dX10_lessCrime_4 : decode cX10_lessCrime 4 = .ok (.idiv, 1) := by decide +kernel
theorem dX10_lessCrime_5 : decode cX10_lessCrime 5 = .ok (.isub, 1) := by decide +kernel
theorem dX10_lessCrime_6 : decode cX10_lessCrime 6 = .ok (.invokestatic 335, 3) := by decide +kernel
theorem dX10_lessCrime_9 : decode cX10_lessCrime 9 = .ok (.ireturn, 1) := by decide +kernel
theorem dX10_moreCrime_0 : decode cX10_moreCrime 0 = .ok (.bipush 99, 2) := by decide +kernel
theorem dX10_moreCrime_2 : decode cX10_moreCrime 2 = .ok (.iload_n 0, 1) := by decide +kernel
theorem dX10_moreCrime_3 : decode cX10_moreCrime 3 = .ok (.iload_n 1, 1) := by decide +kernel
theorem dX10_moreCrime_4 : decode cX10_moreCrime 4 = .ok (.iconst 5, 1) := by decide +kernel
theorem dX10_moreCrime_5 : decode cX10_moreCrime 5 = .ok (.idiv, 1) := by decide +kernel
theorem dX10_moreCrime_6 : decode cX10_moreCrime 6 = .ok (.iadd, 1) := by decide +kernel
theorem dX10_moreCrime_7 : decode cX10_moreCrime 7 = .ok (.invokestatic 340, 3) := by decide +kernel
theorem dX10_moreCrime_10 : decode cX10_moreCrime 10 = .ok (.ireturn, 1) := by decide +kernel
theorem dX10_sentenceAsAsked_0 : decode cX10_sentenceAsAsked 0 = .ok (.aload_n 0, 1) := by decide +kernel
theorem dX10_sentenceAsAsked_1 : decode cX10_sentenceAsAsked 1 = .ok (.iload_n 1, 1) := by decide +kernel
theorem dX10_sentenceAsAsked_2 : decode cX10_sentenceAsAsked 2 = .ok (.invokevirtual 136, 3) := by decide +kernel
theorem dX10_sentenceAsAsked_5 : decode cX10_sentenceAsAsked 5 = .ok (.astore 4, 2) := by decide +kernel
theorem dX10_sentenceAsAsked_7 : decode cX10_sentenceAsAsked 7 = .ok (.aload 4, 2) := by decide +kernel
theorem dX10_sentenceAsAsked_9 : decode cX10_sentenceAsAsked 9 = .ok (.ifnull 28, 3) := by decide +kernel
theorem dX10_sentenceAsAsked_12 : decode cX10_sentenceAsAsked 12 = .ok (.aload_n 0, 1) := by decide +kernel
theorem dX10_sentenceAsAsked_13 : decode cX10_sentenceAsAsked 13 = .ok (.iload_n 2, 1) := by decide +kernel
theorem dX10_sentenceAsAsked_14 : decode cX10_sentenceAsAsked 14 = .ok (.invokevirtual 111, 3) := by decide +kernel
theorem dX10_sentenceAsAsked_17 : decode cX10_sentenceAsAsked 17 = .ok (.ifnull 20, 3) := by decide +kernel
theorem dX10_sentenceAsAsked_20 : decode cX10_sentenceAsAsked 20 = .ok (.iload_n 3, 1) := by decide +kernel
theorem dX10_sentenceAsAsked_21 : decode cX10_sentenceAsAsked 21 = .ok (.aload 4, 2) := by decide +kernel
theorem dX10_sentenceAsAsked_23 : decode cX10_sentenceAsAsked 23 = .ok (.getfield 145, 3) := by decide +kernel
theorem dX10_sentenceAsAsked_26 : decode cX10_sentenceAsAsked 26 = .ok (.aload 4, 2) := by decide +kernel
theorem dX10_sentenceAsAsked_28 : decode cX10_sentenceAsAsked 28 = .ok (.getfield 148, 3) := by decide +kernel
theorem dX10_sentenceAsAsked_31 : decode cX10_sentenceAsAsked 31 = .ok (.invokestatic 158, 3) := by decide +kernel
theorem dX10_sentenceAsAsked_34 : decode cX10_sentenceAsAsked 34 = .ok (.ifCond .ne 5, 3) := by decide +kernel
theorem dX10_sentenceAsAsked_37 : decode cX10_sentenceAsAsked 37 = .ok (.iconst (-1), 1) := by decide +kernel
theorem dX10_sentenceAsAsked_38 : decode cX10_sentenceAsAsked 38 = .ok (.ireturn, 1) := by decide +kernel
theorem dX10_sentenceAsAsked_39 : decode cX10_sentenceAsAsked 39 = .ok (.aload_n 0, 1) := by decide +kernel
theorem dX10_sentenceAsAsked_40 : decode cX10_sentenceAsAsked 40 = .ok (.iload_n 1, 1) := by decide +kernel
theorem dX10_sentenceAsAsked_41 : decode cX10_sentenceAsAsked 41 = .ok (.iload_n 2, 1) := by decide +kernel
theorem dX10_sentenceAsAsked_42 : decode cX10_sentenceAsAsked 42 = .ok (.iload_n 3, 1) := by decide +kernel
theorem dX10_sentenceAsAsked_43 : decode cX10_sentenceAsAsked 43 = .ok (.invokevirtual 343, 3) := by decide +kernel
theorem dX10_sentenceAsAsked_46 : decode cX10_sentenceAsAsked 46 = .ok (.ifCond .eq 10, 3) := by decide +kernel
theorem dX10_sentenceAsAsked_49 : decode cX10_sentenceAsAsked 49 = .ok (.aload_n 0, 1) := by decide +kernel
theorem dX10_sentenceAsAsked_50 : decode cX10_sentenceAsAsked 50 = .ok (.getfield 98, 3) := by decide +kernel
theorem dX10_sentenceAsAsked_53 : decode cX10_sentenceAsAsked 53 = .ok (.goto 5, 3) := by decide +kernel
theorem dX10_sentenceAsAsked_56 : decode cX10_sentenceAsAsked 56 = .ok (.bipush (-2), 2) := by decide +kernel
theorem dX10_sentenceAsAsked_58 : decode cX10_sentenceAsAsked 58 = .ok (.ireturn, 1) := by decide +kernel
theorem dX10_seatIn_0 : decode cX10_seatIn 0 = .ok (.iload_n 0, 1) := by decide +kernel
theorem dX10_seatIn_1 : decode cX10_seatIn 1 = .ok (.iconst 2, 1) := by decide +kernel
theorem dX10_seatIn_2 : decode cX10_seatIn 2 = .ok (.iload_n 1, 1) := by decide +kernel
theorem dX10_seatIn_3 : decode cX10_seatIn 3 = .ok (.iconst 1, 1) := by decide +kernel
theorem dX10_seatIn_4 : decode cX10_seatIn 4 = .ok (.isub, 1) := by decide +kernel
theorem dX10_seatIn_5 : decode cX10_seatIn 5 = .ok (.iload_n 2, 1) := by decide +kernel
theorem dX10_seatIn_6 : decode cX10_seatIn 6 = .ok (.isub, 1) := by decide +kernel
theorem dX10_seatIn_7 : decode cX10_seatIn 7 = .ok (.imul, 1) := by decide +kernel
theorem dX10_seatIn_8 : decode cX10_seatIn 8 = .ok (.ishr, 1) := by decide +kernel
theorem dX10_seatIn_9 : decode cX10_seatIn 9 = .ok (.iconst 3, 1) := by decide +kernel
theorem dX10_seatIn_10 : decode cX10_seatIn 10 = .ok (.iand, 1) := by decide +kernel
theorem dX10_seatIn_11 : decode cX10_seatIn 11 = .ok (.ireturn, 1) := by decide +kernel
theorem dX10_oddsOf_0 : decode cX10_oddsOf 0 = .ok (.lconst 1, 1) := by decide +kernel
theorem dX10_oddsOf_1 : decode cX10_oddsOf 1 = .ok (.lstore_n 3, 1) := by decide +kernel
theorem dX10_oddsOf_2 : decode cX10_oddsOf 2 = .ok (.iconst 0, 1) := by decide +kernel
theorem dX10_oddsOf_3 : decode cX10_oddsOf 3 = .ok (.istore 5, 2) := by decide +kernel
theorem dX10_oddsOf_5 : decode cX10_oddsOf 5 = .ok (.iload 5, 2) := by decide +kernel
theorem dX10_oddsOf_7 : decode cX10_oddsOf 7 = .ok (.iconst 5, 1) := by decide +kernel
theorem dX10_oddsOf_8 : decode cX10_oddsOf 8 = .ok (.if_icmp .ge 40, 3) := by decide +kernel
theorem dX10_oddsOf_11 : decode cX10_oddsOf 11 = .ok (.iload_n 1, 1) := by decide +kernel
theorem dX10_oddsOf_12 : decode cX10_oddsOf 12 = .ok (.iload 5, 2) := by decide +kernel
theorem dX10_oddsOf_14 : decode cX10_oddsOf 14 = .ok (.ishr, 1) := by decide +kernel
theorem dX10_oddsOf_15 : decode cX10_oddsOf 15 = .ok (.iconst 1, 1) := by decide +kernel
theorem dX10_oddsOf_16 : decode cX10_oddsOf 16 = .ok (.iand, 1) := by decide +kernel
theorem dX10_oddsOf_17 : decode cX10_oddsOf 17 = .ok (.ifCond .eq 25, 3) := by decide +kernel
theorem dX10_oddsOf_20 : decode cX10_oddsOf 20 = .ok (.lload_n 3, 1) := by decide +kernel
theorem dX10_oddsOf_21 : decode cX10_oddsOf 21 = .ok (.iload_n 0, 1) := by decide +kernel
theorem dX10_oddsOf_22 : decode cX10_oddsOf 22 = .ok (.iload 5, 2) := by decide +kernel
theorem dX10_oddsOf_24 : decode cX10_oddsOf 24 = .ok (.ishr, 1) := by decide +kernel
theorem dX10_oddsOf_25 : decode cX10_oddsOf 25 = .ok (.iconst 1, 1) := by decide +kernel
theorem dX10_oddsOf_26 : decode cX10_oddsOf 26 = .ok (.iand, 1) := by decide +kernel
theorem dX10_oddsOf_27 : decode cX10_oddsOf 27 = .ok (.ifCond .eq 8, 3) := by decide +kernel
theorem dX10_oddsOf_30 : decode cX10_oddsOf 30 = .ok (.iload_n 2, 1) := by decide +kernel
theorem dX10_oddsOf_31 : decode cX10_oddsOf 31 = .ok (.i2l, 1) := by decide +kernel
theorem dX10_oddsOf_32 : decode cX10_oddsOf 32 = .ok (.goto 8, 3) := by decide +kernel
theorem dX10_oddsOf_35 : decode cX10_oddsOf 35 = .ok (.bipush 10, 2) := by decide +kernel
theorem dX10_oddsOf_37 : decode cX10_oddsOf 37 = .ok (.iload_n 2, 1) := by decide +kernel
theorem dX10_oddsOf_38 : decode cX10_oddsOf 38 = .ok (.isub, 1) := by decide +kernel
theorem dX10_oddsOf_39 : decode cX10_oddsOf 39 = .ok (.i2l, 1) := by decide +kernel
theorem dX10_oddsOf_40 : decode cX10_oddsOf 40 = .ok (.lmul, 1) := by decide +kernel
theorem dX10_oddsOf_41 : decode cX10_oddsOf 41 = .ok (.lstore_n 3, 1) := by decide +kernel
theorem dX10_oddsOf_42 : decode cX10_oddsOf 42 = .ok (.iinc 5 1, 3) := by decide +kernel
theorem dX10_oddsOf_45 : decode cX10_oddsOf 45 = .ok (.goto (-40), 3) := by decide +kernel
theorem dX10_oddsOf_48 : decode cX10_oddsOf 48 = .ok (.lload_n 3, 1) := by decide +kernel
theorem dX10_oddsOf_49 : decode cX10_oddsOf 49 = .ok (.lreturn, 1) := by decide +kernel
theorem dX10_oddsInAll_0 : decode cX10_oddsInAll 0 = .ok (.lconst 1, 1) := by decide +kernel
theorem dX10_oddsInAll_1 : decode cX10_oddsInAll 1 = .ok (.lstore_n 1, 1) := by decide +kernel
theorem dX10_oddsInAll_2 : decode cX10_oddsInAll 2 = .ok (.iconst 0, 1) := by decide +kernel
theorem dX10_oddsInAll_3 : decode cX10_oddsInAll 3 = .ok (.istore_n 3, 1) := by decide +kernel
theorem dX10_oddsInAll_4 : decode cX10_oddsInAll 4 = .ok (.iload_n 3, 1) := by decide +kernel
theorem dX10_oddsInAll_5 : decode cX10_oddsInAll 5 = .ok (.iload_n 0, 1) := by decide +kernel
theorem dX10_oddsInAll_6 : decode cX10_oddsInAll 6 = .ok (.invokestatic 208, 3) := by decide +kernel
theorem dX10_oddsInAll_9 : decode cX10_oddsInAll 9 = .ok (.if_icmp .ge 15, 3) := by decide +kernel
theorem dX10_oddsInAll_12 : decode cX10_oddsInAll 12 = .ok (.lload_n 1, 1) := by decide +kernel
theorem dX10_oddsInAll_13 : decode cX10_oddsInAll 13 = .ok (.ldc2_w 345, 3) := by decide +kernel
theorem dX10_oddsInAll_16 : decode cX10_oddsInAll 16 = .ok (.lmul, 1) := by decide +kernel
theorem dX10_oddsInAll_17 : decode cX10_oddsInAll 17 = .ok (.lstore_n 1, 1) := by decide +kernel
theorem dX10_oddsInAll_18 : decode cX10_oddsInAll 18 = .ok (.iinc 3 1, 3) := by decide +kernel
theorem dX10_oddsInAll_21 : decode cX10_oddsInAll 21 = .ok (.goto (-17), 3) := by decide +kernel
theorem dX10_oddsInAll_24 : decode cX10_oddsInAll 24 = .ok (.lload_n 1, 1) := by decide +kernel
theorem dX10_oddsInAll_25 : decode cX10_oddsInAll 25 = .ok (.lreturn, 1) := by decide +kernel
theorem dX10_lowest_0 : decode cX10_lowest 0 = .ok (.lload_n 0, 1) := by decide +kernel
theorem dX10_lowest_1 : decode cX10_lowest 1 = .ok (.lstore 5, 2) := by decide +kernel
theorem dX10_lowest_3 : decode cX10_lowest 3 = .ok (.lload_n 2, 1) := by decide +kernel
theorem dX10_lowest_4 : decode cX10_lowest 4 = .ok (.lstore 7, 2) := by decide +kernel
theorem dX10_lowest_6 : decode cX10_lowest 6 = .ok (.iconst 0, 1) := by decide +kernel
theorem dX10_lowest_7 : decode cX10_lowest 7 = .ok (.istore 9, 2) := by decide +kernel
theorem dX10_lowest_9 : decode cX10_lowest 9 = .ok (.iload 9, 2) := by decide +kernel
theorem dX10_lowest_11 : decode cX10_lowest 11 = .ok (.bipush 100, 2) := by decide +kernel
theorem dX10_lowest_13 : decode cX10_lowest 13 = .ok (.if_icmp .ge 31, 3) := by decide +kernel
theorem dX10_lowest_16 : decode cX10_lowest 16 = .ok (.lload 5, 2) := by decide +kernel
theorem dX10_lowest_18 : decode cX10_lowest 18 = .ok (.lconst 0, 1) := by decide +kernel
theorem dX10_lowest_19 : decode cX10_lowest 19 = .ok (.lcmp, 1) := by decide +kernel
theorem dX10_lowest_20 : decode cX10_lowest 20 = .ok (.ifCond .le 24, 3) := by decide +kernel
theorem dX10_lowest_23 : decode cX10_lowest 23 = .ok (.lload 7, 2) := by decide +kernel
theorem dX10_lowest_25 : decode cX10_lowest 25 = .ok (.lload 5, 2) := by decide +kernel
theorem dX10_lowest_27 : decode cX10_lowest 27 = .ok (.lrem, 1) := by decide +kernel
theorem dX10_lowest_28 : decode cX10_lowest 28 = .ok (.lstore 10, 2) := by decide +kernel
theorem dX10_lowest_30 : decode cX10_lowest 30 = .ok (.lload 5, 2) := by decide +kernel
theorem dX10_lowest_32 : decode cX10_lowest 32 = .ok (.lstore 7, 2) := by decide +kernel
theorem dX10_lowest_34 : decode cX10_lowest 34 = .ok (.lload 10, 2) := by decide +kernel
theorem dX10_lowest_36 : decode cX10_lowest 36 = .ok (.lstore 5, 2) := by decide +kernel
theorem dX10_lowest_38 : decode cX10_lowest 38 = .ok (.iinc 9 1, 3) := by decide +kernel
theorem dX10_lowest_41 : decode cX10_lowest 41 = .ok (.goto (-32), 3) := by decide +kernel
theorem dX10_lowest_44 : decode cX10_lowest 44 = .ok (.lload 7, 2) := by decide +kernel
theorem dX10_lowest_46 : decode cX10_lowest 46 = .ok (.lconst 0, 1) := by decide +kernel
theorem dX10_lowest_47 : decode cX10_lowest 47 = .ok (.lcmp, 1) := by decide +kernel
theorem dX10_lowest_48 : decode cX10_lowest 48 = .ok (.ifCond .gt 5, 3) := by decide +kernel
theorem dX10_lowest_51 : decode cX10_lowest 51 = .ok (.lconst 0, 1) := by decide +kernel
theorem dX10_lowest_52 : decode cX10_lowest 52 = .ok (.lreturn, 1) := by decide +kernel
theorem dX10_lowest_53 : decode cX10_lowest 53 = .ok (.iload 4, 2) := by decide +kernel
theorem dX10_lowest_55 : decode cX10_lowest 55 = .ok (.ifCond .ne 10, 3) := by decide +kernel
theorem dX10_lowest_58 : decode cX10_lowest 58 = .ok (.lload_n 0, 1) := by decide +kernel
theorem dX10_lowest_59 : decode cX10_lowest 59 = .ok (.lload 7, 2) := by decide +kernel
theorem dX10_lowest_61 : decode cX10_lowest 61 = .ok (.ldiv, 1) := by decide +kernel
theorem dX10_lowest_62 : decode cX10_lowest 62 = .ok (.goto 7, 3) := by decide +kernel
theorem dX10_lowest_65 : decode cX10_lowest 65 = .ok (.lload_n 2, 1) := by decide +kernel
theorem dX10_lowest_66 : decode cX10_lowest 66 = .ok (.lload 7, 2) := by decide +kernel
theorem dX10_lowest_68 : decode cX10_lowest 68 = .ok (.ldiv, 1) := by decide +kernel
theorem dX10_lowest_69 : decode cX10_lowest 69 = .ok (.lreturn, 1) := by decide +kernel
theorem dX10_mostLeft_0 : decode cX10_mostLeft 0 = .ok (.iconst 0, 1) := by decide +kernel
theorem dX10_mostLeft_1 : decode cX10_mostLeft 1 = .ok (.istore_n 2, 1) := by decide +kernel
theorem dX10_mostLeft_2 : decode cX10_mostLeft 2 = .ok (.iconst 0, 1) := by decide +kernel
theorem dX10_mostLeft_3 : decode cX10_mostLeft 3 = .ok (.istore_n 3, 1) := by decide +kernel
theorem dX10_mostLeft_4 : decode cX10_mostLeft 4 = .ok (.iload_n 3, 1) := by decide +kernel
theorem dX10_mostLeft_5 : decode cX10_mostLeft 5 = .ok (.iconst 4, 1) := by decide +kernel
theorem dX10_mostLeft_6 : decode cX10_mostLeft 6 = .ok (.if_icmp .ge 64, 3) := by decide +kernel
theorem dX10_mostLeft_9 : decode cX10_mostLeft 9 = .ok (.iconst 0, 1) := by decide +kernel
theorem dX10_mostLeft_10 : decode cX10_mostLeft 10 = .ok (.istore 4, 2) := by decide +kernel
theorem dX10_mostLeft_12 : decode cX10_mostLeft 12 = .ok (.iconst 0, 1) := by decide +kernel
theorem dX10_mostLeft_13 : decode cX10_mostLeft 13 = .ok (.istore 5, 2) := by decide +kernel
theorem dX10_mostLeft_15 : decode cX10_mostLeft 15 = .ok (.iload 5, 2) := by decide +kernel
theorem dX10_mostLeft_17 : decode cX10_mostLeft 17 = .ok (.iconst 4, 1) := by decide +kernel
theorem dX10_mostLeft_18 : decode cX10_mostLeft 18 = .ok (.if_icmp .ge 39, 3) := by decide +kernel
theorem dX10_mostLeft_21 : decode cX10_mostLeft 21 = .ok (.iload_n 0, 1) := by decide +kernel
theorem dX10_mostLeft_22 : decode cX10_mostLeft 22 = .ok (.iload_n 3, 1) := by decide +kernel
theorem dX10_mostLeft_23 : decode cX10_mostLeft 23 = .ok (.ishr, 1) := by decide +kernel
theorem dX10_mostLeft_24 : decode cX10_mostLeft 24 = .ok (.iload_n 0, 1) := by decide +kernel
theorem dX10_mostLeft_25 : decode cX10_mostLeft 25 = .ok (.iload 5, 2) := by decide +kernel
theorem dX10_mostLeft_27 : decode cX10_mostLeft 27 = .ok (.ishr, 1) := by decide +kernel
theorem dX10_mostLeft_28 : decode cX10_mostLeft 28 = .ok (.iand, 1) := by decide +kernel
theorem dX10_mostLeft_29 : decode cX10_mostLeft 29 = .ok (.iconst 1, 1) := by decide +kernel
theorem dX10_mostLeft_30 : decode cX10_mostLeft 30 = .ok (.iand, 1) := by decide +kernel
theorem dX10_mostLeft_31 : decode cX10_mostLeft 31 = .ok (.ifCond .eq 20, 3) := by decide +kernel
theorem dX10_mostLeft_34 : decode cX10_mostLeft 34 = .ok (.iload_n 3, 1) := by decide +kernel
theorem dX10_mostLeft_35 : decode cX10_mostLeft 35 = .ok (.iload_n 1, 1) := by decide +kernel
theorem dX10_mostLeft_36 : decode cX10_mostLeft 36 = .ok (.invokestatic 162, 3) := by decide +kernel
theorem dX10_mostLeft_39 : decode cX10_mostLeft 39 = .ok (.iload 5, 2) := by decide +kernel
theorem dX10_mostLeft_41 : decode cX10_mostLeft 41 = .ok (.iload_n 1, 1) := by decide +kernel
theorem dX10_mostLeft_42 : decode cX10_mostLeft 42 = .ok (.invokestatic 162, 3) := by decide +kernel
theorem dX10_mostLeft_45 : decode cX10_mostLeft 45 = .ok (.if_icmp .ne 6, 3) := by decide +kernel
theorem dX10_mostLeft_48 : decode cX10_mostLeft 48 = .ok (.iinc 4 1, 3) := by decide +kernel
theorem dX10_mostLeft_51 : decode cX10_mostLeft 51 = .ok (.iinc 5 1, 3) := by decide +kernel
theorem dX10_mostLeft_54 : decode cX10_mostLeft 54 = .ok (.goto (-39), 3) := by decide +kernel
theorem dX10_mostLeft_57 : decode cX10_mostLeft 57 = .ok (.iload_n 2, 1) := by decide +kernel
theorem dX10_mostLeft_58 : decode cX10_mostLeft 58 = .ok (.iload 4, 2) := by decide +kernel
theorem dX10_mostLeft_60 : decode cX10_mostLeft 60 = .ok (.invokestatic 335, 3) := by decide +kernel
theorem dX10_mostLeft_63 : decode cX10_mostLeft 63 = .ok (.istore_n 2, 1) := by decide +kernel
theorem dX10_mostLeft_64 : decode cX10_mostLeft 64 = .ok (.iinc 3 1, 3) := by decide +kernel
theorem dX10_mostLeft_67 : decode cX10_mostLeft 67 = .ok (.goto (-63), 3) := by decide +kernel
theorem dX10_mostLeft_70 : decode cX10_mostLeft 70 = .ok (.iload_n 2, 1) := by decide +kernel
theorem dX10_mostLeft_71 : decode cX10_mostLeft 71 = .ok (.ireturn, 1) := by decide +kernel
theorem dX10_imageAt_0 : decode cX10_imageAt 0 = .ok (.iload_n 1, 1) := by decide +kernel
theorem dX10_imageAt_1 : decode cX10_imageAt 1 = .ok (.ifCond .lt 21, 3) := by decide +kernel
theorem dX10_imageAt_4 : decode cX10_imageAt 4 = .ok (.iload_n 1, 1) := by decide +kernel
theorem dX10_imageAt_5 : decode cX10_imageAt 5 = .ok (.aload_n 0, 1) := by decide +kernel
theorem dX10_imageAt_6 : decode cX10_imageAt 6 = .ok (.getfield 21, 3) := by decide +kernel
theorem dX10_imageAt_9 : decode cX10_imageAt 9 = .ok (.arraylength, 1) := by decide +kernel
theorem dX10_imageAt_10 : decode cX10_imageAt 10 = .ok (.if_icmp .ge 12, 3) := by decide +kernel
theorem dX10_imageAt_13 : decode cX10_imageAt 13 = .ok (.aload_n 0, 1) := by decide +kernel
theorem dX10_imageAt_14 : decode cX10_imageAt 14 = .ok (.getfield 21, 3) := by decide +kernel
theorem dX10_imageAt_17 : decode cX10_imageAt 17 = .ok (.iload_n 1, 1) := by decide +kernel
theorem dX10_imageAt_18 : decode cX10_imageAt 18 = .ok (.aaload, 1) := by decide +kernel
theorem dX10_imageAt_19 : decode cX10_imageAt 19 = .ok (.goto 4, 3) := by decide +kernel
theorem dX10_imageAt_22 : decode cX10_imageAt 22 = .ok (.aconst_null, 1) := by decide +kernel
theorem dX10_imageAt_23 : decode cX10_imageAt 23 = .ok (.areturn, 1) := by decide +kernel
theorem dX10_sheetAt_0 : decode cX10_sheetAt 0 = .ok (.iload_n 1, 1) := by decide +kernel
theorem dX10_sheetAt_1 : decode cX10_sheetAt 1 = .ok (.ifCond .lt 21, 3) := by decide +kernel
theorem dX10_sheetAt_4 : decode cX10_sheetAt 4 = .ok (.iload_n 1, 1) := by decide +kernel
theorem dX10_sheetAt_5 : decode cX10_sheetAt 5 = .ok (.aload_n 0, 1) := by decide +kernel
theorem dX10_sheetAt_6 : decode cX10_sheetAt 6 = .ok (.getfield 56, 3) := by decide +kernel
theorem dX10_sheetAt_9 : decode cX10_sheetAt 9 = .ok (.arraylength, 1) := by decide +kernel
theorem dX10_sheetAt_10 : decode cX10_sheetAt 10 = .ok (.if_icmp .ge 12, 3) := by decide +kernel
theorem dX10_sheetAt_13 : decode cX10_sheetAt 13 = .ok (.aload_n 0, 1) := by decide +kernel
theorem dX10_sheetAt_14 : decode cX10_sheetAt 14 = .ok (.getfield 56, 3) := by decide +kernel
theorem dX10_sheetAt_17 : decode cX10_sheetAt 17 = .ok (.iload_n 1, 1) := by decide +kernel
theorem dX10_sheetAt_18 : decode cX10_sheetAt 18 = .ok (.aaload, 1) := by decide +kernel
theorem dX10_sheetAt_19 : decode cX10_sheetAt 19 = .ok (.goto 4, 3) := by decide +kernel
theorem dX10_sheetAt_22 : decode cX10_sheetAt 22 = .ok (.aconst_null, 1) := by decide +kernel
theorem dX10_sheetAt_23 : decode cX10_sheetAt 23 = .ok (.areturn, 1) := by decide +kernel
theorem dX10_dropImages_0 : decode cX10_dropImages 0 = .ok (.iconst 0, 1) := by decide +kernel
theorem dX10_dropImages_1 : decode cX10_dropImages 1 = .ok (.istore_n 1, 1) := by decide +kernel
theorem dX10_dropImages_2 : decode cX10_dropImages 2 = .ok (.iload_n 1, 1) := by decide +kernel
theorem dX10_dropImages_3 : decode cX10_dropImages 3 = .ok (.iconst 2, 1) := by decide +kernel
theorem dX10_dropImages_4 : decode cX10_dropImages 4 = .ok (.if_icmp .ge 24, 3) := by decide +kernel
theorem dX10_dropImages_7 : decode cX10_dropImages 7 = .ok (.aload_n 0, 1) := by decide +kernel
theorem dX10_dropImages_8 : decode cX10_dropImages 8 = .ok (.iload_n 1, 1) := by decide +kernel
theorem dX10_dropImages_9 : decode cX10_dropImages 9 = .ok (.invokevirtual 291, 3) := by decide +kernel
theorem dX10_dropImages_12 : decode cX10_dropImages 12 = .ok (.astore_n 2, 1) := by decide +kernel
theorem dX10_dropImages_13 : decode cX10_dropImages 13 = .ok (.aload_n 2, 1) := by decide +kernel
theorem dX10_dropImages_14 : decode cX10_dropImages 14 = .ok (.ifnull 8, 3) := by decide +kernel
theorem dX10_dropImages_17 : decode cX10_dropImages 17 = .ok (.aload_n 2, 1) := by decide +kernel
theorem dX10_dropImages_18 : decode cX10_dropImages 18 = .ok (.iconst 0, 1) := by decide +kernel
theorem dX10_dropImages_19 : decode cX10_dropImages 19 = .ok (.putfield 295, 3) := by decide +kernel
theorem dX10_dropImages_22 : decode cX10_dropImages 22 = .ok (.iinc 1 1, 3) := by decide +kernel
theorem dX10_dropImages_25 : decode cX10_dropImages 25 = .ok (.goto (-23), 3) := by decide +kernel
theorem dX10_dropImages_28 : decode cX10_dropImages 28 = .ok (.return_, 1) := by decide +kernel
theorem dX10_imagesThere_0 : decode cX10_imagesThere 0 = .ok (.iconst 0, 1) := by decide +kernel
theorem dX10_imagesThere_1 : decode cX10_imagesThere 1 = .ok (.istore_n 1, 1) := by decide +kernel
theorem dX10_imagesThere_2 : decode cX10_imagesThere 2 = .ok (.iconst 0, 1) := by decide +kernel
theorem dX10_imagesThere_3 : decode cX10_imagesThere 3 = .ok (.istore_n 2, 1) := by decide +kernel
theorem dX10_imagesThere_4 : decode cX10_imagesThere 4 = .ok (.iload_n 2, 1) := by decide +kernel
theorem dX10_imagesThere_5 : decode cX10_imagesThere 5 = .ok (.iconst 2, 1) := by decide +kernel
theorem dX10_imagesThere_6 : decode cX10_imagesThere 6 = .ok (.if_icmp .ge 29, 3) := by decide +kernel
theorem dX10_imagesThere_9 : decode cX10_imagesThere 9 = .ok (.aload_n 0, 1) := by decide +kernel
theorem dX10_imagesThere_10 : decode cX10_imagesThere 10 = .ok (.iload_n 2, 1) := by decide +kernel
theorem dX10_imagesThere_11 : decode cX10_imagesThere 11 = .ok (.invokevirtual 291, 3) := by decide +kernel
theorem dX10_imagesThere_14 : decode cX10_imagesThere 14 = .ok (.astore_n 3, 1) := by decide +kernel
theorem dX10_imagesThere_15 : decode cX10_imagesThere 15 = .ok (.aload_n 3, 1) := by decide +kernel
theorem dX10_imagesThere_16 : decode cX10_imagesThere 16 = .ok (.ifnull 13, 3) := by decide +kernel
theorem dX10_imagesThere_19 : decode cX10_imagesThere 19 = .ok (.aload_n 3, 1) := by decide +kernel
theorem dX10_imagesThere_20 : decode cX10_imagesThere 20 = .ok (.getfield 295, 3) := by decide +kernel
theorem dX10_imagesThere_23 : decode cX10_imagesThere 23 = .ok (.ifCond .eq 6, 3) := by decide +kernel
theorem dX10_imagesThere_26 : decode cX10_imagesThere 26 = .ok (.iinc 1 1, 3) := by decide +kernel
theorem dX10_imagesThere_29 : decode cX10_imagesThere 29 = .ok (.iinc 2 1, 3) := by decide +kernel
theorem dX10_imagesThere_32 : decode cX10_imagesThere 32 = .ok (.goto (-28), 3) := by decide +kernel
theorem dX10_imagesThere_35 : decode cX10_imagesThere 35 = .ok (.iload_n 1, 1) := by decide +kernel
theorem dX10_imagesThere_36 : decode cX10_imagesThere 36 = .ok (.ireturn, 1) := by decide +kernel
theorem dX10_cellsOfFirst_0 : decode cX10_cellsOfFirst 0 = .ok (.aload_n 0, 1) := by decide +kernel
theorem dX10_cellsOfFirst_1 : decode cX10_cellsOfFirst 1 = .ok (.iconst 0, 1) := by decide +kernel
theorem dX10_cellsOfFirst_2 : decode cX10_cellsOfFirst 2 = .ok (.invokevirtual 302, 3) := by decide +kernel
theorem dX10_cellsOfFirst_5 : decode cX10_cellsOfFirst 5 = .ok (.astore_n 1, 1) := by decide +kernel
theorem dX10_cellsOfFirst_6 : decode cX10_cellsOfFirst 6 = .ok (.aload_n 1, 1) := by decide +kernel
theorem dX10_cellsOfFirst_7 : decode cX10_cellsOfFirst 7 = .ok (.ifnull 10, 3) := by decide +kernel
theorem dX10_cellsOfFirst_10 : decode cX10_cellsOfFirst 10 = .ok (.aload_n 1, 1) := by decide +kernel
theorem dX10_cellsOfFirst_11 : decode cX10_cellsOfFirst 11 = .ok (.getfield 347, 3) := by decide +kernel
theorem dX10_cellsOfFirst_14 : decode cX10_cellsOfFirst 14 = .ok (.ifCond .ne 8, 3) := by decide +kernel
theorem dX10_cellsOfFirst_17 : decode cX10_cellsOfFirst 17 = .ok (.bipush (-4), 2) := by decide +kernel
theorem dX10_cellsOfFirst_19 : decode cX10_cellsOfFirst 19 = .ok (.goto 7, 3) := by decide +kernel
theorem dX10_cellsOfFirst_22 : decode cX10_cellsOfFirst 22 = .ok (.aload_n 1, 1) := by decide +kernel
theorem dX10_cellsOfFirst_23 : decode cX10_cellsOfFirst 23 = .ok (.getfield 320, 3) := by decide +kernel
theorem dX10_cellsOfFirst_26 : decode cX10_cellsOfFirst 26 = .ok (.ireturn, 1) := by decide +kernel
theorem dX11_init_0 : decode cX11_init 0 = .ok (.aload_n 0, 1) := by decide +kernel
theorem dX11_init_1 : decode cX11_init 1 = .ok (.invokespecial 1, 3) := by decide +kernel
theorem dX11_init_4 : decode cX11_init 4 = .ok (.aload_n 0, 1) := by decide +kernel
theorem dX11_init_5 : decode cX11_init 5 = .ok (.sipush 228, 3) := by decide +kernel
theorem dX11_init_8 : decode cX11_init 8 = .ok (.newarray .int, 2) := by decide +kernel
theorem dX11_init_10 : decode cX11_init 10 = .ok (.putfield 7, 3) := by decide +kernel
theorem dX11_init_13 : decode cX11_init 13 = .ok (.aload_n 0, 1) := by decide +kernel
theorem dX11_init_14 : decode cX11_init 14 = .ok (.bipush 76, 2) := by decide +kernel
theorem dX11_init_16 : decode cX11_init 16 = .ok (.newarray .int, 2) := by decide +kernel
theorem dX11_init_18 : decode cX11_init 18 = .ok (.putfield 13, 3) := by decide +kernel
theorem dX11_init_21 : decode cX11_init 21 = .ok (.aload_n 0, 1) := by decide +kernel
theorem dX11_init_22 : decode cX11_init 22 = .ok (.iconst 2, 1) := by decide +kernel
theorem dX11_init_23 : decode cX11_init 23 = .ok (.newarray .boolean, 2) := by decide +kernel
theorem dX11_init_25 : decode cX11_init 25 = .ok (.putfield 16, 3) := by decide +kernel
theorem dX11_init_28 : decode cX11_init 28 = .ok (.aload_n 0, 1) := by decide +kernel
theorem dX11_init_29 : decode cX11_init 29 = .ok (.bipush 76, 2) := by decide +kernel
theorem dX11_init_31 : decode cX11_init 31 = .ok (.newarray .int, 2) := by decide +kernel
theorem dX11_init_33 : decode cX11_init 33 = .ok (.putfield 20, 3) := by decide +kernel
theorem dX11_init_36 : decode cX11_init 36 = .ok (.aload_n 0, 1) := by decide +kernel
theorem dX11_init_37 : decode cX11_init 37 = .ok (.sipush 160, 3) := by decide +kernel
theorem dX11_init_40 : decode cX11_init 40 = .ok (.newarray .int, 2) := by decide +kernel
theorem dX11_init_42 : decode cX11_init 42 = .ok (.putfield 23, 3) := by decide +kernel
theorem dX11_init_45 : decode cX11_init 45 = .ok (.aload_n 0, 1) := by decide +kernel
theorem dX11_init_46 : decode cX11_init 46 = .ok (.iconst 4, 1) := by decide +kernel
theorem dX11_init_47 : decode cX11_init 47 = .ok (.newarray .int, 2) := by decide +kernel
theorem dX11_init_49 : decode cX11_init 49 = .ok (.putfield 26, 3) := by decide +kernel
theorem dX11_init_52 : decode cX11_init 52 = .ok (.aload_n 0, 1) := by decide +kernel
theorem dX11_init_53 : decode cX11_init 53 = .ok (.iconst 4, 1) := by decide +kernel
theorem dX11_init_54 : decode cX11_init 54 = .ok (.newarray .int, 2) := by decide +kernel
theorem dX11_init_56 : decode cX11_init 56 = .ok (.putfield 29, 3) := by decide +kernel
theorem dX11_init_59 : decode cX11_init 59 = .ok (.aload_n 0, 1) := by decide +kernel
theorem dX11_init_60 : decode cX11_init 60 = .ok (.iconst 4, 1) := by decide +kernel
theorem dX11_init_61 : decode cX11_init 61 = .ok (.newarray .int, 2) := by decide +kernel
theorem dX11_init_63 : decode cX11_init 63 = .ok (.putfield 32, 3) := by decide +kernel
theorem dX11_init_66 : decode cX11_init 66 = .ok (.aload_n 0, 1) := by decide +kernel
theorem dX11_init_67 : decode cX11_init 67 = .ok (.sipush 160, 3) := by decide +kernel
theorem dX11_init_70 : decode cX11_init 70 = .ok (.newarray .int, 2) := by decide +kernel
theorem dX11_init_72 : decode cX11_init 72 = .ok (.putfield 35, 3) := by decide +kernel
theorem dX11_init_75 : decode cX11_init 75 = .ok (.aload_n 0, 1) := by decide +kernel
theorem dX11_init_76 : decode cX11_init 76 = .ok (.bipush 76, 2) := by decide +kernel
theorem dX11_init_78 : decode cX11_init 78 = .ok (.newarray .int, 2) := by decide +kernel
theorem dX11_init_80 : decode cX11_init 80 = .ok (.putfield 38, 3) := by decide +kernel
theorem dX11_init_83 : decode cX11_init 83 = .ok (.iconst 0, 1) := by decide +kernel
theorem dX11_init_84 : decode cX11_init 84 = .ok (.istore_n 1, 1) := by decide +kernel
theorem dX11_init_85 : decode cX11_init 85 = .ok (.iload_n 1, 1) := by decide +kernel
theorem dX11_init_86 : decode cX11_init 86 = .ok (.iconst 4, 1) := by decide +kernel
theorem dX11_init_87 : decode cX11_init 87 = .ok (.if_icmp .ge 17, 3) := by decide +kernel
theorem dX11_init_90 : decode cX11_init 90 = .ok (.aload_n 0, 1) := by decide +kernel
theorem dX11_init_91 : decode cX11_init 91 = .ok (.getfield 29, 3) := by decide +kernel
theorem dX11_init_94 : decode cX11_init 94 = .ok (.iload_n 1, 1) := by decide +kernel
theorem dX11_init_95 : decode cX11_init 95 = .ok (.bipush (-4), 2) := by decide +kernel
theorem dX11_init_97 : decode cX11_init 97 = .ok (.iastore, 1) := by decide +kernel
theorem dX11_init_98 : decode cX11_init 98 = .ok (.iinc 1 1, 3) := by decide +kernel
theorem dX11_init_101 : decode cX11_init 101 = .ok (.goto (-16), 3) := by decide +kernel
theorem dX11_init_104 : decode cX11_init 104 = .ok (.aload_n 0, 1) := by decide +kernel
theorem dX11_init_105 : decode cX11_init 105 = .ok (.invokevirtual 41, 3) := by decide +kernel
theorem dX11_init_108 : decode cX11_init 108 = .ok (.aload_n 0, 1) := by decide +kernel
theorem dX11_init_109 : decode cX11_init 109 = .ok (.invokevirtual 44, 3) := by decide +kernel
theorem dX11_init_112 : decode cX11_init 112 = .ok (.return_, 1) := by decide +kernel
theorem dX11_in_0 : decode cX11_in 0 = .ok (.lload_n 0, 1) := by decide +kernel
theorem dX11_in_1 : decode cX11_in 1 = .ok (.lload_n 2, 1) := by decide +kernel
theorem dX11_in_2 : decode cX11_in 2 = .ok (.lcmp, 1) := by decide +kernel
theorem dX11_in_3 : decode cX11_in 3 = .ok (.ifCond .lt 14, 3) := by decide +kernel
theorem dX11_in_6 : decode cX11_in 6 = .ok (.lload_n 0, 1) := by decide +kernel
theorem dX11_in_7 : decode cX11_in 7 = .ok (.lload 4, 2) := by decide +kernel
theorem dX11_in_9 : decode cX11_in 9 = .ok (.lcmp, 1) := by decide +kernel
theorem dX11_in_10 : decode cX11_in 10 = .ok (.ifCond .gt 7, 3) := by decide +kernel
theorem dX11_in_13 : decode cX11_in 13 = .ok (.iconst 1, 1) := by decide +kernel
theorem dX11_in_14 : decode cX11_in 14 = .ok (.goto 4, 3) := by decide +kernel
theorem dX11_in_17 : decode cX11_in 17 = .ok (.iconst 0, 1) := by decide +kernel
theorem dX11_in_18 : decode cX11_in 18 = .ok (.ireturn, 1) := by decide +kernel
theorem dX11_flag_0 : decode cX11_flag 0 = .ok (.iload_n 0, 1) := by decide +kernel
theorem dX11_flag_1 : decode cX11_flag 1 = .ok (.ifCond .eq 7, 3) := by decide +kernel
theorem dX11_flag_4 : decode cX11_flag 4 = .ok (.iconst 1, 1) := by decide +kernel
theorem dX11_flag_5 : decode cX11_flag 5 = .ok (.goto 4, 3) := by decide +kernel
theorem dX11_flag_8 : decode cX11_flag 8 = .ok (.iconst 0, 1) := by decide +kernel
theorem dX11_flag_9 : decode cX11_flag 9 = .ok (.ireturn, 1) := by decide +kernel
theorem dX11_firstDraft_0 : decode cX11_firstDraft 0 = .ok (.iconst 0, 1) := by decide +kernel
theorem dX11_firstDraft_1 : decode cX11_firstDraft 1 = .ok (.istore_n 1, 1) := by decide +kernel
theorem dX11_firstDraft_2 : decode cX11_firstDraft 2 = .ok (.iload_n 1, 1) := by decide +kernel
theorem dX11_firstDraft_3 : decode cX11_firstDraft 3 = .ok (.bipush 76, 2) := by decide +kernel
theorem dX11_firstDraft_5 : decode cX11_firstDraft 5 = .ok (.if_icmp .ge 16, 3) := by decide +kernel
theorem dX11_firstDraft_8 : decode cX11_firstDraft 8 = .ok (.aload_n 0, 1) := by decide +kernel
theorem dX11_firstDraft_9 : decode cX11_firstDraft 9 = .ok (.getfield 20, 3) := by decide +kernel
theorem dX11_firstDraft_12 : decode cX11_firstDraft 12 = .ok (.iload_n 1, 1) := by decide +kernel
theorem dX11_firstDraft_13 : decode cX11_firstDraft 13 = .ok (.iconst 0, 1) := by decide +kernel
theorem dX11_firstDraft_14 : decode cX11_firstDraft 14 = .ok (.iastore, 1) := by decide +kernel
theorem dX11_firstDraft_15 : decode cX11_firstDraft 15 = .ok (.iinc 1 1, 3) := by decide +kernel
theorem dX11_firstDraft_18 : decode cX11_firstDraft 18 = .ok (.goto (-16), 3) := by decide +kernel
theorem dX11_firstDraft_21 : decode cX11_firstDraft 21 = .ok (.iconst 0, 1) := by decide +kernel
theorem dX11_firstDraft_22 : decode cX11_firstDraft 22 = .ok (.istore_n 1, 1) := by decide +kernel
theorem dX11_firstDraft_23 : decode cX11_firstDraft 23 = .ok (.iload_n 1, 1) := by decide +kernel
theorem dX11_firstDraft_24 : decode cX11_firstDraft 24 = .ok (.iconst 5, 1) := by decide +kernel
theorem dX11_firstDraft_25 : decode cX11_firstDraft 25 = .ok (.if_icmp .ge 25, 3) := by decide +kernel
theorem dX11_firstDraft_28 : decode cX11_firstDraft 28 = .ok (.aload_n 0, 1) := by decide +kernel
theorem dX11_firstDraft_29 : decode cX11_firstDraft 29 = .ok (.getfield 20, 3) := by decide +kernel
theorem dX11_firstDraft_32 : decode cX11_firstDraft 32 = .ok (.bipush 20, 2) := by decide +kernel
theorem dX11_firstDraft_34 : decode cX11_firstDraft 34 = .ok (.bipush 7, 2) := by decide +kernel
theorem dX11_firstDraft_36 : decode cX11_firstDraft 36 = .ok (.iload_n 1, 1) := by decide +kernel
theorem dX11_firstDraft_37 : decode cX11_firstDraft 37 = .ok (.imul, 1) := by decide +kernel
theorem dX11_firstDraft_38 : decode cX11_firstDraft 38 = .ok (.iadd, 1) := by decide +kernel
theorem dX11_firstDraft_39 : decode cX11_firstDraft 39 = .ok (.iconst 5, 1) := by decide +kernel
theorem dX11_firstDraft_40 : decode cX11_firstDraft 40 = .ok (.iadd, 1) := by decide +kernel
theorem dX11_firstDraft_41 : decode cX11_firstDraft 41 = .ok (.bipush (-4), 2) := by decide +kernel
theorem dX11_firstDraft_43 : decode cX11_firstDraft 43 = .ok (.iastore, 1) := by decide +kernel
theorem dX11_firstDraft_44 : decode cX11_firstDraft 44 = .ok (.iinc 1 1, 3) := by decide +kernel
theorem dX11_firstDraft_47 : decode cX11_firstDraft 47 = .ok (.goto (-24), 3) := by decide +kernel
theorem dX11_firstDraft_50 : decode cX11_firstDraft 50 = .ok (.aload_n 0, 1) := by decide +kernel
theorem dX11_firstDraft_51 : decode cX11_firstDraft 51 = .ok (.getfield 20, 3) := by decide +kernel
theorem dX11_firstDraft_54 : decode cX11_firstDraft 54 = .ok (.bipush 56, 2) := by decide +kernel
theorem dX11_firstDraft_56 : decode cX11_firstDraft 56 = .ok (.bipush 20, 2) := by decide +kernel
theorem dX11_firstDraft_58 : decode cX11_firstDraft 58 = .ok (.iastore, 1) := by decide +kernel
theorem dX11_firstDraft_59 : decode cX11_firstDraft 59 = .ok (.aload_n 0, 1) := by decide +kernel
theorem dX11_firstDraft_60 : decode cX11_firstDraft 60 = .ok (.iconst 0, 1) := by decide +kernel
theorem dX11_firstDraft_61 : decode cX11_firstDraft 61 = .ok (.putfield 47, 3) := by decide +kernel
theorem dX11_firstDraft_64 : decode cX11_firstDraft 64 = .ok (.aload_n 0, 1) := by decide +kernel
theorem dX11_firstDraft_65 : decode cX11_firstDraft 65 = .ok (.iconst 0, 1) := by decide +kernel
theorem dX11_firstDraft_66 : decode cX11_firstDraft 66 = .ok (.putfield 51, 3) := by decide +kernel
theorem dX11_firstDraft_69 : decode cX11_firstDraft 69 = .ok (.aload_n 0, 1) := by decide +kernel
theorem dX11_firstDraft_70 : decode cX11_firstDraft 70 = .ok (.iconst 0, 1) := by decide +kernel
theorem dX11_firstDraft_71 : decode cX11_firstDraft 71 = .ok (.putfield 54, 3) := by decide +kernel
theorem dX11_firstDraft_74 : decode cX11_firstDraft 74 = .ok (.return_, 1) := by decide +kernel
theorem dX11_keepDraft_0 : decode cX11_keepDraft 0 = .ok (.iconst 0, 1) := by decide +kernel
theorem dX11_keepDraft_1 : decode cX11_keepDraft 1 = .ok (.istore_n 1, 1) := by decide +kernel
theorem dX11_keepDraft_2 : decode cX11_keepDraft 2 = .ok (.iload_n 1, 1) := by decide +kernel
theorem dX11_keepDraft_3 : decode cX11_keepDraft 3 = .ok (.bipush 76, 2) := by decide +kernel
theorem dX11_keepDraft_5 : decode cX11_keepDraft 5 = .ok (.if_icmp .ge 21, 3) := by decide +kernel
theorem dX11_keepDraft_8 : decode cX11_keepDraft 8 = .ok (.aload_n 0, 1) := by decide +kernel
theorem dX11_keepDraft_9 : decode cX11_keepDraft 9 = .ok (.getfield 7, 3) := by decide +kernel
theorem dX11_keepDraft_12 : decode cX11_keepDraft 12 = .ok (.iload_n 1, 1) := by decide +kernel
theorem dX11_keepDraft_13 : decode cX11_keepDraft 13 = .ok (.aload_n 0, 1) := by decide +kernel
theorem dX11_keepDraft_14 : decode cX11_keepDraft 14 = .ok (.getfield 20, 3) := by decide +kernel
theorem dX11_keepDraft_17 : decode cX11_keepDraft 17 = .ok (.iload_n 1, 1) := by decide +kernel
theorem dX11_keepDraft_18 : decode cX11_keepDraft 18 = .ok (.iaload, 1) := by decide +kernel
theorem dX11_keepDraft_19 : decode cX11_keepDraft 19 = .ok (.iastore, 1) := by decide +kernel
theorem dX11_keepDraft_20 : decode cX11_keepDraft 20 = .ok (.iinc 1 1, 3) := by decide +kernel
theorem dX11_keepDraft_23 : decode cX11_keepDraft 23 = .ok (.goto (-21), 3) := by decide +kernel
theorem dX11_keepDraft_26 : decode cX11_keepDraft 26 = .ok (.aload_n 0, 1) := by decide +kernel
theorem dX11_keepDraft_27 : decode cX11_keepDraft 27 = .ok (.aload_n 0, 1) := by decide +kernel
theorem dX11_keepDraft_28 : decode cX11_keepDraft 28 = .ok (.getfield 47, 3) := by decide +kernel
theorem dX11_keepDraft_31 : decode cX11_keepDraft 31 = .ok (.putfield 58, 3) := by decide +kernel
theorem dX11_keepDraft_34 : decode cX11_keepDraft 34 = .ok (.aload_n 0, 1) := by decide +kernel
theorem dX11_keepDraft_35 : decode cX11_keepDraft 35 = .ok (.aload_n 0, 1) := by decide +kernel
theorem dX11_keepDraft_36 : decode cX11_keepDraft 36 = .ok (.getfield 51, 3) := by decide +kernel
theorem dX11_keepDraft_39 : decode cX11_keepDraft 39 = .ok (.putfield 61, 3) := by decide +kernel
theorem dX11_keepDraft_42 : decode cX11_keepDraft 42 = .ok (.aload_n 0, 1) := by decide +kernel
theorem dX11_keepDraft_43 : decode cX11_keepDraft 43 = .ok (.getfield 16, 3) := by decide +kernel
theorem dX11_keepDraft_46 : decode cX11_keepDraft 46 = .ok (.iconst 0, 1) := by decide +kernel
theorem dX11_keepDraft_47 : decode cX11_keepDraft 47 = .ok (.iconst 0, 1) := by decide +kernel
theorem dX11_keepDraft_48 : decode cX11_keepDraft 48 = .ok (.bastore, 1) := by decide +kernel
theorem dX11_keepDraft_49 : decode cX11_keepDraft 49 = .ok (.aload_n 0, 1) := by decide +kernel
theorem dX11_keepDraft_50 : decode cX11_keepDraft 50 = .ok (.getfield 16, 3) := by decide +kernel
theorem dX11_keepDraft_53 : decode cX11_keepDraft 53 = .ok (.iconst 1, 1) := by decide +kernel
theorem dX11_keepDraft_54 : decode cX11_keepDraft 54 = .ok (.iconst 0, 1) := by decide +kernel
theorem dX11_keepDraft_55 : decode cX11_keepDraft 55 = .ok (.bastore, 1) := by decide +kernel
theorem dX11_keepDraft_56 : decode cX11_keepDraft 56 = .ok (.return_, 1) := by decide +kernel
theorem dX11_feed_0 : decode cX11_feed 0 = .ok (.iload_n 1, 1) := by decide +kernel
theorem dX11_feed_1 : decode cX11_feed 1 = .ok (.i2l, 1) := by decide +kernel
theorem dX11_feed_2 : decode cX11_feed 2 = .ok (.lconst 0, 1) := by decide +kernel
theorem dX11_feed_3 : decode cX11_feed 3 = .ok (.ldc2_w 64, 3) := by decide +kernel
theorem dX11_feed_6 : decode cX11_feed 6 = .ok (.invokestatic 66, 3) := by decide +kernel
theorem dX11_feed_9 : decode cX11_feed 9 = .ok (.ifCond .ne 5, 3) := by decide +kernel
theorem dX11_feed_12 : decode cX11_feed 12 = .ok (.iconst (-1), 1) := by decide +kernel
theorem dX11_feed_13 : decode cX11_feed 13 = .ok (.ireturn, 1) := by decide +kernel
theorem dX11_feed_14 : decode cX11_feed 14 = .ok (.aload_n 0, 1) := by decide +kernel
theorem dX11_feed_15 : decode cX11_feed 15 = .ok (.getfield 70, 3) := by decide +kernel
theorem dX11_feed_18 : decode cX11_feed 18 = .ok (.sipush 160, 3) := by decide +kernel
theorem dX11_feed_21 : decode cX11_feed 21 = .ok (.if_icmp .ne 6, 3) := by decide +kernel
theorem dX11_feed_24 : decode cX11_feed 24 = .ok (.bipush (-3), 2) := by decide +kernel
theorem dX11_feed_26 : decode cX11_feed 26 = .ok (.ireturn, 1) := by decide +kernel
theorem dX11_feed_27 : decode cX11_feed 27 = .ok (.aload_n 0, 1) := by decide +kernel
theorem dX11_feed_28 : decode cX11_feed 28 = .ok (.getfield 23, 3) := by decide +kernel
theorem dX11_feed_31 : decode cX11_feed 31 = .ok (.aload_n 0, 1) := by decide +kernel
theorem dX11_feed_32 : decode cX11_feed 32 = .ok (.getfield 70, 3) := by decide +kernel
theorem dX11_feed_35 : decode cX11_feed 35 = .ok (.iload_n 1, 1) := by decide +kernel
theorem dX11_feed_36 : decode cX11_feed 36 = .ok (.iastore, 1) := by decide +kernel
theorem dX11_feed_37 : decode cX11_feed 37 = .ok (.aload_n 0, 1) := by decide +kernel
theorem dX11_feed_38 : decode cX11_feed 38 = .ok (.dup, 1) := by decide +kernel
theorem dX11_feed_39 : decode cX11_feed 39 = .ok (.getfield 70, 3) := by decide +kernel
theorem dX11_feed_42 : decode cX11_feed 42 = .ok (.iconst 1, 1) := by decide +kernel
theorem dX11_feed_43 : decode cX11_feed 43 = .ok (.iadd, 1) := by decide +kernel
theorem dX11_feed_44 : decode cX11_feed 44 = .ok (.putfield 70, 3) := by decide +kernel
theorem dX11_feed_47 : decode cX11_feed 47 = .ok (.aload_n 0, 1) := by decide +kernel
theorem dX11_feed_48 : decode cX11_feed 48 = .ok (.getfield 70, 3) := by decide +kernel
theorem dX11_feed_51 : decode cX11_feed 51 = .ok (.ireturn, 1) := by decide +kernel
theorem dX11_end_0 : decode cX11_end 0 = .ok (.iload_n 1, 1) := by decide +kernel
theorem dX11_end_1 : decode cX11_end 1 = .ok (.i2l, 1) := by decide +kernel
theorem dX11_end_2 : decode cX11_end 2 = .ok (.lconst 0, 1) := by decide +kernel
theorem dX11_end_3 : decode cX11_end 3 = .ok (.aload_n 0, 1) := by decide +kernel
theorem dX11_end_4 : decode cX11_end 4 = .ok (.getfield 70, 3) := by decide +kernel
theorem dX11_end_7 : decode cX11_end 7 = .ok (.i2l, 1) := by decide +kernel
theorem dX11_end_8 : decode cX11_end 8 = .ok (.invokestatic 66, 3) := by decide +kernel
theorem dX11_end_11 : decode cX11_end 11 = .ok (.ifCond .ne 5, 3) := by decide +kernel
theorem dX11_end_14 : decode cX11_end 14 = .ok (.iconst (-1), 1) := by decide +kernel
theorem dX11_end_15 : decode cX11_end 15 = .ok (.ireturn, 1) := by decide +kernel
theorem dX11_end_16 : decode cX11_end 16 = .ok (.aload_n 0, 1) := by decide +kernel
theorem dX11_end_17 : decode cX11_end 17 = .ok (.getfield 70, 3) := by decide +kernel
theorem dX11_end_20 : decode cX11_end 20 = .ok (.istore_n 2, 1) := by decide +kernel
theorem dX11_end_21 : decode cX11_end 21 = .ok (.aload_n 0, 1) := by decide +kernel
theorem dX11_end_22 : decode cX11_end 22 = .ok (.iload_n 1, 1) := by decide +kernel
theorem dX11_end_23 : decode cX11_end 23 = .ok (.putfield 70, 3) := by decide +kernel
theorem dX11_end_26 : decode cX11_end 26 = .ok (.iload_n 2, 1) := by decide +kernel
theorem dX11_end_27 : decode cX11_end 27 = .ok (.ireturn, 1) := by decide +kernel
theorem dX11_needs_0 : decode cX11_needs 0 = .ok (.iload_n 1, 1) := by decide +kernel
theorem dX11_needs_1 : decode cX11_needs 1 = .ok (.ifCond .ne 23, 3) := by decide +kernel
theorem dX11_needs_4 : decode cX11_needs 4 = .ok (.aload_n 0, 1) := by decide +kernel
theorem dX11_needs_5 : decode cX11_needs 5 = .ok (.getfield 73, 3) := by decide +kernel
theorem dX11_needs_8 : decode cX11_needs 8 = .ok (.ifCond .ne 16, 3) := by decide +kernel
theorem dX11_needs_11 : decode cX11_needs 11 = .ok (.aload_n 0, 1) := by decide +kernel
theorem dX11_needs_12 : decode cX11_needs 12 = .ok (.iload_n 2, 1) := by decide +kernel
theorem dX11_needs_13 : decode cX11_needs 13 = .ok (.putfield 73, 3) := by decide +kernel
theorem dX11_needs_16 : decode cX11_needs 16 = .ok (.aload_n 0, 1) := by decide +kernel
theorem dX11_needs_17 : decode cX11_needs 17 = .ok (.aload_n 0, 1) := by decide +kernel
theorem dX11_needs_18 : decode cX11_needs 18 = .ok (.getfield 76, 3) := by decide +kernel
theorem dX11_needs_21 : decode cX11_needs 21 = .ok (.putfield 79, 3) := by decide +kernel
theorem dX11_needs_24 : decode cX11_needs 24 = .ok (.return_, 1) := by decide +kernel
theorem dX11_byteAt_0 : decode cX11_byteAt 0 = .ok (.iload_n 1, 1) := by decide +kernel
theorem dX11_byteAt_1 : decode cX11_byteAt 1 = .ok (.aload_n 0, 1) := by decide +kernel
theorem dX11_byteAt_2 : decode cX11_byteAt 2 = .ok (.getfield 70, 3) := by decide +kernel
theorem dX11_byteAt_5 : decode cX11_byteAt 5 = .ok (.if_icmp .ge 12, 3) := by decide +kernel
theorem dX11_byteAt_8 : decode cX11_byteAt 8 = .ok (.aload_n 0, 1) := by decide +kernel
theorem dX11_byteAt_9 : decode cX11_byteAt 9 = .ok (.getfield 23, 3) := by decide +kernel
theorem dX11_byteAt_12 : decode cX11_byteAt 12 = .ok (.iload_n 1, 1) := by decide +kernel
theorem dX11_byteAt_13 : decode cX11_byteAt 13 = .ok (.iaload, 1) := by decide +kernel
theorem dX11_byteAt_14 : decode cX11_byteAt 14 = .ok (.goto 4, 3) := by decide +kernel
theorem dX11_byteAt_17 : decode cX11_byteAt 17 = .ok (.iconst (-1), 1) := by decide +kernel
theorem dX11_byteAt_18 : decode cX11_byteAt 18 = .ok (.ireturn, 1) := by decide +kernel
theorem dX11_is_0 : decode cX11_is 0 = .ok (.aload_n 0, 1) := by decide +kernel
theorem dX11_is_1 : decode cX11_is 1 = .ok (.getfield 82, 3) := by decide +kernel
theorem dX11_is_4 : decode cX11_is 4 = .ok (.aload_n 0, 1) := by decide +kernel
theorem dX11_is_5 : decode cX11_is 5 = .ok (.getfield 76, 3) := by decide +kernel
theorem dX11_is_8 : decode cX11_is 8 = .ok (.isub, 1) := by decide +kernel
theorem dX11_is_9 : decode cX11_is 9 = .ok (.iload_n 1, 1) := by decide +kernel
theorem dX11_is_10 : decode cX11_is 10 = .ok (.if_icmp .ne 48, 3) := by decide +kernel
theorem dX11_is_13 : decode cX11_is 13 = .ok (.aload_n 0, 1) := by decide +kernel
theorem dX11_is_14 : decode cX11_is 14 = .ok (.aload_n 0, 1) := by decide +kernel
theorem dX11_is_15 : decode cX11_is 15 = .ok (.getfield 76, 3) := by decide +kernel
theorem dX11_is_18 : decode cX11_is 18 = .ok (.invokevirtual 85, 3) := by decide +kernel
theorem dX11_is_21 : decode cX11_is 21 = .ok (.iload_n 2, 1) := by decide +kernel
theorem dX11_is_22 : decode cX11_is 22 = .ok (.if_icmp .ne 36, 3) := by decide +kernel
theorem dX11_is_25 : decode cX11_is 25 = .ok (.aload_n 0, 1) := by decide +kernel
theorem dX11_is_26 : decode cX11_is 26 = .ok (.aload_n 0, 1) := by decide +kernel
theorem dX11_is_27 : decode cX11_is 27 = .ok (.getfield 76, 3) := by decide +kernel
theorem dX11_is_30 : decode cX11_is 30 = .ok (.iconst 1, 1) := by decide +kernel
theorem dX11_is_31 : decode cX11_is 31 = .ok (.iadd, 1) := by decide +kernel
theorem dX11_is_32 : decode cX11_is 32 = .ok (.invokevirtual 85, 3) := by decide +kernel
theorem dX11_is_35 : decode cX11_is 35 = .ok (.iload_n 3, 1) := by decide +kernel
theorem dX11_is_36 : decode cX11_is 36 = .ok (.if_icmp .ne 22, 3) := by decide +kernel
theorem dX11_is_39 : decode cX11_is 39 = .ok (.aload_n 0, 1) := by decide +kernel
theorem dX11_is_40 : decode cX11_is 40 = .ok (.aload_n 0, 1) := by decide +kernel
theorem dX11_is_41 : decode cX11_is 41 = .ok (.getfield 76, 3) := by decide +kernel
theorem dX11_is_44 : decode cX11_is 44 = .ok (.iconst 2, 1) := by decide +kernel
theorem dX11_is_45 : decode cX11_is 45 = .ok (.iadd, 1) := by decide +kernel
theorem dX11_is_46 : decode cX11_is 46 = .ok (.invokevirtual 85, 3) := by decide +kernel
theorem dX11_is_49 : decode cX11_is 49 = .ok (.iload 4, 2) := by decide +kernel
theorem dX11_is_51 : decode cX11_is 51 = .ok (.if_icmp .ne 7, 3) := by decide +kernel
theorem dX11_is_54 : decode cX11_is 54 = .ok (.iconst 1, 1) := by decide +kernel
theorem dX11_is_55 : decode cX11_is 55 = .ok (.goto 4, 3) := by decide +kernel
theorem dX11_is_58 : decode cX11_is 58 = .ok (.iconst 0, 1) := by decide +kernel
theorem dX11_is_59 : decode cX11_is 59 = .ok (.ireturn, 1) := by decide +kernel
theorem dX11_ends_0 : decode cX11_ends 0 = .ok (.aload_n 0, 1) := by decide +kernel
theorem dX11_ends_1 : decode cX11_ends 1 = .ok (.aload_n 0, 1) := by decide +kernel
theorem dX11_ends_2 : decode cX11_ends 2 = .ok (.getfield 76, 3) := by decide +kernel
theorem dX11_ends_5 : decode cX11_ends 5 = .ok (.iconst 3, 1) := by decide +kernel
theorem dX11_ends_6 : decode cX11_ends 6 = .ok (.iadd, 1) := by decide +kernel
theorem dX11_ends_7 : decode cX11_ends 7 = .ok (.invokevirtual 85, 3) := by decide +kernel
theorem dX11_ends_10 : decode cX11_ends 10 = .ok (.iload_n 1, 1) := by decide +kernel
theorem dX11_ends_11 : decode cX11_ends 11 = .ok (.if_icmp .ne 43, 3) := by decide +kernel
theorem dX11_ends_14 : decode cX11_ends 14 = .ok (.iload_n 2, 1) := by decide +kernel
theorem dX11_ends_15 : decode cX11_ends 15 = .ok (.ifCond .eq 17, 3) := by decide +kernel
theorem dX11_ends_18 : decode cX11_ends 18 = .ok (.aload_n 0, 1) := by decide +kernel
theorem dX11_ends_19 : decode cX11_ends 19 = .ok (.aload_n 0, 1) := by decide +kernel
theorem dX11_ends_20 : decode cX11_ends 20 = .ok (.getfield 76, 3) := by decide +kernel
theorem dX11_ends_23 : decode cX11_ends 23 = .ok (.iconst 4, 1) := by decide +kernel
theorem dX11_ends_24 : decode cX11_ends 24 = .ok (.iadd, 1) := by decide +kernel
theorem dX11_ends_25 : decode cX11_ends 25 = .ok (.invokevirtual 85, 3) := by decide +kernel
theorem dX11_ends_28 : decode cX11_ends 28 = .ok (.iload_n 2, 1) := by decide +kernel
theorem dX11_ends_29 : decode cX11_ends 29 = .ok (.if_icmp .ne 25, 3) := by decide +kernel
theorem dX11_ends_32 : decode cX11_ends 32 = .ok (.iload_n 3, 1) := by decide +kernel
theorem dX11_ends_33 : decode cX11_ends 33 = .ok (.ifCond .eq 17, 3) := by decide +kernel
theorem dX11_ends_36 : decode cX11_ends 36 = .ok (.aload_n 0, 1) := by decide +kernel
theorem dX11_ends_37 : decode cX11_ends 37 = .ok (.aload_n 0, 1) := by decide +kernel
theorem dX11_ends_38 : decode cX11_ends 38 = .ok (.getfield 76, 3) := by decide +kernel
theorem dX11_ends_41 : decode cX11_ends 41 = .ok (.iconst 5, 1) := by decide +kernel
theorem dX11_ends_42 : decode cX11_ends 42 = .ok (.iadd, 1) := by decide +kernel
theorem dX11_ends_43 : decode cX11_ends 43 = .ok (.invokevirtual 85, 3) := by decide +kernel
theorem dX11_ends_46 : decode cX11_ends 46 = .ok (.iload_n 3, 1) := by decide +kernel
theorem dX11_ends_47 : decode cX11_ends 47 = .ok (.if_icmp .ne 7, 3) := by decide +kernel
theorem dX11_ends_50 : decode cX11_ends 50 = .ok (.iconst 1, 1) := by decide +kernel
theorem dX11_ends_51 : decode cX11_ends 51 = .ok (.goto 4, 3) := by decide +kernel
theorem dX11_ends_54 : decode cX11_ends 54 = .ok (.iconst 0, 1) := by decide +kernel
theorem dX11_ends_55 : decode cX11_ends 55 = .ok (.ireturn, 1) := by decide +kernel
theorem dX11_judgeNow_0 : decode cX11_judgeNow 0 = .ok (.aload_n 0, 1) := by decide +kernel
theorem dX11_judgeNow_1 : decode cX11_judgeNow 1 = .ok (.iconst 5, 1) := by decide +kernel
theorem dX11_judgeNow_2 : decode cX11_judgeNow 2 = .ok (.bipush 112, 2) := by decide +kernel
theorem dX11_judgeNow_4 : decode cX11_judgeNow 4 = .ok (.bipush 108, 2) := by decide +kernel
theorem dX11_judgeNow_6 : decode cX11_judgeNow 6 = .ok (.bipush 97, 2) := by decide +kernel
theorem dX11_judgeNow_8 : decode cX11_judgeNow 8 = .ok (.invokevirtual 89, 3) := by decide +kernel
theorem dX11_judgeNow_11 : decode cX11_judgeNow 11 = .ok (.ifCond .eq 17, 3) := by decide +kernel
theorem dX11_judgeNow_14 : decode cX11_judgeNow 14 = .ok (.aload_n 0, 1) := by decide +kernel
theorem dX11_judgeNow_15 : decode cX11_judgeNow 15 = .ok (.bipush 105, 2) := by decide +kernel
theorem dX11_judgeNow_17 : decode cX11_judgeNow 17 = .ok (.bipush 110, 2) := by decide +kernel
theorem dX11_judgeNow_19 : decode cX11_judgeNow 19 = .ok (.iconst 0, 1) := by decide +kernel
theorem dX11_judgeNow_20 : decode cX11_judgeNow 20 = .ok (.invokevirtual 93, 3) := by decide +kernel
theorem dX11_judgeNow_23 : decode cX11_judgeNow 23 = .ok (.ifCond .eq 5, 3) := by decide +kernel
theorem dX11_judgeNow_26 : decode cX11_judgeNow 26 = .ok (.iconst 0, 1) := by decide +kernel
theorem dX11_judgeNow_27 : decode cX11_judgeNow 27 = .ok (.ireturn, 1) := by decide +kernel
theorem dX11_judgeNow_28 : decode cX11_judgeNow 28 = .ok (.aload_n 0, 1) := by decide +kernel
theorem dX11_judgeNow_29 : decode cX11_judgeNow 29 = .ok (.iconst 5, 1) := by decide +kernel
theorem dX11_judgeNow_30 : decode cX11_judgeNow 30 = .ok (.bipush 121, 2) := by decide +kernel
theorem dX11_judgeNow_32 : decode cX11_judgeNow 32 = .ok (.bipush 111, 2) := by decide +kernel
theorem dX11_judgeNow_34 : decode cX11_judgeNow 34 = .ok (.bipush 117, 2) := by decide +kernel
theorem dX11_judgeNow_36 : decode cX11_judgeNow 36 = .ok (.invokevirtual 89, 3) := by decide +kernel
theorem dX11_judgeNow_39 : decode cX11_judgeNow 39 = .ok (.ifCond .eq 17, 3) := by decide +kernel
theorem dX11_judgeNow_42 : decode cX11_judgeNow 42 = .ok (.aload_n 0, 1) := by decide +kernel
theorem dX11_judgeNow_43 : decode cX11_judgeNow 43 = .ok (.bipush 110, 2) := by decide +kernel
theorem dX11_judgeNow_45 : decode cX11_judgeNow 45 = .ok (.bipush 103, 2) := by decide +kernel
theorem dX11_judgeNow_47 : decode cX11_judgeNow 47 = .ok (.iconst 0, 1) := by decide +kernel
theorem dX11_judgeNow_48 : decode cX11_judgeNow 48 = .ok (.invokevirtual 93, 3) := by decide +kernel
theorem dX11_judgeNow_51 : decode cX11_judgeNow 51 = .ok (.ifCond .eq 5, 3) := by decide +kernel
theorem dX11_judgeNow_54 : decode cX11_judgeNow 54 = .ok (.iconst 1, 1) := by decide +kernel
theorem dX11_judgeNow_55 : decode cX11_judgeNow 55 = .ok (.ireturn, 1) := by decide +kernel
theorem dX11_judgeNow_56 : decode cX11_judgeNow 56 = .ok (.aload_n 0, 1) := by decide +kernel
theorem dX11_judgeNow_57 : decode cX11_judgeNow 57 = .ok (.iconst 3, 1) := by decide +kernel
theorem dX11_judgeNow_58 : decode cX11_judgeNow 58 = .ok (.bipush 111, 2) := by decide +kernel
theorem dX11_judgeNow_60 : decode cX11_judgeNow 60 = .ok (.bipush 108, 2) := by decide +kernel
theorem dX11_judgeNow_62 : decode cX11_judgeNow 62 = .ok (.bipush 100, 2) := by decide +kernel
theorem dX11_judgeNow_64 : decode cX11_judgeNow 64 = .ok (.invokevirtual 89, 3) := by decide +kernel
theorem dX11_judgeNow_67 : decode cX11_judgeNow 67 = .ok (.ifCond .eq 7, 3) := by decide +kernel
theorem dX11_judgeNow_70 : decode cX11_judgeNow 70 = .ok (.iconst 2, 1) := by decide +kernel
theorem dX11_judgeNow_71 : decode cX11_judgeNow 71 = .ok (.goto 37, 3) := by decide +kernel
theorem dX11_judgeNow_74 : decode cX11_judgeNow 74 = .ok (.aload_n 0, 1) := by decide +kernel
theorem dX11_judgeNow_75 : decode cX11_judgeNow 75 = .ok (.bipush 6, 2) := by decide +kernel
theorem dX11_judgeNow_77 : decode cX11_judgeNow 77 = .ok (.bipush 104, 2) := by decide +kernel
theorem dX11_judgeNow_79 : decode cX11_judgeNow 79 = .ok (.bipush 101, 2) := by decide +kernel
theorem dX11_judgeNow_81 : decode cX11_judgeNow 81 = .ok (.bipush 114, 2) := by decide +kernel
theorem dX11_judgeNow_83 : decode cX11_judgeNow 83 = .ok (.invokevirtual 89, 3) := by decide +kernel
theorem dX11_judgeNow_86 : decode cX11_judgeNow 86 = .ok (.ifCond .eq 20, 3) := by decide +kernel
theorem dX11_judgeNow_89 : decode cX11_judgeNow 89 = .ok (.aload_n 0, 1) := by decide +kernel
theorem dX11_judgeNow_90 : decode cX11_judgeNow 90 = .ok (.bipush 109, 2) := by decide +kernel
theorem dX11_judgeNow_92 : decode cX11_judgeNow 92 = .ok (.bipush 105, 2) := by decide +kernel
theorem dX11_judgeNow_94 : decode cX11_judgeNow 94 = .ok (.bipush 116, 2) := by decide +kernel
theorem dX11_judgeNow_96 : decode cX11_judgeNow 96 = .ok (.invokevirtual 93, 3) := by decide +kernel
theorem dX11_judgeNow_99 : decode cX11_judgeNow 99 = .ok (.ifCond .eq 7, 3) := by decide +kernel
theorem dX11_judgeNow_102 : decode cX11_judgeNow 102 = .ok (.iconst 3, 1) := by decide +kernel
theorem dX11_judgeNow_103 : decode cX11_judgeNow 103 = .ok (.goto 5, 3) := by decide +kernel
theorem dX11_judgeNow_106 : decode cX11_judgeNow 106 = .ok (.bipush (-4), 2) := by decide +kernel
theorem dX11_judgeNow_108 : decode cX11_judgeNow 108 = .ok (.ireturn, 1) := by decide +kernel
theorem dX11_lineNow_0 : decode cX11_lineNow 0 = .ok (.aload_n 0, 1) := by decide +kernel
theorem dX11_lineNow_1 : decode cX11_lineNow 1 = .ok (.iconst 4, 1) := by decide +kernel
theorem dX11_lineNow_2 : decode cX11_lineNow 2 = .ok (.bipush 103, 2) := by decide +kernel
theorem dX11_lineNow_4 : decode cX11_lineNow 4 = .ok (.bipush 97, 2) := by decide +kernel
theorem dX11_lineNow_6 : decode cX11_lineNow 6 = .ok (.bipush 111, 2) := by decide +kernel
theorem dX11_lineNow_8 : decode cX11_lineNow 8 = .ok (.invokevirtual 89, 3) := by decide +kernel
theorem dX11_lineNow_11 : decode cX11_lineNow 11 = .ok (.ifCond .eq 16, 3) := by decide +kernel
theorem dX11_lineNow_14 : decode cX11_lineNow 14 = .ok (.aload_n 0, 1) := by decide +kernel
theorem dX11_lineNow_15 : decode cX11_lineNow 15 = .ok (.bipush 108, 2) := by decide +kernel
theorem dX11_lineNow_17 : decode cX11_lineNow 17 = .ok (.iconst 0, 1) := by decide +kernel
theorem dX11_lineNow_18 : decode cX11_lineNow 18 = .ok (.iconst 0, 1) := by decide +kernel
theorem dX11_lineNow_19 : decode cX11_lineNow 19 = .ok (.invokevirtual 93, 3) := by decide +kernel
theorem dX11_lineNow_22 : decode cX11_lineNow 22 = .ok (.ifCond .eq 5, 3) := by decide +kernel
theorem dX11_lineNow_25 : decode cX11_lineNow 25 = .ok (.iconst 4, 1) := by decide +kernel
theorem dX11_lineNow_26 : decode cX11_lineNow 26 = .ok (.ireturn, 1) := by decide +kernel
theorem dX11_lineNow_27 : decode cX11_lineNow 27 = .ok (.aload_n 0, 1) := by decide +kernel
theorem dX11_lineNow_28 : decode cX11_lineNow 28 = .ok (.iconst 4, 1) := by decide +kernel
theorem dX11_lineNow_29 : decode cX11_lineNow 29 = .ok (.bipush 102, 2) := by decide +kernel
theorem dX11_lineNow_31 : decode cX11_lineNow 31 = .ok (.bipush 105, 2) := by decide +kernel
theorem dX11_lineNow_33 : decode cX11_lineNow 33 = .ok (.bipush 110, 2) := by decide +kernel
theorem dX11_lineNow_35 : decode cX11_lineNow 35 = .ok (.invokevirtual 89, 3) := by decide +kernel
theorem dX11_lineNow_38 : decode cX11_lineNow 38 = .ok (.ifCond .eq 16, 3) := by decide +kernel
theorem dX11_lineNow_41 : decode cX11_lineNow 41 = .ok (.aload_n 0, 1) := by decide +kernel
theorem dX11_lineNow_42 : decode cX11_lineNow 42 = .ok (.bipush 101, 2) := by decide +kernel
theorem dX11_lineNow_44 : decode cX11_lineNow 44 = .ok (.iconst 0, 1) := by decide +kernel
theorem dX11_lineNow_45 : decode cX11_lineNow 45 = .ok (.iconst 0, 1) := by decide +kernel
theorem dX11_lineNow_46 : decode cX11_lineNow 46 = .ok (.invokevirtual 93, 3) := by decide +kernel
theorem dX11_lineNow_49 : decode cX11_lineNow 49 = .ok (.ifCond .eq 5, 3) := by decide +kernel
theorem dX11_lineNow_52 : decode cX11_lineNow 52 = .ok (.iconst 5, 1) := by decide +kernel
theorem dX11_lineNow_53 : decode cX11_lineNow 53 = .ok (.ireturn, 1) := by decide +kernel
theorem dX11_lineNow_54 : decode cX11_lineNow 54 = .ok (.aload_n 0, 1) := by decide +kernel
theorem dX11_lineNow_55 : decode cX11_lineNow 55 = .ok (.iconst 4, 1) := by decide +kernel
theorem dX11_lineNow_56 : decode cX11_lineNow 56 = .ok (.bipush 108, 2) := by decide +kernel
theorem dX11_lineNow_58 : decode cX11_lineNow 58 = .ok (.bipush 97, 2) := by decide +kernel
theorem dX11_lineNow_60 : decode cX11_lineNow 60 = .ok (.bipush 115, 2) := by decide +kernel
theorem dX11_lineNow_62 : decode cX11_lineNow 62 = .ok (.invokevirtual 89, 3) := by decide +kernel
theorem dX11_lineNow_65 : decode cX11_lineNow 65 = .ok (.ifCond .eq 17, 3) := by decide +kernel
theorem dX11_lineNow_68 : decode cX11_lineNow 68 = .ok (.aload_n 0, 1) := by decide +kernel
theorem dX11_lineNow_69 : decode cX11_lineNow 69 = .ok (.bipush 104, 2) := by decide +kernel
theorem dX11_lineNow_71 : decode cX11_lineNow 71 = .ok (.iconst 0, 1) := by decide +kernel
theorem dX11_lineNow_72 : decode cX11_lineNow 72 = .ok (.iconst 0, 1) := by decide +kernel
theorem dX11_lineNow_73 : decode cX11_lineNow 73 = .ok (.invokevirtual 93, 3) := by decide +kernel
theorem dX11_lineNow_76 : decode cX11_lineNow 76 = .ok (.ifCond .eq 6, 3) := by decide +kernel
theorem dX11_lineNow_79 : decode cX11_lineNow 79 = .ok (.bipush 6, 2) := by decide +kernel
theorem dX11_lineNow_81 : decode cX11_lineNow 81 = .ok (.ireturn, 1) := by decide +kernel
theorem dX11_lineNow_82 : decode cX11_lineNow 82 = .ok (.aload_n 0, 1) := by decide +kernel
theorem dX11_lineNow_83 : decode cX11_lineNow 83 = .ok (.bipush 6, 2) := by decide +kernel
theorem dX11_lineNow_85 : decode cX11_lineNow 85 = .ok (.bipush 115, 2) := by decide +kernel
theorem dX11_lineNow_87 : decode cX11_lineNow 87 = .ok (.bipush 116, 2) := by decide +kernel
theorem dX11_lineNow_89 : decode cX11_lineNow 89 = .ok (.bipush 111, 2) := by decide +kernel
theorem dX11_lineNow_91 : decode cX11_lineNow 91 = .ok (.invokevirtual 89, 3) := by decide +kernel
theorem dX11_lineNow_94 : decode cX11_lineNow 94 = .ok (.ifCond .eq 19, 3) := by decide +kernel
theorem dX11_lineNow_97 : decode cX11_lineNow 97 = .ok (.aload_n 0, 1) := by decide +kernel
theorem dX11_lineNow_98 : decode cX11_lineNow 98 = .ok (.bipush 99, 2) := by decide +kernel
theorem dX11_lineNow_100 : decode cX11_lineNow 100 = .ok (.bipush 107, 2) := by decide +kernel
theorem dX11_lineNow_102 : decode cX11_lineNow 102 = .ok (.bipush 115, 2) := by decide +kernel
theorem dX11_lineNow_104 : decode cX11_lineNow 104 = .ok (.invokevirtual 93, 3) := by decide +kernel
theorem dX11_lineNow_107 : decode cX11_lineNow 107 = .ok (.ifCond .eq 6, 3) := by decide +kernel
theorem dX11_lineNow_110 : decode cX11_lineNow 110 = .ok (.bipush 7, 2) := by decide +kernel
theorem dX11_lineNow_112 : decode cX11_lineNow 112 = .ok (.ireturn, 1) := by decide +kernel
theorem dX11_lineNow_113 : decode cX11_lineNow 113 = .ok (.aload_n 0, 1) := by decide +kernel
theorem dX11_lineNow_114 : decode cX11_lineNow 114 = .ok (.iconst 5, 1) := by decide +kernel
theorem dX11_lineNow_115 : decode cX11_lineNow 115 = .ok (.bipush 99, 2) := by decide +kernel
theorem dX11_lineNow_117 : decode cX11_lineNow 117 = .ok (.bipush 114, 2) := by decide +kernel
theorem dX11_lineNow_119 : decode cX11_lineNow 119 = .ok (.bipush 105, 2) := by decide +kernel
theorem dX11_lineNow_121 : decode cX11_lineNow 121 = .ok (.invokevirtual 89, 3) := by decide +kernel
theorem dX11_lineNow_124 : decode cX11_lineNow 124 = .ok (.ifCond .eq 20, 3) := by decide +kernel
theorem dX11_lineNow_127 : decode cX11_lineNow 127 = .ok (.aload_n 0, 1) := by decide +kernel
theorem dX11_lineNow_128 : decode cX11_lineNow 128 = .ok (.bipush 109, 2) := by decide +kernel
theorem dX11_lineNow_130 : decode cX11_lineNow 130 = .ok (.bipush 101, 2) := by decide +kernel
theorem dX11_lineNow_132 : decode cX11_lineNow 132 = .ok (.iconst 0, 1) := by decide +kernel
theorem dX11_lineNow_133 : decode cX11_lineNow 133 = .ok (.invokevirtual 93, 3) := by decide +kernel
theorem dX11_lineNow_136 : decode cX11_lineNow 136 = .ok (.ifCond .eq 8, 3) := by decide +kernel
theorem dX11_lineNow_139 : decode cX11_lineNow 139 = .ok (.bipush 8, 2) := by decide +kernel
theorem dX11_lineNow_141 : decode cX11_lineNow 141 = .ok (.goto 7, 3) := by decide +kernel
theorem dX11_lineNow_144 : decode cX11_lineNow 144 = .ok (.aload_n 0, 1) := by decide +kernel
theorem dX11_lineNow_145 : decode cX11_lineNow 145 = .ok (.invokevirtual 97, 3) := by decide +kernel
theorem dX11_lineNow_148 : decode cX11_lineNow 148 = .ok (.ireturn, 1) := by decide +kernel
theorem dX11_takes_0 : decode cX11_takes 0 = .ok (.aload_n 0, 1) := by decide +kernel
theorem dX11_takes_1 : decode cX11_takes 1 = .ok (.getfield 73, 3) := by decide +kernel
theorem dX11_takes_4 : decode cX11_takes 4 = .ok (.ifCond .le 4, 3) := by decide +kernel
theorem dX11_takes_7 : decode cX11_takes 7 = .ok (.return_, 1) := by decide +kernel
theorem dX11_takes_8 : decode cX11_takes 8 = .ok (.aload_n 0, 1) := by decide +kernel
theorem dX11_takes_9 : decode cX11_takes 9 = .ok (.aload_n 0, 1) := by decide +kernel
theorem dX11_takes_10 : decode cX11_takes 10 = .ok (.getfield 82, 3) := by decide +kernel
theorem dX11_takes_13 : decode cX11_takes 13 = .ok (.invokevirtual 85, 3) := by decide +kernel
theorem dX11_takes_16 : decode cX11_takes 16 = .ok (.bipush 32, 2) := by decide +kernel
theorem dX11_takes_18 : decode cX11_takes 18 = .ok (.if_icmp .ne 16, 3) := by decide +kernel
theorem dX11_takes_21 : decode cX11_takes 21 = .ok (.aload_n 0, 1) := by decide +kernel
theorem dX11_takes_22 : decode cX11_takes 22 = .ok (.dup, 1) := by decide +kernel
theorem dX11_takes_23 : decode cX11_takes 23 = .ok (.getfield 82, 3) := by decide +kernel
theorem dX11_takes_26 : decode cX11_takes 26 = .ok (.iconst 1, 1) := by decide +kernel
theorem dX11_takes_27 : decode cX11_takes 27 = .ok (.iadd, 1) := by decide +kernel
theorem dX11_takes_28 : decode cX11_takes 28 = .ok (.putfield 82, 3) := by decide +kernel
theorem dX11_takes_31 : decode cX11_takes 31 = .ok (.goto (-23), 3) := by decide +kernel
theorem dX11_takes_34 : decode cX11_takes 34 = .ok (.aload_n 0, 1) := by decide +kernel
theorem dX11_takes_35 : decode cX11_takes 35 = .ok (.aload_n 0, 1) := by decide +kernel
theorem dX11_takes_36 : decode cX11_takes 36 = .ok (.getfield 82, 3) := by decide +kernel
