theorem dX9_bid_104 : decode cX9_bid 104 = .ok (.goto (-53), 3) := by decide +kernel
theorem dX9_bid_107 : decode cX9_bid 107 = .ok (.aload_n 0, 1) := by decide +kernel
theorem dX9_bid_108 : decode cX9_bid 108 = .ok (.getfield 44, 3) := by decide +kernel
theorem dX9_bid_111 : decode cX9_bid 111 = .ok (.bipush 8, 2) := by decide +kernel
theorem dX9_bid_113 : decode cX9_bid 113 = .ok (.iload_n 2, 1) := by decide +kernel
theorem dX9_bid_114 : decode cX9_bid 114 = .ok (.imul, 1) := by decide +kernel
theorem dX9_bid_115 : decode cX9_bid 115 = .ok (.aload_n 0, 1) := by decide +kernel
theorem dX9_bid_116 : decode cX9_bid 116 = .ok (.getfield 41, 3) := by decide +kernel
theorem dX9_bid_119 : decode cX9_bid 119 = .ok (.iload_n 2, 1) := by decide +kernel
theorem dX9_bid_120 : decode cX9_bid 120 = .ok (.iaload, 1) := by decide +kernel
theorem dX9_bid_121 : decode cX9_bid 121 = .ok (.iadd, 1) := by decide +kernel
theorem dX9_bid_122 : decode cX9_bid 122 = .ok (.iload_n 1, 1) := by decide +kernel
theorem dX9_bid_123 : decode cX9_bid 123 = .ok (.iastore, 1) := by decide +kernel
theorem dX9_bid_124 : decode cX9_bid 124 = .ok (.aload_n 0, 1) := by decide +kernel
theorem dX9_bid_125 : decode cX9_bid 125 = .ok (.getfield 47, 3) := by decide +kernel
theorem dX9_bid_128 : decode cX9_bid 128 = .ok (.bipush 8, 2) := by decide +kernel
theorem dX9_bid_130 : decode cX9_bid 130 = .ok (.iload_n 2, 1) := by decide +kernel
theorem dX9_bid_131 : decode cX9_bid 131 = .ok (.imul, 1) := by decide +kernel
theorem dX9_bid_132 : decode cX9_bid 132 = .ok (.aload_n 0, 1) := by decide +kernel
theorem dX9_bid_133 : decode cX9_bid 133 = .ok (.getfield 41, 3) := by decide +kernel
theorem dX9_bid_136 : decode cX9_bid 136 = .ok (.iload_n 2, 1) := by decide +kernel
theorem dX9_bid_137 : decode cX9_bid 137 = .ok (.iaload, 1) := by decide +kernel
theorem dX9_bid_138 : decode cX9_bid 138 = .ok (.iadd, 1) := by decide +kernel
theorem dX9_bid_139 : decode cX9_bid 139 = .ok (.iload_n 3, 1) := by decide +kernel
theorem dX9_bid_140 : decode cX9_bid 140 = .ok (.iastore, 1) := by decide +kernel
theorem dX9_bid_141 : decode cX9_bid 141 = .ok (.aload_n 0, 1) := by decide +kernel
theorem dX9_bid_142 : decode cX9_bid 142 = .ok (.getfield 41, 3) := by decide +kernel
theorem dX9_bid_145 : decode cX9_bid 145 = .ok (.iload_n 2, 1) := by decide +kernel
theorem dX9_bid_146 : decode cX9_bid 146 = .ok (.dup2, 1) := by decide +kernel
theorem dX9_bid_147 : decode cX9_bid 147 = .ok (.iaload, 1) := by decide +kernel
theorem dX9_bid_148 : decode cX9_bid 148 = .ok (.iconst 1, 1) := by decide +kernel
theorem dX9_bid_149 : decode cX9_bid 149 = .ok (.iadd, 1) := by decide +kernel
theorem dX9_bid_150 : decode cX9_bid 150 = .ok (.iastore, 1) := by decide +kernel
theorem dX9_bid_151 : decode cX9_bid 151 = .ok (.aload_n 0, 1) := by decide +kernel
theorem dX9_bid_152 : decode cX9_bid 152 = .ok (.getfield 41, 3) := by decide +kernel
theorem dX9_bid_155 : decode cX9_bid 155 = .ok (.iload_n 2, 1) := by decide +kernel
theorem dX9_bid_156 : decode cX9_bid 156 = .ok (.iaload, 1) := by decide +kernel
theorem dX9_bid_157 : decode cX9_bid 157 = .ok (.ireturn, 1) := by decide +kernel
theorem dX9_deal_0 : decode cX9_deal 0 = .ok (.iload_n 2, 1) := by decide +kernel
theorem dX9_deal_1 : decode cX9_deal 1 = .ok (.istore_n 3, 1) := by decide +kernel
theorem dX9_deal_2 : decode cX9_deal 2 = .ok (.iconst 0, 1) := by decide +kernel
theorem dX9_deal_3 : decode cX9_deal 3 = .ok (.istore 4, 2) := by decide +kernel
theorem dX9_deal_5 : decode cX9_deal 5 = .ok (.iload 4, 2) := by decide +kernel
theorem dX9_deal_7 : decode cX9_deal 7 = .ok (.bipush 8, 2) := by decide +kernel
theorem dX9_deal_9 : decode cX9_deal 9 = .ok (.if_icmp .ge 43, 3) := by decide +kernel
theorem dX9_deal_12 : decode cX9_deal 12 = .ok (.aload_n 0, 1) := by decide +kernel
theorem dX9_deal_13 : decode cX9_deal 13 = .ok (.getfield 60, 3) := by decide +kernel
theorem dX9_deal_16 : decode cX9_deal 16 = .ok (.iload 4, 2) := by decide +kernel
theorem dX9_deal_18 : decode cX9_deal 18 = .ok (.aload_n 0, 1) := by decide +kernel
theorem dX9_deal_19 : decode cX9_deal 19 = .ok (.getfield 38, 3) := by decide +kernel
theorem dX9_deal_22 : decode cX9_deal 22 = .ok (.bipush 8, 2) := by decide +kernel
theorem dX9_deal_24 : decode cX9_deal 24 = .ok (.iload_n 1, 1) := by decide +kernel
theorem dX9_deal_25 : decode cX9_deal 25 = .ok (.imul, 1) := by decide +kernel
theorem dX9_deal_26 : decode cX9_deal 26 = .ok (.iload 4, 2) := by decide +kernel
theorem dX9_deal_28 : decode cX9_deal 28 = .ok (.iadd, 1) := by decide +kernel
theorem dX9_deal_29 : decode cX9_deal 29 = .ok (.iaload, 1) := by decide +kernel
theorem dX9_deal_30 : decode cX9_deal 30 = .ok (.iload_n 2, 1) := by decide +kernel
theorem dX9_deal_31 : decode cX9_deal 31 = .ok (.imul, 1) := by decide +kernel
theorem dX9_deal_32 : decode cX9_deal 32 = .ok (.bipush 16, 2) := by decide +kernel
theorem dX9_deal_34 : decode cX9_deal 34 = .ok (.idiv, 1) := by decide +kernel
theorem dX9_deal_35 : decode cX9_deal 35 = .ok (.iastore, 1) := by decide +kernel
theorem dX9_deal_36 : decode cX9_deal 36 = .ok (.iload_n 3, 1) := by decide +kernel
theorem dX9_deal_37 : decode cX9_deal 37 = .ok (.aload_n 0, 1) := by decide +kernel
theorem dX9_deal_38 : decode cX9_deal 38 = .ok (.getfield 60, 3) := by decide +kernel
theorem dX9_deal_41 : decode cX9_deal 41 = .ok (.iload 4, 2) := by decide +kernel
theorem dX9_deal_43 : decode cX9_deal 43 = .ok (.iaload, 1) := by decide +kernel
theorem dX9_deal_44 : decode cX9_deal 44 = .ok (.isub, 1) := by decide +kernel
theorem dX9_deal_45 : decode cX9_deal 45 = .ok (.istore_n 3, 1) := by decide +kernel
theorem dX9_deal_46 : decode cX9_deal 46 = .ok (.iinc 4 1, 3) := by decide +kernel
theorem dX9_deal_49 : decode cX9_deal 49 = .ok (.goto (-44), 3) := by decide +kernel
theorem dX9_deal_52 : decode cX9_deal 52 = .ok (.iconst 0, 1) := by decide +kernel
theorem dX9_deal_53 : decode cX9_deal 53 = .ok (.istore 4, 2) := by decide +kernel
theorem dX9_deal_55 : decode cX9_deal 55 = .ok (.iload 4, 2) := by decide +kernel
theorem dX9_deal_57 : decode cX9_deal 57 = .ok (.bipush 8, 2) := by decide +kernel
theorem dX9_deal_59 : decode cX9_deal 59 = .ok (.if_icmp .ge 45, 3) := by decide +kernel
theorem dX9_deal_62 : decode cX9_deal 62 = .ok (.iload_n 3, 1) := by decide +kernel
theorem dX9_deal_63 : decode cX9_deal 63 = .ok (.ifCond .le 41, 3) := by decide +kernel
theorem dX9_deal_66 : decode cX9_deal 66 = .ok (.aload_n 0, 1) := by decide +kernel
theorem dX9_deal_67 : decode cX9_deal 67 = .ok (.getfield 38, 3) := by decide +kernel
theorem dX9_deal_70 : decode cX9_deal 70 = .ok (.bipush 8, 2) := by decide +kernel
theorem dX9_deal_72 : decode cX9_deal 72 = .ok (.iload_n 1, 1) := by decide +kernel
theorem dX9_deal_73 : decode cX9_deal 73 = .ok (.imul, 1) := by decide +kernel
theorem dX9_deal_74 : decode cX9_deal 74 = .ok (.iload 4, 2) := by decide +kernel
theorem dX9_deal_76 : decode cX9_deal 76 = .ok (.iadd, 1) := by decide +kernel
theorem dX9_deal_77 : decode cX9_deal 77 = .ok (.iaload, 1) := by decide +kernel
theorem dX9_deal_78 : decode cX9_deal 78 = .ok (.ifCond .ne 6, 3) := by decide +kernel
theorem dX9_deal_81 : decode cX9_deal 81 = .ok (.goto 17, 3) := by decide +kernel
theorem dX9_deal_84 : decode cX9_deal 84 = .ok (.aload_n 0, 1) := by decide +kernel
theorem dX9_deal_85 : decode cX9_deal 85 = .ok (.getfield 60, 3) := by decide +kernel
theorem dX9_deal_88 : decode cX9_deal 88 = .ok (.iload 4, 2) := by decide +kernel
theorem dX9_deal_90 : decode cX9_deal 90 = .ok (.dup2, 1) := by decide +kernel
theorem dX9_deal_91 : decode cX9_deal 91 = .ok (.iaload, 1) := by decide +kernel
theorem dX9_deal_92 : decode cX9_deal 92 = .ok (.iconst 1, 1) := by decide +kernel
theorem dX9_deal_93 : decode cX9_deal 93 = .ok (.iadd, 1) := by decide +kernel
theorem dX9_deal_94 : decode cX9_deal 94 = .ok (.iastore, 1) := by decide +kernel
theorem dX9_deal_95 : decode cX9_deal 95 = .ok (.iinc 3 (-1), 3) := by decide +kernel
theorem dX9_deal_98 : decode cX9_deal 98 = .ok (.iinc 4 1, 3) := by decide +kernel
theorem dX9_deal_101 : decode cX9_deal 101 = .ok (.goto (-46), 3) := by decide +kernel
theorem dX9_deal_104 : decode cX9_deal 104 = .ok (.return_, 1) := by decide +kernel
theorem dX9_pay_0 : decode cX9_pay 0 = .ok (.aload_n 0, 1) := by decide +kernel
theorem dX9_pay_1 : decode cX9_pay 1 = .ok (.iload_n 1, 1) := by decide +kernel
theorem dX9_pay_2 : decode cX9_pay 2 = .ok (.iload_n 2, 1) := by decide +kernel
theorem dX9_pay_3 : decode cX9_pay 3 = .ok (.invokevirtual 159, 3) := by decide +kernel
theorem dX9_pay_6 : decode cX9_pay 6 = .ok (.iconst 0, 1) := by decide +kernel
theorem dX9_pay_7 : decode cX9_pay 7 = .ok (.istore_n 3, 1) := by decide +kernel
theorem dX9_pay_8 : decode cX9_pay 8 = .ok (.iload_n 3, 1) := by decide +kernel
theorem dX9_pay_9 : decode cX9_pay 9 = .ok (.aload_n 0, 1) := by decide +kernel
theorem dX9_pay_10 : decode cX9_pay 10 = .ok (.getfield 144, 3) := by decide +kernel
theorem dX9_pay_13 : decode cX9_pay 13 = .ok (.if_icmp .ge 24, 3) := by decide +kernel
theorem dX9_pay_16 : decode cX9_pay 16 = .ok (.aload_n 0, 1) := by decide +kernel
theorem dX9_pay_17 : decode cX9_pay 17 = .ok (.getfield 22, 3) := by decide +kernel
theorem dX9_pay_20 : decode cX9_pay 20 = .ok (.iload_n 3, 1) := by decide +kernel
theorem dX9_pay_21 : decode cX9_pay 21 = .ok (.dup2, 1) := by decide +kernel
theorem dX9_pay_22 : decode cX9_pay 22 = .ok (.iaload, 1) := by decide +kernel
theorem dX9_pay_23 : decode cX9_pay 23 = .ok (.aload_n 0, 1) := by decide +kernel
theorem dX9_pay_24 : decode cX9_pay 24 = .ok (.getfield 60, 3) := by decide +kernel
theorem dX9_pay_27 : decode cX9_pay 27 = .ok (.iload_n 3, 1) := by decide +kernel
theorem dX9_pay_28 : decode cX9_pay 28 = .ok (.iaload, 1) := by decide +kernel
theorem dX9_pay_29 : decode cX9_pay 29 = .ok (.iadd, 1) := by decide +kernel
theorem dX9_pay_30 : decode cX9_pay 30 = .ok (.iastore, 1) := by decide +kernel
theorem dX9_pay_31 : decode cX9_pay 31 = .ok (.iinc 3 1, 3) := by decide +kernel
theorem dX9_pay_34 : decode cX9_pay 34 = .ok (.goto (-26), 3) := by decide +kernel
theorem dX9_pay_37 : decode cX9_pay 37 = .ok (.return_, 1) := by decide +kernel
theorem dX9_hundredth_0 : decode cX9_hundredth 0 = .ok (.iload_n 0, 1) := by decide +kernel
theorem dX9_hundredth_1 : decode cX9_hundredth 1 = .ok (.i2l, 1) := by decide +kernel
theorem dX9_hundredth_2 : decode cX9_hundredth 2 = .ok (.iload_n 1, 1) := by decide +kernel
theorem dX9_hundredth_3 : decode cX9_hundredth 3 = .ok (.i2l, 1) := by decide +kernel
theorem dX9_hundredth_4 : decode cX9_hundredth 4 = .ok (.lmul, 1) := by decide +kernel
theorem dX9_hundredth_5 : decode cX9_hundredth 5 = .ok (.ldc2_w 163, 3) := by decide +kernel
theorem dX9_hundredth_8 : decode cX9_hundredth 8 = .ok (.ldiv, 1) := by decide +kernel
theorem dX9_hundredth_9 : decode cX9_hundredth 9 = .ok (.l2i, 1) := by decide +kernel
theorem dX9_hundredth_10 : decode cX9_hundredth 10 = .ok (.ireturn, 1) := by decide +kernel
theorem dX9_isAhead_0 : decode cX9_isAhead 0 = .ok (.aload_n 0, 1) := by decide +kernel
theorem dX9_isAhead_1 : decode cX9_isAhead 1 = .ok (.getfield 47, 3) := by decide +kernel
theorem dX9_isAhead_4 : decode cX9_isAhead 4 = .ok (.bipush 8, 2) := by decide +kernel
theorem dX9_isAhead_6 : decode cX9_isAhead 6 = .ok (.iload_n 1, 1) := by decide +kernel
theorem dX9_isAhead_7 : decode cX9_isAhead 7 = .ok (.imul, 1) := by decide +kernel
theorem dX9_isAhead_8 : decode cX9_isAhead 8 = .ok (.iload_n 2, 1) := by decide +kernel
theorem dX9_isAhead_9 : decode cX9_isAhead 9 = .ok (.iadd, 1) := by decide +kernel
theorem dX9_isAhead_10 : decode cX9_isAhead 10 = .ok (.iaload, 1) := by decide +kernel
theorem dX9_isAhead_11 : decode cX9_isAhead 11 = .ok (.aload_n 0, 1) := by decide +kernel
theorem dX9_isAhead_12 : decode cX9_isAhead 12 = .ok (.getfield 47, 3) := by decide +kernel
theorem dX9_isAhead_15 : decode cX9_isAhead 15 = .ok (.bipush 8, 2) := by decide +kernel
theorem dX9_isAhead_17 : decode cX9_isAhead 17 = .ok (.iload_n 1, 1) := by decide +kernel
theorem dX9_isAhead_18 : decode cX9_isAhead 18 = .ok (.imul, 1) := by decide +kernel
theorem dX9_isAhead_19 : decode cX9_isAhead 19 = .ok (.iload_n 3, 1) := by decide +kernel
theorem dX9_isAhead_20 : decode cX9_isAhead 20 = .ok (.iadd, 1) := by decide +kernel
theorem dX9_isAhead_21 : decode cX9_isAhead 21 = .ok (.iaload, 1) := by decide +kernel
theorem dX9_isAhead_22 : decode cX9_isAhead 22 = .ok (.if_icmp .gt 33, 3) := by decide +kernel
theorem dX9_isAhead_25 : decode cX9_isAhead 25 = .ok (.aload_n 0, 1) := by decide +kernel
theorem dX9_isAhead_26 : decode cX9_isAhead 26 = .ok (.getfield 47, 3) := by decide +kernel
theorem dX9_isAhead_29 : decode cX9_isAhead 29 = .ok (.bipush 8, 2) := by decide +kernel
theorem dX9_isAhead_31 : decode cX9_isAhead 31 = .ok (.iload_n 1, 1) := by decide +kernel
theorem dX9_isAhead_32 : decode cX9_isAhead 32 = .ok (.imul, 1) := by decide +kernel
theorem dX9_isAhead_33 : decode cX9_isAhead 33 = .ok (.iload_n 2, 1) := by decide +kernel
theorem dX9_isAhead_34 : decode cX9_isAhead 34 = .ok (.iadd, 1) := by decide +kernel
theorem dX9_isAhead_35 : decode cX9_isAhead 35 = .ok (.iaload, 1) := by decide +kernel
theorem dX9_isAhead_36 : decode cX9_isAhead 36 = .ok (.aload_n 0, 1) := by decide +kernel
theorem dX9_isAhead_37 : decode cX9_isAhead 37 = .ok (.getfield 47, 3) := by decide +kernel
theorem dX9_isAhead_40 : decode cX9_isAhead 40 = .ok (.bipush 8, 2) := by decide +kernel
theorem dX9_isAhead_42 : decode cX9_isAhead 42 = .ok (.iload_n 1, 1) := by decide +kernel
theorem dX9_isAhead_43 : decode cX9_isAhead 43 = .ok (.imul, 1) := by decide +kernel
theorem dX9_isAhead_44 : decode cX9_isAhead 44 = .ok (.iload_n 3, 1) := by decide +kernel
theorem dX9_isAhead_45 : decode cX9_isAhead 45 = .ok (.iadd, 1) := by decide +kernel
theorem dX9_isAhead_46 : decode cX9_isAhead 46 = .ok (.iaload, 1) := by decide +kernel
theorem dX9_isAhead_47 : decode cX9_isAhead 47 = .ok (.if_icmp .ne 12, 3) := by decide +kernel
theorem dX9_isAhead_50 : decode cX9_isAhead 50 = .ok (.iload_n 2, 1) := by decide +kernel
theorem dX9_isAhead_51 : decode cX9_isAhead 51 = .ok (.iload_n 3, 1) := by decide +kernel
theorem dX9_isAhead_52 : decode cX9_isAhead 52 = .ok (.if_icmp .ge 7, 3) := by decide +kernel
theorem dX9_isAhead_55 : decode cX9_isAhead 55 = .ok (.iconst 1, 1) := by decide +kernel
theorem dX9_isAhead_56 : decode cX9_isAhead 56 = .ok (.goto 4, 3) := by decide +kernel
theorem dX9_isAhead_59 : decode cX9_isAhead 59 = .ok (.iconst 0, 1) := by decide +kernel
theorem dX9_isAhead_60 : decode cX9_isAhead 60 = .ok (.ireturn, 1) := by decide +kernel
theorem dX9_line0_0 : decode cX9_line0 0 = .ok (.iconst 0, 1) := by decide +kernel
theorem dX9_line0_1 : decode cX9_line0 1 = .ok (.istore_n 2, 1) := by decide +kernel
theorem dX9_line0_2 : decode cX9_line0 2 = .ok (.aload_n 0, 1) := by decide +kernel
theorem dX9_line0_3 : decode cX9_line0 3 = .ok (.iconst 0, 1) := by decide +kernel
theorem dX9_line0_4 : decode cX9_line0 4 = .ok (.putfield 165, 3) := by decide +kernel
theorem dX9_line0_7 : decode cX9_line0 7 = .ok (.iconst 0, 1) := by decide +kernel
theorem dX9_line0_8 : decode cX9_line0 8 = .ok (.istore_n 3, 1) := by decide +kernel
theorem dX9_line0_9 : decode cX9_line0 9 = .ok (.iload_n 3, 1) := by decide +kernel
theorem dX9_line0_10 : decode cX9_line0 10 = .ok (.aload_n 0, 1) := by decide +kernel
theorem dX9_line0_11 : decode cX9_line0 11 = .ok (.getfield 41, 3) := by decide +kernel
theorem dX9_line0_14 : decode cX9_line0 14 = .ok (.iload_n 1, 1) := by decide +kernel
theorem dX9_line0_15 : decode cX9_line0 15 = .ok (.iaload, 1) := by decide +kernel
theorem dX9_line0_16 : decode cX9_line0 16 = .ok (.if_icmp .ge 154, 3) := by decide +kernel
theorem dX9_line0_19 : decode cX9_line0 19 = .ok (.aload_n 0, 1) := by decide +kernel
theorem dX9_line0_20 : decode cX9_line0 20 = .ok (.getfield 44, 3) := by decide +kernel
theorem dX9_line0_23 : decode cX9_line0 23 = .ok (.bipush 8, 2) := by decide +kernel
theorem dX9_line0_25 : decode cX9_line0 25 = .ok (.iload_n 1, 1) := by decide +kernel
theorem dX9_line0_26 : decode cX9_line0 26 = .ok (.imul, 1) := by decide +kernel
theorem dX9_line0_27 : decode cX9_line0 27 = .ok (.iload_n 3, 1) := by decide +kernel
theorem dX9_line0_28 : decode cX9_line0 28 = .ok (.iadd, 1) := by decide +kernel
theorem dX9_line0_29 : decode cX9_line0 29 = .ok (.iaload, 1) := by decide +kernel
theorem dX9_line0_30 : decode cX9_line0 30 = .ok (.istore 4, 2) := by decide +kernel
theorem dX9_line0_32 : decode cX9_line0 32 = .ok (.aload_n 0, 1) := by decide +kernel
theorem dX9_line0_33 : decode cX9_line0 33 = .ok (.getfield 47, 3) := by decide +kernel
theorem dX9_line0_36 : decode cX9_line0 36 = .ok (.bipush 8, 2) := by decide +kernel
theorem dX9_line0_38 : decode cX9_line0 38 = .ok (.iload_n 1, 1) := by decide +kernel
theorem dX9_line0_39 : decode cX9_line0 39 = .ok (.imul, 1) := by decide +kernel
theorem dX9_line0_40 : decode cX9_line0 40 = .ok (.iload_n 3, 1) := by decide +kernel
theorem dX9_line0_41 : decode cX9_line0 41 = .ok (.iadd, 1) := by decide +kernel
theorem dX9_line0_42 : decode cX9_line0 42 = .ok (.iaload, 1) := by decide +kernel
theorem dX9_line0_43 : decode cX9_line0 43 = .ok (.istore 5, 2) := by decide +kernel
theorem dX9_line0_45 : decode cX9_line0 45 = .ok (.iload 5, 2) := by decide +kernel
theorem dX9_line0_47 : decode cX9_line0 47 = .ok (.aload_n 0, 1) := by decide +kernel
theorem dX9_line0_48 : decode cX9_line0 48 = .ok (.getfield 50, 3) := by decide +kernel
theorem dX9_line0_51 : decode cX9_line0 51 = .ok (.iconst 4, 1) := by decide +kernel
theorem dX9_line0_52 : decode cX9_line0 52 = .ok (.iaload, 1) := by decide +kernel
theorem dX9_line0_53 : decode cX9_line0 53 = .ok (.if_icmp .lt 39, 3) := by decide +kernel
theorem dX9_line0_56 : decode cX9_line0 56 = .ok (.aload_n 0, 1) := by decide +kernel
theorem dX9_line0_57 : decode cX9_line0 57 = .ok (.getfield 38, 3) := by decide +kernel
theorem dX9_line0_60 : decode cX9_line0 60 = .ok (.bipush 8, 2) := by decide +kernel
theorem dX9_line0_62 : decode cX9_line0 62 = .ok (.iload_n 1, 1) := by decide +kernel
theorem dX9_line0_63 : decode cX9_line0 63 = .ok (.imul, 1) := by decide +kernel
theorem dX9_line0_64 : decode cX9_line0 64 = .ok (.iload 4, 2) := by decide +kernel
theorem dX9_line0_66 : decode cX9_line0 66 = .ok (.iadd, 1) := by decide +kernel
theorem dX9_line0_67 : decode cX9_line0 67 = .ok (.iaload, 1) := by decide +kernel
theorem dX9_line0_68 : decode cX9_line0 68 = .ok (.ifCond .gt 24, 3) := by decide +kernel
theorem dX9_line0_71 : decode cX9_line0 71 = .ok (.aload_n 0, 1) := by decide +kernel
theorem dX9_line0_72 : decode cX9_line0 72 = .ok (.getfield 22, 3) := by decide +kernel
theorem dX9_line0_75 : decode cX9_line0 75 = .ok (.iload 4, 2) := by decide +kernel
theorem dX9_line0_77 : decode cX9_line0 77 = .ok (.iaload, 1) := by decide +kernel
theorem dX9_line0_78 : decode cX9_line0 78 = .ok (.iload 5, 2) := by decide +kernel
theorem dX9_line0_80 : decode cX9_line0 80 = .ok (.aload_n 0, 1) := by decide +kernel
theorem dX9_line0_81 : decode cX9_line0 81 = .ok (.getfield 50, 3) := by decide +kernel
theorem dX9_line0_84 : decode cX9_line0 84 = .ok (.iconst 3, 1) := by decide +kernel
theorem dX9_line0_85 : decode cX9_line0 85 = .ok (.iaload, 1) := by decide +kernel
theorem dX9_line0_86 : decode cX9_line0 86 = .ok (.invokestatic 168, 3) := by decide +kernel
theorem dX9_line0_89 : decode cX9_line0 89 = .ok (.if_icmp .ge 16, 3) := by decide +kernel
theorem dX9_line0_92 : decode cX9_line0 92 = .ok (.aload_n 0, 1) := by decide +kernel
theorem dX9_line0_93 : decode cX9_line0 93 = .ok (.dup, 1) := by decide +kernel
theorem dX9_line0_94 : decode cX9_line0 94 = .ok (.getfield 165, 3) := by decide +kernel
theorem dX9_line0_97 : decode cX9_line0 97 = .ok (.iconst 1, 1) := by decide +kernel
theorem dX9_line0_98 : decode cX9_line0 98 = .ok (.iadd, 1) := by decide +kernel
theorem dX9_line0_99 : decode cX9_line0 99 = .ok (.putfield 165, 3) := by decide +kernel
theorem dX9_line0_102 : decode cX9_line0 102 = .ok (.goto 62, 3) := by decide +kernel
theorem dX9_line0_105 : decode cX9_line0 105 = .ok (.iload_n 2, 1) := by decide +kernel
theorem dX9_line0_106 : decode cX9_line0 106 = .ok (.istore 6, 2) := by decide +kernel
theorem dX9_line0_108 : decode cX9_line0 108 = .ok (.iload 6, 2) := by decide +kernel
theorem dX9_line0_110 : decode cX9_line0 110 = .ok (.ifCond .le 43, 3) := by decide +kernel
theorem dX9_line0_113 : decode cX9_line0 113 = .ok (.aload_n 0, 1) := by decide +kernel
theorem dX9_line0_114 : decode cX9_line0 114 = .ok (.iload_n 1, 1) := by decide +kernel
theorem dX9_line0_115 : decode cX9_line0 115 = .ok (.iload_n 3, 1) := by decide +kernel
theorem dX9_line0_116 : decode cX9_line0 116 = .ok (.aload_n 0, 1) := by decide +kernel
theorem dX9_line0_117 : decode cX9_line0 117 = .ok (.getfield 63, 3) := by decide +kernel
theorem dX9_line0_120 : decode cX9_line0 120 = .ok (.iload 6, 2) := by decide +kernel
theorem dX9_line0_122 : decode cX9_line0 122 = .ok (.iconst 1, 1) := by decide +kernel
theorem dX9_line0_123 : decode cX9_line0 123 = .ok (.isub, 1) := by decide +kernel
theorem dX9_line0_124 : decode cX9_line0 124 = .ok (.iaload, 1) := by decide +kernel
theorem dX9_line0_125 : decode cX9_line0 125 = .ok (.invokevirtual 171, 3) := by decide +kernel
theorem dX9_line0_128 : decode cX9_line0 128 = .ok (.ifCond .eq 25, 3) := by decide +kernel
theorem dX9_line0_131 : decode cX9_line0 131 = .ok (.aload_n 0, 1) := by decide +kernel
theorem dX9_line0_132 : decode cX9_line0 132 = .ok (.getfield 63, 3) := by decide +kernel
theorem dX9_line0_135 : decode cX9_line0 135 = .ok (.iload 6, 2) := by decide +kernel
theorem dX9_line0_137 : decode cX9_line0 137 = .ok (.aload_n 0, 1) := by decide +kernel
theorem dX9_line0_138 : decode cX9_line0 138 = .ok (.getfield 63, 3) := by decide +kernel
theorem dX9_line0_141 : decode cX9_line0 141 = .ok (.iload 6, 2) := by decide +kernel
theorem dX9_line0_143 : decode cX9_line0 143 = .ok (.iconst 1, 1) := by decide +kernel
theorem dX9_line0_144 : decode cX9_line0 144 = .ok (.isub, 1) := by decide +kernel
theorem dX9_line0_145 : decode cX9_line0 145 = .ok (.iaload, 1) := by decide +kernel
theorem dX9_line0_146 : decode cX9_line0 146 = .ok (.iastore, 1) := by decide +kernel
theorem dX9_line0_147 : decode cX9_line0 147 = .ok (.iinc 6 (-1), 3) := by decide +kernel
theorem dX9_line0_150 : decode cX9_line0 150 = .ok (.goto (-42), 3) := by decide +kernel
theorem dX9_line0_153 : decode cX9_line0 153 = .ok (.aload_n 0, 1) := by decide +kernel
theorem dX9_line0_154 : decode cX9_line0 154 = .ok (.getfield 63, 3) := by decide +kernel
theorem dX9_line0_157 : decode cX9_line0 157 = .ok (.iload 6, 2) := by decide +kernel
theorem dX9_line0_159 : decode cX9_line0 159 = .ok (.iload_n 3, 1) := by decide +kernel
theorem dX9_line0_160 : decode cX9_line0 160 = .ok (.iastore, 1) := by decide +kernel
theorem dX9_line0_161 : decode cX9_line0 161 = .ok (.iinc 2 1, 3) := by decide +kernel
theorem dX9_line0_164 : decode cX9_line0 164 = .ok (.iinc 3 1, 3) := by decide +kernel
theorem dX9_line0_167 : decode cX9_line0 167 = .ok (.goto (-158), 3) := by decide +kernel
theorem dX9_line0_170 : decode cX9_line0 170 = .ok (.iload_n 2, 1) := by decide +kernel
theorem dX9_line0_171 : decode cX9_line0 171 = .ok (.ireturn, 1) := by decide +kernel
theorem dX9_priceOf_0 : decode cX9_priceOf 0 = .ok (.aload_n 0, 1) := by decide +kernel
theorem dX9_priceOf_1 : decode cX9_priceOf 1 = .ok (.getfield 50, 3) := by decide +kernel
theorem dX9_priceOf_4 : decode cX9_priceOf 4 = .ok (.iconst 0, 1) := by decide +kernel
theorem dX9_priceOf_5 : decode cX9_priceOf 5 = .ok (.iaload, 1) := by decide +kernel
theorem dX9_priceOf_6 : decode cX9_priceOf 6 = .ok (.ifCond .ne 20, 3) := by decide +kernel
theorem dX9_priceOf_9 : decode cX9_priceOf 9 = .ok (.aload_n 0, 1) := by decide +kernel
theorem dX9_priceOf_10 : decode cX9_priceOf 10 = .ok (.getfield 47, 3) := by decide +kernel
theorem dX9_priceOf_13 : decode cX9_priceOf 13 = .ok (.bipush 8, 2) := by decide +kernel
theorem dX9_priceOf_15 : decode cX9_priceOf 15 = .ok (.iload_n 1, 1) := by decide +kernel
theorem dX9_priceOf_16 : decode cX9_priceOf 16 = .ok (.imul, 1) := by decide +kernel
theorem dX9_priceOf_17 : decode cX9_priceOf 17 = .ok (.aload_n 0, 1) := by decide +kernel
theorem dX9_priceOf_18 : decode cX9_priceOf 18 = .ok (.getfield 63, 3) := by decide +kernel
theorem dX9_priceOf_21 : decode cX9_priceOf 21 = .ok (.iload_n 2, 1) := by decide +kernel
theorem dX9_priceOf_22 : decode cX9_priceOf 22 = .ok (.iaload, 1) := by decide +kernel
theorem dX9_priceOf_23 : decode cX9_priceOf 23 = .ok (.iadd, 1) := by decide +kernel
theorem dX9_priceOf_24 : decode cX9_priceOf 24 = .ok (.iaload, 1) := by decide +kernel
theorem dX9_priceOf_25 : decode cX9_priceOf 25 = .ok (.ireturn, 1) := by decide +kernel
theorem dX9_priceOf_26 : decode cX9_priceOf 26 = .ok (.iload_n 2, 1) := by decide +kernel
theorem dX9_priceOf_27 : decode cX9_priceOf 27 = .ok (.iconst 1, 1) := by decide +kernel
theorem dX9_priceOf_28 : decode cX9_priceOf 28 = .ok (.iadd, 1) := by decide +kernel
theorem dX9_priceOf_29 : decode cX9_priceOf 29 = .ok (.iload_n 3, 1) := by decide +kernel
theorem dX9_priceOf_30 : decode cX9_priceOf 30 = .ok (.if_icmp .ge 24, 3) := by decide +kernel
theorem dX9_priceOf_33 : decode cX9_priceOf 33 = .ok (.aload_n 0, 1) := by decide +kernel
theorem dX9_priceOf_34 : decode cX9_priceOf 34 = .ok (.getfield 47, 3) := by decide +kernel
theorem dX9_priceOf_37 : decode cX9_priceOf 37 = .ok (.bipush 8, 2) := by decide +kernel
theorem dX9_priceOf_39 : decode cX9_priceOf 39 = .ok (.iload_n 1, 1) := by decide +kernel
theorem dX9_priceOf_40 : decode cX9_priceOf 40 = .ok (.imul, 1) := by decide +kernel
theorem dX9_priceOf_41 : decode cX9_priceOf 41 = .ok (.aload_n 0, 1) := by decide +kernel
theorem dX9_priceOf_42 : decode cX9_priceOf 42 = .ok (.getfield 63, 3) := by decide +kernel
theorem dX9_priceOf_45 : decode cX9_priceOf 45 = .ok (.iload_n 2, 1) := by decide +kernel
theorem dX9_priceOf_46 : decode cX9_priceOf 46 = .ok (.iconst 1, 1) := by decide +kernel
theorem dX9_priceOf_47 : decode cX9_priceOf 47 = .ok (.iadd, 1) := by decide +kernel
theorem dX9_priceOf_48 : decode cX9_priceOf 48 = .ok (.iaload, 1) := by decide +kernel
theorem dX9_priceOf_49 : decode cX9_priceOf 49 = .ok (.iadd, 1) := by decide +kernel
theorem dX9_priceOf_50 : decode cX9_priceOf 50 = .ok (.iaload, 1) := by decide +kernel
theorem dX9_priceOf_51 : decode cX9_priceOf 51 = .ok (.goto 4, 3) := by decide +kernel
theorem dX9_priceOf_54 : decode cX9_priceOf 54 = .ok (.iconst 0, 1) := by decide +kernel
theorem dX9_priceOf_55 : decode cX9_priceOf 55 = .ok (.istore 4, 2) := by decide +kernel
theorem dX9_priceOf_57 : decode cX9_priceOf 57 = .ok (.iload 4, 2) := by decide +kernel
theorem dX9_priceOf_59 : decode cX9_priceOf 59 = .ok (.aload_n 0, 1) := by decide +kernel
theorem dX9_priceOf_60 : decode cX9_priceOf 60 = .ok (.getfield 50, 3) := by decide +kernel
theorem dX9_priceOf_63 : decode cX9_priceOf 63 = .ok (.iconst 4, 1) := by decide +kernel
theorem dX9_priceOf_64 : decode cX9_priceOf 64 = .ok (.iaload, 1) := by decide +kernel
theorem dX9_priceOf_65 : decode cX9_priceOf 65 = .ok (.if_icmp .ge 12, 3) := by decide +kernel
theorem dX9_priceOf_68 : decode cX9_priceOf 68 = .ok (.aload_n 0, 1) := by decide +kernel
theorem dX9_priceOf_69 : decode cX9_priceOf 69 = .ok (.getfield 50, 3) := by decide +kernel
theorem dX9_priceOf_72 : decode cX9_priceOf 72 = .ok (.iconst 4, 1) := by decide +kernel
theorem dX9_priceOf_73 : decode cX9_priceOf 73 = .ok (.iaload, 1) := by decide +kernel
theorem dX9_priceOf_74 : decode cX9_priceOf 74 = .ok (.goto 5, 3) := by decide +kernel
theorem dX9_priceOf_77 : decode cX9_priceOf 77 = .ok (.iload 4, 2) := by decide +kernel
theorem dX9_priceOf_79 : decode cX9_priceOf 79 = .ok (.istore 4, 2) := by decide +kernel
theorem dX9_priceOf_81 : decode cX9_priceOf 81 = .ok (.iload 4, 2) := by decide +kernel
theorem dX9_priceOf_83 : decode cX9_priceOf 83 = .ok (.iconst 1, 1) := by decide +kernel
theorem dX9_priceOf_84 : decode cX9_priceOf 84 = .ok (.if_icmp .ge 7, 3) := by decide +kernel
theorem dX9_priceOf_87 : decode cX9_priceOf 87 = .ok (.iconst 1, 1) := by decide +kernel
theorem dX9_priceOf_88 : decode cX9_priceOf 88 = .ok (.goto 5, 3) := by decide +kernel
theorem dX9_priceOf_91 : decode cX9_priceOf 91 = .ok (.iload 4, 2) := by decide +kernel
theorem dX9_priceOf_93 : decode cX9_priceOf 93 = .ok (.ireturn, 1) := by decide +kernel
theorem dX9_open_0 : decode cX9_open 0 = .ok (.aload_n 0, 1) := by decide +kernel
theorem dX9_open_1 : decode cX9_open 1 = .ok (.iconst 0, 1) := by decide +kernel
theorem dX9_open_2 : decode cX9_open 2 = .ok (.putfield 77, 3) := by decide +kernel
theorem dX9_open_5 : decode cX9_open 5 = .ok (.aload_n 0, 1) := by decide +kernel
theorem dX9_open_6 : decode cX9_open 6 = .ok (.iload_n 1, 1) := by decide +kernel
theorem dX9_open_7 : decode cX9_open 7 = .ok (.invokevirtual 156, 3) := by decide +kernel
theorem dX9_open_10 : decode cX9_open 10 = .ok (.ifCond .ne 6, 3) := by decide +kernel
theorem dX9_open_13 : decode cX9_open 13 = .ok (.bipush (-2), 2) := by decide +kernel
theorem dX9_open_15 : decode cX9_open 15 = .ok (.ireturn, 1) := by decide +kernel
theorem dX9_open_16 : decode cX9_open 16 = .ok (.aload_n 0, 1) := by decide +kernel
theorem dX9_open_17 : decode cX9_open 17 = .ok (.iload_n 1, 1) := by decide +kernel
theorem dX9_open_18 : decode cX9_open 18 = .ok (.invokevirtual 175, 3) := by decide +kernel
theorem dX9_open_21 : decode cX9_open 21 = .ok (.istore_n 2, 1) := by decide +kernel
theorem dX9_open_22 : decode cX9_open 22 = .ok (.aload_n 0, 1) := by decide +kernel
theorem dX9_open_23 : decode cX9_open 23 = .ok (.iconst 1, 1) := by decide +kernel
theorem dX9_open_24 : decode cX9_open 24 = .ok (.putfield 178, 3) := by decide +kernel
theorem dX9_open_27 : decode cX9_open 27 = .ok (.aload_n 0, 1) := by decide +kernel
theorem dX9_open_28 : decode cX9_open 28 = .ok (.iconst 0, 1) := by decide +kernel
theorem dX9_open_29 : decode cX9_open 29 = .ok (.putfield 182, 3) := by decide +kernel
theorem dX9_open_32 : decode cX9_open 32 = .ok (.aload_n 0, 1) := by decide +kernel
theorem dX9_open_33 : decode cX9_open 33 = .ok (.iconst 0, 1) := by decide +kernel
theorem dX9_open_34 : decode cX9_open 34 = .ok (.putfield 185, 3) := by decide +kernel
theorem dX9_open_37 : decode cX9_open 37 = .ok (.aload_n 0, 1) := by decide +kernel
theorem dX9_open_38 : decode cX9_open 38 = .ok (.iconst 0, 1) := by decide +kernel
theorem dX9_open_39 : decode cX9_open 39 = .ok (.putfield 188, 3) := by decide +kernel
theorem dX9_open_42 : decode cX9_open 42 = .ok (.iconst (-1), 1) := by decide +kernel
theorem dX9_open_43 : decode cX9_open 43 = .ok (.istore_n 3, 1) := by decide +kernel
theorem dX9_open_44 : decode cX9_open 44 = .ok (.iconst 1, 1) := by decide +kernel
theorem dX9_open_45 : decode cX9_open 45 = .ok (.istore 4, 2) := by decide +kernel
theorem dX9_open_47 : decode cX9_open 47 = .ok (.iconst 0, 1) := by decide +kernel
theorem dX9_open_48 : decode cX9_open 48 = .ok (.istore 5, 2) := by decide +kernel
theorem dX9_open_50 : decode cX9_open 50 = .ok (.iload 5, 2) := by decide +kernel
theorem dX9_open_52 : decode cX9_open 52 = .ok (.iload_n 2, 1) := by decide +kernel
theorem dX9_open_53 : decode cX9_open 53 = .ok (.if_icmp .ge 196, 3) := by decide +kernel
theorem dX9_open_56 : decode cX9_open 56 = .ok (.iload 4, 2) := by decide +kernel
theorem dX9_open_58 : decode cX9_open 58 = .ok (.ifCond .eq 191, 3) := by decide +kernel
theorem dX9_open_61 : decode cX9_open 61 = .ok (.aload_n 0, 1) := by decide +kernel
theorem dX9_open_62 : decode cX9_open 62 = .ok (.getfield 44, 3) := by decide +kernel
theorem dX9_open_65 : decode cX9_open 65 = .ok (.bipush 8, 2) := by decide +kernel
theorem dX9_open_67 : decode cX9_open 67 = .ok (.iload_n 1, 1) := by decide +kernel
theorem dX9_open_68 : decode cX9_open 68 = .ok (.imul, 1) := by decide +kernel
theorem dX9_open_69 : decode cX9_open 69 = .ok (.aload_n 0, 1) := by decide +kernel
theorem dX9_open_70 : decode cX9_open 70 = .ok (.getfield 63, 3) := by decide +kernel
theorem dX9_open_73 : decode cX9_open 73 = .ok (.iload 5, 2) := by decide +kernel
theorem dX9_open_75 : decode cX9_open 75 = .ok (.iaload, 1) := by decide +kernel
theorem dX9_open_76 : decode cX9_open 76 = .ok (.iadd, 1) := by decide +kernel
theorem dX9_open_77 : decode cX9_open 77 = .ok (.iaload, 1) := by decide +kernel
theorem dX9_open_78 : decode cX9_open 78 = .ok (.istore 6, 2) := by decide +kernel
theorem dX9_open_80 : decode cX9_open 80 = .ok (.aload_n 0, 1) := by decide +kernel
theorem dX9_open_81 : decode cX9_open 81 = .ok (.getfield 47, 3) := by decide +kernel
theorem dX9_open_84 : decode cX9_open 84 = .ok (.bipush 8, 2) := by decide +kernel
theorem dX9_open_86 : decode cX9_open 86 = .ok (.iload_n 1, 1) := by decide +kernel
theorem dX9_open_87 : decode cX9_open 87 = .ok (.imul, 1) := by decide +kernel
theorem dX9_open_88 : decode cX9_open 88 = .ok (.aload_n 0, 1) := by decide +kernel
theorem dX9_open_89 : decode cX9_open 89 = .ok (.getfield 63, 3) := by decide +kernel
theorem dX9_open_92 : decode cX9_open 92 = .ok (.iload 5, 2) := by decide +kernel
theorem dX9_open_94 : decode cX9_open 94 = .ok (.iaload, 1) := by decide +kernel
theorem dX9_open_95 : decode cX9_open 95 = .ok (.iadd, 1) := by decide +kernel
theorem dX9_open_96 : decode cX9_open 96 = .ok (.iaload, 1) := by decide +kernel
theorem dX9_open_97 : decode cX9_open 97 = .ok (.istore 7, 2) := by decide +kernel
theorem dX9_open_99 : decode cX9_open 99 = .ok (.aload_n 0, 1) := by decide +kernel
theorem dX9_open_100 : decode cX9_open 100 = .ok (.getfield 50, 3) := by decide +kernel
theorem dX9_open_103 : decode cX9_open 103 = .ok (.iconst 1, 1) := by decide +kernel
theorem dX9_open_104 : decode cX9_open 104 = .ok (.iaload, 1) := by decide +kernel
theorem dX9_open_105 : decode cX9_open 105 = .ok (.iconst 1, 1) := by decide +kernel
theorem dX9_open_106 : decode cX9_open 106 = .ok (.if_icmp .ne 41, 3) := by decide +kernel
theorem dX9_open_109 : decode cX9_open 109 = .ok (.iload 5, 2) := by decide +kernel
theorem dX9_open_111 : decode cX9_open 111 = .ok (.iconst 1, 1) := by decide +kernel
theorem dX9_open_112 : decode cX9_open 112 = .ok (.iadd, 1) := by decide +kernel
theorem dX9_open_113 : decode cX9_open 113 = .ok (.iload_n 2, 1) := by decide +kernel
theorem dX9_open_114 : decode cX9_open 114 = .ok (.if_icmp .ge 33, 3) := by decide +kernel
theorem dX9_open_117 : decode cX9_open 117 = .ok (.aload_n 0, 1) := by decide +kernel
theorem dX9_open_118 : decode cX9_open 118 = .ok (.getfield 47, 3) := by decide +kernel
theorem dX9_open_121 : decode cX9_open 121 = .ok (.bipush 8, 2) := by decide +kernel
theorem dX9_open_123 : decode cX9_open 123 = .ok (.iload_n 1, 1) := by decide +kernel
theorem dX9_open_124 : decode cX9_open 124 = .ok (.imul, 1) := by decide +kernel
theorem dX9_open_125 : decode cX9_open 125 = .ok (.aload_n 0, 1) := by decide +kernel
theorem dX9_open_126 : decode cX9_open 126 = .ok (.getfield 63, 3) := by decide +kernel
theorem dX9_open_129 : decode cX9_open 129 = .ok (.iload 5, 2) := by decide +kernel
theorem dX9_open_131 : decode cX9_open 131 = .ok (.iconst 1, 1) := by decide +kernel
theorem dX9_open_132 : decode cX9_open 132 = .ok (.iadd, 1) := by decide +kernel
theorem dX9_open_133 : decode cX9_open 133 = .ok (.iaload, 1) := by decide +kernel
theorem dX9_open_134 : decode cX9_open 134 = .ok (.iadd, 1) := by decide +kernel
theorem dX9_open_135 : decode cX9_open 135 = .ok (.iaload, 1) := by decide +kernel
theorem dX9_open_136 : decode cX9_open 136 = .ok (.iload 7, 2) := by decide +kernel
theorem dX9_open_138 : decode cX9_open 138 = .ok (.if_icmp .ne 9, 3) := by decide +kernel
theorem dX9_open_141 : decode cX9_open 141 = .ok (.iconst 0, 1) := by decide +kernel
theorem dX9_open_142 : decode cX9_open 142 = .ok (.istore 4, 2) := by decide +kernel
theorem dX9_open_144 : decode cX9_open 144 = .ok (.goto 99, 3) := by decide +kernel
theorem dX9_open_147 : decode cX9_open 147 = .ok (.aload_n 0, 1) := by decide +kernel
theorem dX9_open_148 : decode cX9_open 148 = .ok (.iload_n 1, 1) := by decide +kernel
theorem dX9_open_149 : decode cX9_open 149 = .ok (.iload 5, 2) := by decide +kernel
theorem dX9_open_151 : decode cX9_open 151 = .ok (.iload_n 2, 1) := by decide +kernel
theorem dX9_open_152 : decode cX9_open 152 = .ok (.invokevirtual 191, 3) := by decide +kernel
theorem dX9_open_155 : decode cX9_open 155 = .ok (.istore 8, 2) := by decide +kernel
theorem dX9_open_157 : decode cX9_open 157 = .ok (.aload_n 0, 1) := by decide +kernel
theorem dX9_open_158 : decode cX9_open 158 = .ok (.getfield 22, 3) := by decide +kernel
theorem dX9_open_161 : decode cX9_open 161 = .ok (.iload 6, 2) := by decide +kernel
theorem dX9_open_163 : decode cX9_open 163 = .ok (.iaload, 1) := by decide +kernel
theorem dX9_open_164 : decode cX9_open 164 = .ok (.iload 8, 2) := by decide +kernel
theorem dX9_open_166 : decode cX9_open 166 = .ok (.if_icmp .lt 18, 3) := by decide +kernel
theorem dX9_open_169 : decode cX9_open 169 = .ok (.aload_n 0, 1) := by decide +kernel
theorem dX9_open_170 : decode cX9_open 170 = .ok (.iload 8, 2) := by decide +kernel
theorem dX9_open_172 : decode cX9_open 172 = .ok (.putfield 182, 3) := by decide +kernel
theorem dX9_open_175 : decode cX9_open 175 = .ok (.iload 6, 2) := by decide +kernel
theorem dX9_open_177 : decode cX9_open 177 = .ok (.istore_n 3, 1) := by decide +kernel
theorem dX9_open_178 : decode cX9_open 178 = .ok (.iconst 0, 1) := by decide +kernel
theorem dX9_open_179 : decode cX9_open 179 = .ok (.istore 4, 2) := by decide +kernel
theorem dX9_open_181 : decode cX9_open 181 = .ok (.goto 62, 3) := by decide +kernel
theorem dX9_open_184 : decode cX9_open 184 = .ok (.iload 7, 2) := by decide +kernel
theorem dX9_open_186 : decode cX9_open 186 = .ok (.aload_n 0, 1) := by decide +kernel
theorem dX9_open_187 : decode cX9_open 187 = .ok (.getfield 50, 3) := by decide +kernel
theorem dX9_open_190 : decode cX9_open 190 = .ok (.iconst 3, 1) := by decide +kernel
theorem dX9_open_191 : decode cX9_open 191 = .ok (.iaload, 1) := by decide +kernel
theorem dX9_open_192 : decode cX9_open 192 = .ok (.invokestatic 168, 3) := by decide +kernel
theorem dX9_open_195 : decode cX9_open 195 = .ok (.istore 9, 2) := by decide +kernel
theorem dX9_open_197 : decode cX9_open 197 = .ok (.aload_n 0, 1) := by decide +kernel
theorem dX9_open_198 : decode cX9_open 198 = .ok (.getfield 22, 3) := by decide +kernel
theorem dX9_open_201 : decode cX9_open 201 = .ok (.iload 6, 2) := by decide +kernel
theorem dX9_open_203 : decode cX9_open 203 = .ok (.dup2, 1) := by decide +kernel
theorem dX9_open_204 : decode cX9_open 204 = .ok (.iaload, 1) := by decide +kernel
theorem dX9_open_205 : decode cX9_open 205 = .ok (.iload 9, 2) := by decide +kernel
theorem dX9_open_207 : decode cX9_open 207 = .ok (.isub, 1) := by decide +kernel
theorem dX9_open_208 : decode cX9_open 208 = .ok (.iastore, 1) := by decide +kernel
theorem dX9_open_209 : decode cX9_open 209 = .ok (.aload_n 0, 1) := by decide +kernel
theorem dX9_open_210 : decode cX9_open 210 = .ok (.iload_n 1, 1) := by decide +kernel
theorem dX9_open_211 : decode cX9_open 211 = .ok (.iload 9, 2) := by decide +kernel
theorem dX9_open_213 : decode cX9_open 213 = .ok (.invokevirtual 195, 3) := by decide +kernel
theorem dX9_open_216 : decode cX9_open 216 = .ok (.aload_n 0, 1) := by decide +kernel
theorem dX9_open_217 : decode cX9_open 217 = .ok (.dup, 1) := by decide +kernel
theorem dX9_open_218 : decode cX9_open 218 = .ok (.getfield 185, 3) := by decide +kernel
theorem dX9_open_221 : decode cX9_open 221 = .ok (.iconst 1, 1) := by decide +kernel
theorem dX9_open_222 : decode cX9_open 222 = .ok (.iadd, 1) := by decide +kernel
theorem dX9_open_223 : decode cX9_open 223 = .ok (.putfield 185, 3) := by decide +kernel
theorem dX9_open_226 : decode cX9_open 226 = .ok (.aload_n 0, 1) := by decide +kernel
theorem dX9_open_227 : decode cX9_open 227 = .ok (.getfield 50, 3) := by decide +kernel
theorem dX9_open_230 : decode cX9_open 230 = .ok (.iconst 2, 1) := by decide +kernel
theorem dX9_open_231 : decode cX9_open 231 = .ok (.iaload, 1) := by decide +kernel
theorem dX9_open_232 : decode cX9_open 232 = .ok (.iconst 1, 1) := by decide +kernel
theorem dX9_open_233 : decode cX9_open 233 = .ok (.if_icmp .ne 7, 3) := by decide +kernel
theorem dX9_open_236 : decode cX9_open 236 = .ok (.iconst 1, 1) := by decide +kernel
theorem dX9_open_237 : decode cX9_open 237 = .ok (.goto 4, 3) := by decide +kernel
theorem dX9_open_240 : decode cX9_open 240 = .ok (.iconst 0, 1) := by decide +kernel
theorem dX9_open_241 : decode cX9_open 241 = .ok (.istore 4, 2) := by decide +kernel
theorem dX9_open_243 : decode cX9_open 243 = .ok (.iinc 5 1, 3) := by decide +kernel
theorem dX9_open_246 : decode cX9_open 246 = .ok (.goto (-196), 3) := by decide +kernel
theorem dX9_open_249 : decode cX9_open 249 = .ok (.iload_n 3, 1) := by decide +kernel
theorem dX9_open_250 : decode cX9_open 250 = .ok (.ifCond .lt 100, 3) := by decide +kernel
theorem dX9_open_253 : decode cX9_open 253 = .ok (.aload_n 0, 1) := by decide +kernel
theorem dX9_open_254 : decode cX9_open 254 = .ok (.aload_n 0, 1) := by decide +kernel
theorem dX9_open_255 : decode cX9_open 255 = .ok (.getfield 182, 3) := by decide +kernel
theorem dX9_open_258 : decode cX9_open 258 = .ok (.aload_n 0, 1) := by decide +kernel
theorem dX9_open_259 : decode cX9_open 259 = .ok (.getfield 50, 3) := by decide +kernel
theorem dX9_open_262 : decode cX9_open 262 = .ok (.iconst 5, 1) := by decide +kernel
theorem dX9_open_263 : decode cX9_open 263 = .ok (.iaload, 1) := by decide +kernel
theorem dX9_open_264 : decode cX9_open 264 = .ok (.invokestatic 168, 3) := by decide +kernel
theorem dX9_open_267 : decode cX9_open 267 = .ok (.putfield 188, 3) := by decide +kernel
theorem dX9_open_270 : decode cX9_open 270 = .ok (.aload_n 0, 1) := by decide +kernel
theorem dX9_open_271 : decode cX9_open 271 = .ok (.getfield 22, 3) := by decide +kernel
theorem dX9_open_274 : decode cX9_open 274 = .ok (.iload_n 3, 1) := by decide +kernel
theorem dX9_open_275 : decode cX9_open 275 = .ok (.dup2, 1) := by decide +kernel
theorem dX9_open_276 : decode cX9_open 276 = .ok (.iaload, 1) := by decide +kernel
theorem dX9_open_277 : decode cX9_open 277 = .ok (.aload_n 0, 1) := by decide +kernel
theorem dX9_open_278 : decode cX9_open 278 = .ok (.getfield 182, 3) := by decide +kernel
theorem dX9_open_281 : decode cX9_open 281 = .ok (.isub, 1) := by decide +kernel
theorem dX9_open_282 : decode cX9_open 282 = .ok (.iastore, 1) := by decide +kernel
theorem dX9_open_283 : decode cX9_open 283 = .ok (.aload_n 0, 1) := by decide +kernel
theorem dX9_open_284 : decode cX9_open 284 = .ok (.dup, 1) := by decide +kernel
theorem dX9_open_285 : decode cX9_open 285 = .ok (.getfield 198, 3) := by decide +kernel
theorem dX9_open_288 : decode cX9_open 288 = .ok (.aload_n 0, 1) := by decide +kernel
theorem dX9_open_289 : decode cX9_open 289 = .ok (.getfield 188, 3) := by decide +kernel
theorem dX9_open_292 : decode cX9_open 292 = .ok (.iadd, 1) := by decide +kernel
theorem dX9_open_293 : decode cX9_open 293 = .ok (.putfield 198, 3) := by decide +kernel
theorem dX9_open_296 : decode cX9_open 296 = .ok (.aload_n 0, 1) := by decide +kernel
theorem dX9_open_297 : decode cX9_open 297 = .ok (.iload_n 1, 1) := by decide +kernel
theorem dX9_open_298 : decode cX9_open 298 = .ok (.aload_n 0, 1) := by decide +kernel
theorem dX9_open_299 : decode cX9_open 299 = .ok (.getfield 182, 3) := by decide +kernel
theorem dX9_open_302 : decode cX9_open 302 = .ok (.aload_n 0, 1) := by decide +kernel
theorem dX9_open_303 : decode cX9_open 303 = .ok (.getfield 188, 3) := by decide +kernel
theorem dX9_open_306 : decode cX9_open 306 = .ok (.isub, 1) := by decide +kernel
theorem dX9_open_307 : decode cX9_open 307 = .ok (.invokevirtual 195, 3) := by decide +kernel
theorem dX9_open_310 : decode cX9_open 310 = .ok (.iconst 0, 1) := by decide +kernel
theorem dX9_open_311 : decode cX9_open 311 = .ok (.istore 5, 2) := by decide +kernel
theorem dX9_open_313 : decode cX9_open 313 = .ok (.iload 5, 2) := by decide +kernel
theorem dX9_open_315 : decode cX9_open 315 = .ok (.bipush 8, 2) := by decide +kernel
theorem dX9_open_317 : decode cX9_open 317 = .ok (.if_icmp .ge 33, 3) := by decide +kernel
theorem dX9_open_320 : decode cX9_open 320 = .ok (.aload_n 0, 1) := by decide +kernel
theorem dX9_open_321 : decode cX9_open 321 = .ok (.getfield 38, 3) := by decide +kernel
theorem dX9_open_324 : decode cX9_open 324 = .ok (.bipush 8, 2) := by decide +kernel
theorem dX9_open_326 : decode cX9_open 326 = .ok (.iload_n 1, 1) := by decide +kernel
theorem dX9_open_327 : decode cX9_open 327 = .ok (.imul, 1) := by decide +kernel
theorem dX9_open_328 : decode cX9_open 328 = .ok (.iload 5, 2) := by decide +kernel
theorem dX9_open_330 : decode cX9_open 330 = .ok (.iadd, 1) := by decide +kernel
theorem dX9_open_331 : decode cX9_open 331 = .ok (.iload 5, 2) := by decide +kernel
theorem dX9_open_333 : decode cX9_open 333 = .ok (.iload_n 3, 1) := by decide +kernel
theorem dX9_open_334 : decode cX9_open 334 = .ok (.if_icmp .ne 8, 3) := by decide +kernel
theorem dX9_open_337 : decode cX9_open 337 = .ok (.bipush 16, 2) := by decide +kernel
theorem dX9_open_339 : decode cX9_open 339 = .ok (.goto 4, 3) := by decide +kernel
theorem dX9_open_342 : decode cX9_open 342 = .ok (.iconst 0, 1) := by decide +kernel
theorem dX9_open_343 : decode cX9_open 343 = .ok (.iastore, 1) := by decide +kernel
theorem dX9_open_344 : decode cX9_open 344 = .ok (.iinc 5 1, 3) := by decide +kernel
theorem dX9_open_347 : decode cX9_open 347 = .ok (.goto (-34), 3) := by decide +kernel
theorem dX9_open_350 : decode cX9_open 350 = .ok (.aload_n 0, 1) := by decide +kernel
theorem dX9_open_351 : decode cX9_open 351 = .ok (.getfield 41, 3) := by decide +kernel
theorem dX9_open_354 : decode cX9_open 354 = .ok (.iload_n 1, 1) := by decide +kernel
theorem dX9_open_355 : decode cX9_open 355 = .ok (.iconst 0, 1) := by decide +kernel
theorem dX9_open_356 : decode cX9_open 356 = .ok (.iastore, 1) := by decide +kernel
theorem dX9_open_357 : decode cX9_open 357 = .ok (.iload_n 3, 1) := by decide +kernel
theorem dX9_open_358 : decode cX9_open 358 = .ok (.ireturn, 1) := by decide +kernel
theorem dX9_sale_0 : decode cX9_sale 0 = .ok (.aload_n 0, 1) := by decide +kernel
theorem dX9_sale_1 : decode cX9_sale 1 = .ok (.iconst 0, 1) := by decide +kernel
theorem dX9_sale_2 : decode cX9_sale 2 = .ok (.putfield 77, 3) := by decide +kernel
theorem dX9_sale_5 : decode cX9_sale 5 = .ok (.aload_n 0, 1) := by decide +kernel
theorem dX9_sale_6 : decode cX9_sale 6 = .ok (.getfield 178, 3) := by decide +kernel
theorem dX9_sale_9 : decode cX9_sale 9 = .ok (.ifCond .ne 5, 3) := by decide +kernel
theorem dX9_sale_12 : decode cX9_sale 12 = .ok (.iconst (-1), 1) := by decide +kernel
theorem dX9_sale_13 : decode cX9_sale 13 = .ok (.ireturn, 1) := by decide +kernel
theorem dX9_sale_14 : decode cX9_sale 14 = .ok (.iload_n 1, 1) := by decide +kernel
theorem dX9_sale_15 : decode cX9_sale 15 = .ok (.ifCond .ne 10, 3) := by decide +kernel
theorem dX9_sale_18 : decode cX9_sale 18 = .ok (.aload_n 0, 1) := by decide +kernel
theorem dX9_sale_19 : decode cX9_sale 19 = .ok (.getfield 182, 3) := by decide +kernel
theorem dX9_sale_22 : decode cX9_sale 22 = .ok (.goto 40, 3) := by decide +kernel
theorem dX9_sale_25 : decode cX9_sale 25 = .ok (.iload_n 1, 1) := by decide +kernel
theorem dX9_sale_26 : decode cX9_sale 26 = .ok (.iconst 1, 1) := by decide +kernel
theorem dX9_sale_27 : decode cX9_sale 27 = .ok (.if_icmp .ne 10, 3) := by decide +kernel
theorem dX9_sale_30 : decode cX9_sale 30 = .ok (.aload_n 0, 1) := by decide +kernel
theorem dX9_sale_31 : decode cX9_sale 31 = .ok (.getfield 185, 3) := by decide +kernel
theorem dX9_sale_34 : decode cX9_sale 34 = .ok (.goto 28, 3) := by decide +kernel
theorem dX9_sale_37 : decode cX9_sale 37 = .ok (.iload_n 1, 1) := by decide +kernel
theorem dX9_sale_38 : decode cX9_sale 38 = .ok (.iconst 2, 1) := by decide +kernel
theorem dX9_sale_39 : decode cX9_sale 39 = .ok (.if_icmp .ne 10, 3) := by decide +kernel
theorem dX9_sale_42 : decode cX9_sale 42 = .ok (.aload_n 0, 1) := by decide +kernel
theorem dX9_sale_43 : decode cX9_sale 43 = .ok (.getfield 188, 3) := by decide +kernel
theorem dX9_sale_46 : decode cX9_sale 46 = .ok (.goto 16, 3) := by decide +kernel
theorem dX9_sale_49 : decode cX9_sale 49 = .ok (.iload_n 1, 1) := by decide +kernel
theorem dX9_sale_50 : decode cX9_sale 50 = .ok (.iconst 3, 1) := by decide +kernel
theorem dX9_sale_51 : decode cX9_sale 51 = .ok (.if_icmp .ne 10, 3) := by decide +kernel
theorem dX9_sale_54 : decode cX9_sale 54 = .ok (.aload_n 0, 1) := by decide +kernel
theorem dX9_sale_55 : decode cX9_sale 55 = .ok (.getfield 165, 3) := by decide +kernel
theorem dX9_sale_58 : decode cX9_sale 58 = .ok (.goto 4, 3) := by decide +kernel
theorem dX9_sale_61 : decode cX9_sale 61 = .ok (.iconst (-1), 1) := by decide +kernel
theorem dX9_sale_62 : decode cX9_sale 62 = .ok (.ireturn, 1) := by decide +kernel
theorem dX9_gradeAt_0 : decode cX9_gradeAt 0 = .ok (.aload_n 0, 1) := by decide +kernel
theorem dX9_gradeAt_1 : decode cX9_gradeAt 1 = .ok (.getfield 28, 3) := by decide +kernel
theorem dX9_gradeAt_4 : decode cX9_gradeAt 4 = .ok (.iload_n 1, 1) := by decide +kernel
theorem dX9_gradeAt_5 : decode cX9_gradeAt 5 = .ok (.iaload, 1) := by decide +kernel
theorem dX9_gradeAt_6 : decode cX9_gradeAt 6 = .ok (.iconst 2, 1) := by decide +kernel
theorem dX9_gradeAt_7 : decode cX9_gradeAt 7 = .ok (.iload_n 2, 1) := by decide +kernel
theorem dX9_gradeAt_8 : decode cX9_gradeAt 8 = .ok (.imul, 1) := by decide +kernel
theorem dX9_gradeAt_9 : decode cX9_gradeAt 9 = .ok (.ishr, 1) := by decide +kernel
theorem dX9_gradeAt_10 : decode cX9_gradeAt 10 = .ok (.iconst 3, 1) := by decide +kernel
theorem dX9_gradeAt_11 : decode cX9_gradeAt 11 = .ok (.iand, 1) := by decide +kernel
theorem dX9_gradeAt_12 : decode cX9_gradeAt 12 = .ok (.ireturn, 1) := by decide +kernel
theorem dX9_cut_0 : decode cX9_cut 0 = .ok (.aload_n 0, 1) := by decide +kernel
theorem dX9_cut_1 : decode cX9_cut 1 = .ok (.iconst 0, 1) := by decide +kernel
theorem dX9_cut_2 : decode cX9_cut 2 = .ok (.putfield 77, 3) := by decide +kernel
theorem dX9_cut_5 : decode cX9_cut 5 = .ok (.aload_n 0, 1) := by decide +kernel
theorem dX9_cut_6 : decode cX9_cut 6 = .ok (.iload_n 1, 1) := by decide +kernel
theorem dX9_cut_7 : decode cX9_cut 7 = .ok (.invokevirtual 156, 3) := by decide +kernel
theorem dX9_cut_10 : decode cX9_cut 10 = .ok (.ifCond .ne 5, 3) := by decide +kernel
theorem dX9_cut_13 : decode cX9_cut 13 = .ok (.iconst (-1), 1) := by decide +kernel
theorem dX9_cut_14 : decode cX9_cut 14 = .ok (.ireturn, 1) := by decide +kernel
theorem dX9_cut_15 : decode cX9_cut 15 = .ok (.aload_n 0, 1) := by decide +kernel
theorem dX9_cut_16 : decode cX9_cut 16 = .ok (.iload_n 1, 1) := by decide +kernel
theorem dX9_cut_17 : decode cX9_cut 17 = .ok (.aload_n 0, 1) := by decide +kernel
theorem dX9_cut_18 : decode cX9_cut 18 = .ok (.getfield 50, 3) := by decide +kernel
theorem dX9_cut_21 : decode cX9_cut 21 = .ok (.bipush 6, 2) := by decide +kernel
theorem dX9_cut_23 : decode cX9_cut 23 = .ok (.iaload, 1) := by decide +kernel
theorem dX9_cut_24 : decode cX9_cut 24 = .ok (.invokevirtual 159, 3) := by decide +kernel
theorem dX9_cut_27 : decode cX9_cut 27 = .ok (.iconst 0, 1) := by decide +kernel
theorem dX9_cut_28 : decode cX9_cut 28 = .ok (.istore_n 2, 1) := by decide +kernel
theorem dX9_cut_29 : decode cX9_cut 29 = .ok (.iload_n 2, 1) := by decide +kernel
theorem dX9_cut_30 : decode cX9_cut 30 = .ok (.aload_n 0, 1) := by decide +kernel
theorem dX9_cut_31 : decode cX9_cut 31 = .ok (.getfield 144, 3) := by decide +kernel
theorem dX9_cut_34 : decode cX9_cut 34 = .ok (.if_icmp .ge 35, 3) := by decide +kernel
theorem dX9_cut_37 : decode cX9_cut 37 = .ok (.aload_n 0, 1) := by decide +kernel
theorem dX9_cut_38 : decode cX9_cut 38 = .ok (.getfield 60, 3) := by decide +kernel
theorem dX9_cut_41 : decode cX9_cut 41 = .ok (.iload_n 2, 1) := by decide +kernel
theorem dX9_cut_42 : decode cX9_cut 42 = .ok (.iaload, 1) := by decide +kernel
theorem dX9_cut_43 : decode cX9_cut 43 = .ok (.ifCond .le 20, 3) := by decide +kernel
theorem dX9_cut_46 : decode cX9_cut 46 = .ok (.aload_n 0, 1) := by decide +kernel
theorem dX9_cut_47 : decode cX9_cut 47 = .ok (.getfield 22, 3) := by decide +kernel
theorem dX9_cut_50 : decode cX9_cut 50 = .ok (.iload_n 2, 1) := by decide +kernel
theorem dX9_cut_51 : decode cX9_cut 51 = .ok (.iaload, 1) := by decide +kernel
theorem dX9_cut_52 : decode cX9_cut 52 = .ok (.aload_n 0, 1) := by decide +kernel
theorem dX9_cut_53 : decode cX9_cut 53 = .ok (.getfield 60, 3) := by decide +kernel
theorem dX9_cut_56 : decode cX9_cut 56 = .ok (.iload_n 2, 1) := by decide +kernel
theorem dX9_cut_57 : decode cX9_cut 57 = .ok (.iaload, 1) := by decide +kernel
theorem dX9_cut_58 : decode cX9_cut 58 = .ok (.if_icmp .ge 5, 3) := by decide +kernel
theorem dX9_cut_61 : decode cX9_cut 61 = .ok (.iconst (-1), 1) := by decide +kernel
theorem dX9_cut_62 : decode cX9_cut 62 = .ok (.ireturn, 1) := by decide +kernel
theorem dX9_cut_63 : decode cX9_cut 63 = .ok (.iinc 2 1, 3) := by decide +kernel
theorem dX9_cut_66 : decode cX9_cut 66 = .ok (.goto (-37), 3) := by decide +kernel
theorem dX9_cut_69 : decode cX9_cut 69 = .ok (.iconst 0, 1) := by decide +kernel
theorem dX9_cut_70 : decode cX9_cut 70 = .ok (.istore_n 2, 1) := by decide +kernel
theorem dX9_cut_71 : decode cX9_cut 71 = .ok (.iload_n 2, 1) := by decide +kernel
theorem dX9_cut_72 : decode cX9_cut 72 = .ok (.aload_n 0, 1) := by decide +kernel
theorem dX9_cut_73 : decode cX9_cut 73 = .ok (.getfield 144, 3) := by decide +kernel
theorem dX9_cut_76 : decode cX9_cut 76 = .ok (.if_icmp .ge 24, 3) := by decide +kernel
theorem dX9_cut_79 : decode cX9_cut 79 = .ok (.aload_n 0, 1) := by decide +kernel
theorem dX9_cut_80 : decode cX9_cut 80 = .ok (.getfield 22, 3) := by decide +kernel
theorem dX9_cut_83 : decode cX9_cut 83 = .ok (.iload_n 2, 1) := by decide +kernel
theorem dX9_cut_84 : decode cX9_cut 84 = .ok (.dup2, 1) := by decide +kernel
theorem dX9_cut_85 : decode cX9_cut 85 = .ok (.iaload, 1) := by decide +kernel
theorem dX9_cut_86 : decode cX9_cut 86 = .ok (.aload_n 0, 1) := by decide +kernel
theorem dX9_cut_87 : decode cX9_cut 87 = .ok (.getfield 60, 3) := by decide +kernel
theorem dX9_cut_90 : decode cX9_cut 90 = .ok (.iload_n 2, 1) := by decide +kernel
theorem dX9_cut_91 : decode cX9_cut 91 = .ok (.iaload, 1) := by decide +kernel
theorem dX9_cut_92 : decode cX9_cut 92 = .ok (.isub, 1) := by decide +kernel
theorem dX9_cut_93 : decode cX9_cut 93 = .ok (.iastore, 1) := by decide +kernel
theorem dX9_cut_94 : decode cX9_cut 94 = .ok (.iinc 2 1, 3) := by decide +kernel
theorem dX9_cut_97 : decode cX9_cut 97 = .ok (.goto (-26), 3) := by decide +kernel
theorem dX9_cut_100 : decode cX9_cut 100 = .ok (.aload_n 0, 1) := by decide +kernel
theorem dX9_cut_101 : decode cX9_cut 101 = .ok (.dup, 1) := by decide +kernel
theorem dX9_cut_102 : decode cX9_cut 102 = .ok (.getfield 198, 3) := by decide +kernel
theorem dX9_cut_105 : decode cX9_cut 105 = .ok (.aload_n 0, 1) := by decide +kernel
theorem dX9_cut_106 : decode cX9_cut 106 = .ok (.getfield 50, 3) := by decide +kernel
theorem dX9_cut_109 : decode cX9_cut 109 = .ok (.bipush 6, 2) := by decide +kernel
theorem dX9_cut_111 : decode cX9_cut 111 = .ok (.iaload, 1) := by decide +kernel
theorem dX9_cut_112 : decode cX9_cut 112 = .ok (.iadd, 1) := by decide +kernel
theorem dX9_cut_113 : decode cX9_cut 113 = .ok (.putfield 198, 3) := by decide +kernel
theorem dX9_cut_116 : decode cX9_cut 116 = .ok (.aload_n 0, 1) := by decide +kernel
theorem dX9_cut_117 : decode cX9_cut 117 = .ok (.iload_n 1, 1) := by decide +kernel
theorem dX9_cut_118 : decode cX9_cut 118 = .ok (.aload_n 0, 1) := by decide +kernel
theorem dX9_cut_119 : decode cX9_cut 119 = .ok (.getfield 31, 3) := by decide +kernel
theorem dX9_cut_122 : decode cX9_cut 122 = .ok (.iload_n 1, 1) := by decide +kernel
theorem dX9_cut_123 : decode cX9_cut 123 = .ok (.iaload, 1) := by decide +kernel
theorem dX9_cut_124 : decode cX9_cut 124 = .ok (.invokevirtual 201, 3) := by decide +kernel
theorem dX9_cut_127 : decode cX9_cut 127 = .ok (.istore_n 2, 1) := by decide +kernel
theorem dX9_cut_128 : decode cX9_cut 128 = .ok (.aload_n 0, 1) := by decide +kernel
theorem dX9_cut_129 : decode cX9_cut 129 = .ok (.iload_n 1, 1) := by decide +kernel
theorem dX9_cut_130 : decode cX9_cut 130 = .ok (.aload_n 0, 1) := by decide +kernel
theorem dX9_cut_131 : decode cX9_cut 131 = .ok (.getfield 13, 3) := by decide +kernel
theorem dX9_cut_134 : decode cX9_cut 134 = .ok (.iload_n 2, 1) := by decide +kernel
theorem dX9_cut_135 : decode cX9_cut 135 = .ok (.iaload, 1) := by decide +kernel
theorem dX9_cut_136 : decode cX9_cut 136 = .ok (.invokevirtual 195, 3) := by decide +kernel
theorem dX9_cut_139 : decode cX9_cut 139 = .ok (.aload_n 0, 1) := by decide +kernel
theorem dX9_cut_140 : decode cX9_cut 140 = .ok (.getfield 31, 3) := by decide +kernel
theorem dX9_cut_143 : decode cX9_cut 143 = .ok (.iload_n 1, 1) := by decide +kernel
theorem dX9_cut_144 : decode cX9_cut 144 = .ok (.dup2, 1) := by decide +kernel
theorem dX9_cut_145 : decode cX9_cut 145 = .ok (.iaload, 1) := by decide +kernel
theorem dX9_cut_146 : decode cX9_cut 146 = .ok (.iconst 1, 1) := by decide +kernel
theorem dX9_cut_147 : decode cX9_cut 147 = .ok (.iadd, 1) := by decide +kernel
theorem dX9_cut_148 : decode cX9_cut 148 = .ok (.iastore, 1) := by decide +kernel
theorem dX9_cut_149 : decode cX9_cut 149 = .ok (.aload_n 0, 1) := by decide +kernel
theorem dX9_cut_150 : decode cX9_cut 150 = .ok (.getfield 34, 3) := by decide +kernel
theorem dX9_cut_153 : decode cX9_cut 153 = .ok (.iload_n 1, 1) := by decide +kernel
theorem dX9_cut_154 : decode cX9_cut 154 = .ok (.aload_n 0, 1) := by decide +kernel
theorem dX9_cut_155 : decode cX9_cut 155 = .ok (.getfield 31, 3) := by decide +kernel
theorem dX9_cut_158 : decode cX9_cut 158 = .ok (.iload_n 1, 1) := by decide +kernel
theorem dX9_cut_159 : decode cX9_cut 159 = .ok (.iaload, 1) := by decide +kernel
theorem dX9_cut_160 : decode cX9_cut 160 = .ok (.aload_n 0, 1) := by decide +kernel
theorem dX9_cut_161 : decode cX9_cut 161 = .ok (.getfield 25, 3) := by decide +kernel
theorem dX9_cut_164 : decode cX9_cut 164 = .ok (.iload_n 1, 1) := by decide +kernel
theorem dX9_cut_165 : decode cX9_cut 165 = .ok (.iaload, 1) := by decide +kernel
theorem dX9_cut_166 : decode cX9_cut 166 = .ok (.if_icmp .ne 7, 3) := by decide +kernel
theorem dX9_cut_169 : decode cX9_cut 169 = .ok (.iconst 1, 1) := by decide +kernel
theorem dX9_cut_170 : decode cX9_cut 170 = .ok (.goto 4, 3) := by decide +kernel
theorem dX9_cut_173 : decode cX9_cut 173 = .ok (.iconst 0, 1) := by decide +kernel
theorem dX9_cut_174 : decode cX9_cut 174 = .ok (.bastore, 1) := by decide +kernel
theorem dX9_cut_175 : decode cX9_cut 175 = .ok (.iload_n 2, 1) := by decide +kernel
theorem dX9_cut_176 : decode cX9_cut 176 = .ok (.ireturn, 1) := by decide +kernel
theorem dX9_offerOf_0 : decode cX9_offerOf 0 = .ok (.iload_n 1, 1) := by decide +kernel
theorem dX9_offerOf_1 : decode cX9_offerOf 1 = .ok (.ifCond .ge 13, 3) := by decide +kernel
theorem dX9_offerOf_4 : decode cX9_offerOf 4 = .ok (.aload_n 0, 1) := by decide +kernel
theorem dX9_offerOf_5 : decode cX9_offerOf 5 = .ok (.getfield 50, 3) := by decide +kernel
theorem dX9_offerOf_8 : decode cX9_offerOf 8 = .ok (.bipush 7, 2) := by decide +kernel
theorem dX9_offerOf_10 : decode cX9_offerOf 10 = .ok (.iaload, 1) := by decide +kernel
theorem dX9_offerOf_11 : decode cX9_offerOf 11 = .ok (.goto 12, 3) := by decide +kernel
theorem dX9_offerOf_14 : decode cX9_offerOf 14 = .ok (.aload_n 0, 1) := by decide +kernel
theorem dX9_offerOf_15 : decode cX9_offerOf 15 = .ok (.getfield 50, 3) := by decide +kernel
theorem dX9_offerOf_18 : decode cX9_offerOf 18 = .ok (.bipush 8, 2) := by decide +kernel
theorem dX9_offerOf_20 : decode cX9_offerOf 20 = .ok (.iload_n 1, 1) := by decide +kernel
theorem dX9_offerOf_21 : decode cX9_offerOf 21 = .ok (.iadd, 1) := by decide +kernel
theorem dX9_offerOf_22 : decode cX9_offerOf 22 = .ok (.iaload, 1) := by decide +kernel
theorem dX9_offerOf_23 : decode cX9_offerOf 23 = .ok (.ireturn, 1) := by decide +kernel
theorem dX9_lastOf_0 : decode cX9_lastOf 0 = .ok (.aload_n 0, 1) := by decide +kernel
theorem dX9_lastOf_1 : decode cX9_lastOf 1 = .ok (.getfield 31, 3) := by decide +kernel
theorem dX9_lastOf_4 : decode cX9_lastOf 4 = .ok (.iload_n 1, 1) := by decide +kernel
theorem dX9_lastOf_5 : decode cX9_lastOf 5 = .ok (.iaload, 1) := by decide +kernel
theorem dX9_lastOf_6 : decode cX9_lastOf 6 = .ok (.ifCond .ne 7, 3) := by decide +kernel
theorem dX9_lastOf_9 : decode cX9_lastOf 9 = .ok (.iconst (-1), 1) := by decide +kernel
theorem dX9_lastOf_10 : decode cX9_lastOf 10 = .ok (.goto 16, 3) := by decide +kernel
theorem dX9_lastOf_13 : decode cX9_lastOf 13 = .ok (.aload_n 0, 1) := by decide +kernel
theorem dX9_lastOf_14 : decode cX9_lastOf 14 = .ok (.iload_n 1, 1) := by decide +kernel
theorem dX9_lastOf_15 : decode cX9_lastOf 15 = .ok (.aload_n 0, 1) := by decide +kernel
theorem dX9_lastOf_16 : decode cX9_lastOf 16 = .ok (.getfield 31, 3) := by decide +kernel
theorem dX9_lastOf_19 : decode cX9_lastOf 19 = .ok (.iload_n 1, 1) := by decide +kernel
theorem dX9_lastOf_20 : decode cX9_lastOf 20 = .ok (.iaload, 1) := by decide +kernel
theorem dX9_lastOf_21 : decode cX9_lastOf 21 = .ok (.iconst 1, 1) := by decide +kernel
theorem dX9_lastOf_22 : decode cX9_lastOf 22 = .ok (.isub, 1) := by decide +kernel
theorem dX9_lastOf_23 : decode cX9_lastOf 23 = .ok (.invokevirtual 201, 3) := by decide +kernel
theorem dX9_lastOf_26 : decode cX9_lastOf 26 = .ok (.ireturn, 1) := by decide +kernel
theorem dX9_sell_0 : decode cX9_sell 0 = .ok (.aload_n 0, 1) := by decide +kernel
theorem dX9_sell_1 : decode cX9_sell 1 = .ok (.iconst 0, 1) := by decide +kernel
theorem dX9_sell_2 : decode cX9_sell 2 = .ok (.putfield 77, 3) := by decide +kernel
theorem dX9_sell_5 : decode cX9_sell 5 = .ok (.aload_n 0, 1) := by decide +kernel
theorem dX9_sell_6 : decode cX9_sell 6 = .ok (.iload_n 1, 1) := by decide +kernel
theorem dX9_sell_7 : decode cX9_sell 7 = .ok (.invokevirtual 156, 3) := by decide +kernel
theorem dX9_sell_10 : decode cX9_sell 10 = .ok (.ifCond .ne 5, 3) := by decide +kernel
theorem dX9_sell_13 : decode cX9_sell 13 = .ok (.iconst (-1), 1) := by decide +kernel
theorem dX9_sell_14 : decode cX9_sell 14 = .ok (.ireturn, 1) := by decide +kernel
theorem dX9_sell_15 : decode cX9_sell 15 = .ok (.aload_n 0, 1) := by decide +kernel
theorem dX9_sell_16 : decode cX9_sell 16 = .ok (.getfield 25, 3) := by decide +kernel
theorem dX9_sell_19 : decode cX9_sell 19 = .ok (.iload_n 1, 1) := by decide +kernel
theorem dX9_sell_20 : decode cX9_sell 20 = .ok (.iaload, 1) := by decide +kernel
theorem dX9_sell_21 : decode cX9_sell 21 = .ok (.aload_n 0, 1) := by decide +kernel
theorem dX9_sell_22 : decode cX9_sell 22 = .ok (.getfield 31, 3) := by decide +kernel
theorem dX9_sell_25 : decode cX9_sell 25 = .ok (.iload_n 1, 1) := by decide +kernel
theorem dX9_sell_26 : decode cX9_sell 26 = .ok (.iaload, 1) := by decide +kernel
theorem dX9_sell_27 : decode cX9_sell 27 = .ok (.isub, 1) := by decide +kernel
theorem dX9_sell_28 : decode cX9_sell 28 = .ok (.aload_n 0, 1) := by decide +kernel
theorem dX9_sell_29 : decode cX9_sell 29 = .ok (.aload_n 0, 1) := by decide +kernel
theorem dX9_sell_30 : decode cX9_sell 30 = .ok (.iload_n 1, 1) := by decide +kernel
theorem dX9_sell_31 : decode cX9_sell 31 = .ok (.invokevirtual 204, 3) := by decide +kernel
theorem dX9_sell_34 : decode cX9_sell 34 = .ok (.invokevirtual 207, 3) := by decide +kernel
theorem dX9_sell_37 : decode cX9_sell 37 = .ok (.imul, 1) := by decide +kernel
theorem dX9_sell_38 : decode cX9_sell 38 = .ok (.istore_n 2, 1) := by decide +kernel
theorem dX9_sell_39 : decode cX9_sell 39 = .ok (.aload_n 0, 1) := by decide +kernel
theorem dX9_sell_40 : decode cX9_sell 40 = .ok (.dup, 1) := by decide +kernel
theorem dX9_sell_41 : decode cX9_sell 41 = .ok (.getfield 198, 3) := by decide +kernel
theorem dX9_sell_44 : decode cX9_sell 44 = .ok (.iload_n 2, 1) := by decide +kernel
theorem dX9_sell_45 : decode cX9_sell 45 = .ok (.isub, 1) := by decide +kernel
theorem dX9_sell_46 : decode cX9_sell 46 = .ok (.putfield 198, 3) := by decide +kernel
theorem dX9_sell_49 : decode cX9_sell 49 = .ok (.aload_n 0, 1) := by decide +kernel
theorem dX9_sell_50 : decode cX9_sell 50 = .ok (.iload_n 1, 1) := by decide +kernel
theorem dX9_sell_51 : decode cX9_sell 51 = .ok (.iload_n 2, 1) := by decide +kernel
theorem dX9_sell_52 : decode cX9_sell 52 = .ok (.invokevirtual 195, 3) := by decide +kernel
theorem dX9_sell_55 : decode cX9_sell 55 = .ok (.aload_n 0, 1) := by decide +kernel
theorem dX9_sell_56 : decode cX9_sell 56 = .ok (.getfield 34, 3) := by decide +kernel
theorem dX9_sell_59 : decode cX9_sell 59 = .ok (.iload_n 1, 1) := by decide +kernel
theorem dX9_sell_60 : decode cX9_sell 60 = .ok (.iconst 1, 1) := by decide +kernel
theorem dX9_sell_61 : decode cX9_sell 61 = .ok (.bastore, 1) := by decide +kernel
theorem dX9_sell_62 : decode cX9_sell 62 = .ok (.iload_n 2, 1) := by decide +kernel
theorem dX9_sell_63 : decode cX9_sell 63 = .ok (.ireturn, 1) := by decide +kernel
theorem dX9_fails_0 : decode cX9_fails 0 = .ok (.aload_n 0, 1) := by decide +kernel
theorem dX9_fails_1 : decode cX9_fails 1 = .ok (.iload_n 1, 1) := by decide +kernel
theorem dX9_fails_2 : decode cX9_fails 2 = .ok (.putfield 77, 3) := by decide +kernel
theorem dX9_fails_5 : decode cX9_fails 5 = .ok (.iconst 0, 1) := by decide +kernel
theorem dX9_fails_6 : decode cX9_fails 6 = .ok (.ireturn, 1) := by decide +kernel
theorem dX9_look_0 : decode cX9_look 0 = .ok (.aload_n 0, 1) := by decide +kernel
theorem dX9_look_1 : decode cX9_look 1 = .ok (.iconst 0, 1) := by decide +kernel
theorem dX9_look_2 : decode cX9_look 2 = .ok (.putfield 77, 3) := by decide +kernel
theorem dX9_look_5 : decode cX9_look 5 = .ok (.aload_n 0, 1) := by decide +kernel
theorem dX9_look_6 : decode cX9_look 6 = .ok (.iload_n 1, 1) := by decide +kernel
theorem dX9_look_7 : decode cX9_look 7 = .ok (.invokevirtual 150, 3) := by decide +kernel
theorem dX9_look_10 : decode cX9_look 10 = .ok (.ifCond .ne 9, 3) := by decide +kernel
theorem dX9_look_13 : decode cX9_look 13 = .ok (.aload_n 0, 1) := by decide +kernel
theorem dX9_look_14 : decode cX9_look 14 = .ok (.iconst 1, 1) := by decide +kernel
theorem dX9_look_15 : decode cX9_look 15 = .ok (.invokevirtual 210, 3) := by decide +kernel
theorem dX9_look_18 : decode cX9_look 18 = .ok (.ireturn, 1) := by decide +kernel
theorem dX9_look_19 : decode cX9_look 19 = .ok (.iload_n 2, 1) := by decide +kernel
theorem dX9_look_20 : decode cX9_look 20 = .ok (.tableswitch 68 0 3 #[32, 39, 46, 61], 32) := by decide +kernel
theorem dX9_look_52 : decode cX9_look 52 = .ok (.aload_n 0, 1) := by decide +kernel
theorem dX9_look_53 : decode cX9_look 53 = .ok (.getfield 25, 3) := by decide +kernel
theorem dX9_look_56 : decode cX9_look 56 = .ok (.iload_n 1, 1) := by decide +kernel
theorem dX9_look_57 : decode cX9_look 57 = .ok (.iaload, 1) := by decide +kernel
theorem dX9_look_58 : decode cX9_look 58 = .ok (.ireturn, 1) := by decide +kernel
theorem dX9_look_59 : decode cX9_look 59 = .ok (.aload_n 0, 1) := by decide +kernel
theorem dX9_look_60 : decode cX9_look 60 = .ok (.getfield 31, 3) := by decide +kernel
theorem dX9_look_63 : decode cX9_look 63 = .ok (.iload_n 1, 1) := by decide +kernel
theorem dX9_look_64 : decode cX9_look 64 = .ok (.iaload, 1) := by decide +kernel
theorem dX9_look_65 : decode cX9_look 65 = .ok (.ireturn, 1) := by decide +kernel
theorem dX9_look_66 : decode cX9_look 66 = .ok (.aload_n 0, 1) := by decide +kernel
theorem dX9_look_67 : decode cX9_look 67 = .ok (.getfield 34, 3) := by decide +kernel
theorem dX9_look_70 : decode cX9_look 70 = .ok (.iload_n 1, 1) := by decide +kernel
theorem dX9_look_71 : decode cX9_look 71 = .ok (.baload, 1) := by decide +kernel
theorem dX9_look_72 : decode cX9_look 72 = .ok (.ifCond .eq 7, 3) := by decide +kernel
theorem dX9_look_75 : decode cX9_look 75 = .ok (.iconst 1, 1) := by decide +kernel
theorem dX9_look_76 : decode cX9_look 76 = .ok (.goto 4, 3) := by decide +kernel
theorem dX9_look_79 : decode cX9_look 79 = .ok (.iconst 0, 1) := by decide +kernel
theorem dX9_look_80 : decode cX9_look 80 = .ok (.ireturn, 1) := by decide +kernel
theorem dX9_look_81 : decode cX9_look 81 = .ok (.aload_n 0, 1) := by decide +kernel
theorem dX9_look_82 : decode cX9_look 82 = .ok (.getfield 41, 3) := by decide +kernel
theorem dX9_look_85 : decode cX9_look 85 = .ok (.iload_n 1, 1) := by decide +kernel
theorem dX9_look_86 : decode cX9_look 86 = .ok (.iaload, 1) := by decide +kernel
theorem dX9_look_87 : decode cX9_look 87 = .ok (.ireturn, 1) := by decide +kernel
theorem dX9_look_88 : decode cX9_look 88 = .ok (.aload_n 0, 1) := by decide +kernel
theorem dX9_look_89 : decode cX9_look 89 = .ok (.iconst 2, 1) := by decide +kernel
theorem dX9_look_90 : decode cX9_look 90 = .ok (.invokevirtual 210, 3) := by decide +kernel
theorem dX9_look_93 : decode cX9_look 93 = .ok (.ireturn, 1) := by decide +kernel
theorem dX9_parts_0 : decode cX9_parts 0 = .ok (.aload_n 0, 1) := by decide +kernel
theorem dX9_parts_1 : decode cX9_parts 1 = .ok (.iconst 0, 1) := by decide +kernel
theorem dX9_parts_2 : decode cX9_parts 2 = .ok (.putfield 77, 3) := by decide +kernel
theorem dX9_parts_5 : decode cX9_parts 5 = .ok (.aload_n 0, 1) := by decide +kernel
theorem dX9_parts_6 : decode cX9_parts 6 = .ok (.iload_n 1, 1) := by decide +kernel
theorem dX9_parts_7 : decode cX9_parts 7 = .ok (.invokevirtual 150, 3) := by decide +kernel
theorem dX9_parts_10 : decode cX9_parts 10 = .ok (.ifCond .eq 25, 3) := by decide +kernel
theorem dX9_parts_13 : decode cX9_parts 13 = .ok (.aload_n 0, 1) := by decide +kernel
theorem dX9_parts_14 : decode cX9_parts 14 = .ok (.iload_n 2, 1) := by decide +kernel
theorem dX9_parts_15 : decode cX9_parts 15 = .ok (.invokevirtual 153, 3) := by decide +kernel
theorem dX9_parts_18 : decode cX9_parts 18 = .ok (.ifCond .eq 17, 3) := by decide +kernel
theorem dX9_parts_21 : decode cX9_parts 21 = .ok (.aload_n 0, 1) := by decide +kernel
theorem dX9_parts_22 : decode cX9_parts 22 = .ok (.getfield 38, 3) := by decide +kernel
theorem dX9_parts_25 : decode cX9_parts 25 = .ok (.bipush 8, 2) := by decide +kernel
theorem dX9_parts_27 : decode cX9_parts 27 = .ok (.iload_n 1, 1) := by decide +kernel
theorem dX9_parts_28 : decode cX9_parts 28 = .ok (.imul, 1) := by decide +kernel
theorem dX9_parts_29 : decode cX9_parts 29 = .ok (.iload_n 2, 1) := by decide +kernel
theorem dX9_parts_30 : decode cX9_parts 30 = .ok (.iadd, 1) := by decide +kernel
theorem dX9_parts_31 : decode cX9_parts 31 = .ok (.iaload, 1) := by decide +kernel
theorem dX9_parts_32 : decode cX9_parts 32 = .ok (.goto 4, 3) := by decide +kernel
theorem dX9_parts_35 : decode cX9_parts 35 = .ok (.iconst (-1), 1) := by decide +kernel
theorem dX9_parts_36 : decode cX9_parts 36 = .ok (.ireturn, 1) := by decide +kernel
theorem dX9_purse_0 : decode cX9_purse 0 = .ok (.aload_n 0, 1) := by decide +kernel
theorem dX9_purse_1 : decode cX9_purse 1 = .ok (.iconst 0, 1) := by decide +kernel
theorem dX9_purse_2 : decode cX9_purse 2 = .ok (.putfield 77, 3) := by decide +kernel
theorem dX9_purse_5 : decode cX9_purse 5 = .ok (.aload_n 0, 1) := by decide +kernel
theorem dX9_purse_6 : decode cX9_purse 6 = .ok (.iload_n 1, 1) := by decide +kernel
theorem dX9_purse_7 : decode cX9_purse 7 = .ok (.invokevirtual 153, 3) := by decide +kernel
theorem dX9_purse_10 : decode cX9_purse 10 = .ok (.ifCond .eq 12, 3) := by decide +kernel
theorem dX9_purse_13 : decode cX9_purse 13 = .ok (.aload_n 0, 1) := by decide +kernel
theorem dX9_purse_14 : decode cX9_purse 14 = .ok (.getfield 22, 3) := by decide +kernel
theorem dX9_purse_17 : decode cX9_purse 17 = .ok (.iload_n 1, 1) := by decide +kernel
theorem dX9_purse_18 : decode cX9_purse 18 = .ok (.iaload, 1) := by decide +kernel
theorem dX9_purse_19 : decode cX9_purse 19 = .ok (.goto 4, 3) := by decide +kernel
theorem dX9_purse_22 : decode cX9_purse 22 = .ok (.iconst (-1), 1) := by decide +kernel
theorem dX9_purse_23 : decode cX9_purse 23 = .ok (.ireturn, 1) := by decide +kernel
theorem dX9_chances_0 : decode cX9_chances 0 = .ok (.lconst 0, 1) := by decide +kernel
theorem dX9_chances_1 : decode cX9_chances 1 = .ok (.lstore_n 2, 1) := by decide +kernel
theorem dX9_chances_2 : decode cX9_chances 2 = .ok (.iconst 0, 1) := by decide +kernel
theorem dX9_chances_3 : decode cX9_chances 3 = .ok (.istore 4, 2) := by decide +kernel
theorem dX9_chances_5 : decode cX9_chances 5 = .ok (.iload 4, 2) := by decide +kernel
theorem dX9_chances_7 : decode cX9_chances 7 = .ok (.aload_n 0, 1) := by decide +kernel
theorem dX9_chances_8 : decode cX9_chances 8 = .ok (.getfield 138, 3) := by decide +kernel
theorem dX9_chances_11 : decode cX9_chances 11 = .ok (.if_icmp .ge 82, 3) := by decide +kernel
theorem dX9_chances_14 : decode cX9_chances 14 = .ok (.aload_n 0, 1) := by decide +kernel
theorem dX9_chances_15 : decode cX9_chances 15 = .ok (.getfield 66, 3) := by decide +kernel
theorem dX9_chances_18 : decode cX9_chances 18 = .ok (.iload 4, 2) := by decide +kernel
theorem dX9_chances_20 : decode cX9_chances 20 = .ok (.aload_n 0, 1) := by decide +kernel
theorem dX9_chances_21 : decode cX9_chances 21 = .ok (.getfield 16, 3) := by decide +kernel
theorem dX9_chances_24 : decode cX9_chances 24 = .ok (.iload 4, 2) := by decide +kernel
theorem dX9_chances_26 : decode cX9_chances 26 = .ok (.iaload, 1) := by decide +kernel
theorem dX9_chances_27 : decode cX9_chances 27 = .ok (.i2l, 1) := by decide +kernel
theorem dX9_chances_28 : decode cX9_chances 28 = .ok (.lastore, 1) := by decide +kernel
theorem dX9_chances_29 : decode cX9_chances 29 = .ok (.iconst 0, 1) := by decide +kernel
theorem dX9_chances_30 : decode cX9_chances 30 = .ok (.istore 5, 2) := by decide +kernel
theorem dX9_chances_32 : decode cX9_chances 32 = .ok (.iload 5, 2) := by decide +kernel
theorem dX9_chances_34 : decode cX9_chances 34 = .ok (.aload_n 0, 1) := by decide +kernel
theorem dX9_chances_35 : decode cX9_chances 35 = .ok (.getfield 31, 3) := by decide +kernel
theorem dX9_chances_38 : decode cX9_chances 38 = .ok (.iload_n 1, 1) := by decide +kernel
theorem dX9_chances_39 : decode cX9_chances 39 = .ok (.iaload, 1) := by decide +kernel
theorem dX9_chances_40 : decode cX9_chances 40 = .ok (.if_icmp .ge 37, 3) := by decide +kernel
theorem dX9_chances_43 : decode cX9_chances 43 = .ok (.aload_n 0, 1) := by decide +kernel
theorem dX9_chances_44 : decode cX9_chances 44 = .ok (.getfield 66, 3) := by decide +kernel
theorem dX9_chances_47 : decode cX9_chances 47 = .ok (.iload 4, 2) := by decide +kernel
theorem dX9_chances_49 : decode cX9_chances 49 = .ok (.dup2, 1) := by decide +kernel
theorem dX9_chances_50 : decode cX9_chances 50 = .ok (.laload, 1) := by decide +kernel
theorem dX9_chances_51 : decode cX9_chances 51 = .ok (.aload_n 0, 1) := by decide +kernel
theorem dX9_chances_52 : decode cX9_chances 52 = .ok (.getfield 19, 3) := by decide +kernel
theorem dX9_chances_55 : decode cX9_chances 55 = .ok (.iconst 4, 1) := by decide +kernel
theorem dX9_chances_56 : decode cX9_chances 56 = .ok (.iload 4, 2) := by decide +kernel
theorem dX9_chances_58 : decode cX9_chances 58 = .ok (.imul, 1) := by decide +kernel
theorem dX9_chances_59 : decode cX9_chances 59 = .ok (.aload_n 0, 1) := by decide +kernel
theorem dX9_chances_60 : decode cX9_chances 60 = .ok (.iload_n 1, 1) := by decide +kernel
theorem dX9_chances_61 : decode cX9_chances 61 = .ok (.iload 5, 2) := by decide +kernel
theorem dX9_chances_63 : decode cX9_chances 63 = .ok (.invokevirtual 201, 3) := by decide +kernel
theorem dX9_chances_66 : decode cX9_chances 66 = .ok (.iadd, 1) := by decide +kernel
theorem dX9_chances_67 : decode cX9_chances 67 = .ok (.iaload, 1) := by decide +kernel
theorem dX9_chances_68 : decode cX9_chances 68 = .ok (.i2l, 1) := by decide +kernel
theorem dX9_chances_69 : decode cX9_chances 69 = .ok (.lmul, 1) := by decide +kernel
theorem dX9_chances_70 : decode cX9_chances 70 = .ok (.lastore, 1) := by decide +kernel
theorem dX9_chances_71 : decode cX9_chances 71 = .ok (.iinc 5 1, 3) := by decide +kernel
theorem dX9_chances_74 : decode cX9_chances 74 = .ok (.goto (-42), 3) := by decide +kernel
theorem dX9_chances_77 : decode cX9_chances 77 = .ok (.lload_n 2, 1) := by decide +kernel
theorem dX9_chances_78 : decode cX9_chances 78 = .ok (.aload_n 0, 1) := by decide +kernel
theorem dX9_chances_79 : decode cX9_chances 79 = .ok (.getfield 66, 3) := by decide +kernel
theorem dX9_chances_82 : decode cX9_chances 82 = .ok (.iload 4, 2) := by decide +kernel
theorem dX9_chances_84 : decode cX9_chances 84 = .ok (.laload, 1) := by decide +kernel
theorem dX9_chances_85 : decode cX9_chances 85 = .ok (.ladd, 1) := by decide +kernel
theorem dX9_chances_86 : decode cX9_chances 86 = .ok (.lstore_n 2, 1) := by decide +kernel
theorem dX9_chances_87 : decode cX9_chances 87 = .ok (.iinc 4 1, 3) := by decide +kernel
theorem dX9_chances_90 : decode cX9_chances 90 = .ok (.goto (-85), 3) := by decide +kernel
theorem dX9_chances_93 : decode cX9_chances 93 = .ok (.lload_n 2, 1) := by decide +kernel
theorem dX9_chances_94 : decode cX9_chances 94 = .ok (.lreturn, 1) := by decide +kernel
theorem dX9_divisor_0 : decode cX9_divisor 0 = .ok (.lload_n 0, 1) := by decide +kernel
theorem dX9_divisor_1 : decode cX9_divisor 1 = .ok (.lstore 4, 2) := by decide +kernel
theorem dX9_divisor_3 : decode cX9_divisor 3 = .ok (.lload_n 2, 1) := by decide +kernel
theorem dX9_divisor_4 : decode cX9_divisor 4 = .ok (.lstore 6, 2) := by decide +kernel
theorem dX9_divisor_6 : decode cX9_divisor 6 = .ok (.lload 6, 2) := by decide +kernel
theorem dX9_divisor_8 : decode cX9_divisor 8 = .ok (.lconst 0, 1) := by decide +kernel
theorem dX9_divisor_9 : decode cX9_divisor 9 = .ok (.lcmp, 1) := by decide +kernel
theorem dX9_divisor_10 : decode cX9_divisor 10 = .ok (.ifCond .eq 21, 3) := by decide +kernel
theorem dX9_divisor_13 : decode cX9_divisor 13 = .ok (.lload 4, 2) := by decide +kernel
theorem dX9_divisor_15 : decode cX9_divisor 15 = .ok (.lload 6, 2) := by decide +kernel
theorem dX9_divisor_17 : decode cX9_divisor 17 = .ok (.lrem, 1) := by decide +kernel
theorem dX9_divisor_18 : decode cX9_divisor 18 = .ok (.lstore 8, 2) := by decide +kernel
theorem dX9_divisor_20 : decode cX9_divisor 20 = .ok (.lload 6, 2) := by decide +kernel
theorem dX9_divisor_22 : decode cX9_divisor 22 = .ok (.lstore 4, 2) := by decide +kernel
theorem dX9_divisor_24 : decode cX9_divisor 24 = .ok (.lload 8, 2) := by decide +kernel
theorem dX9_divisor_26 : decode cX9_divisor 26 = .ok (.lstore 6, 2) := by decide +kernel
theorem dX9_divisor_28 : decode cX9_divisor 28 = .ok (.goto (-22), 3) := by decide +kernel
theorem dX9_divisor_31 : decode cX9_divisor 31 = .ok (.lload 4, 2) := by decide +kernel
theorem dX9_divisor_33 : decode cX9_divisor 33 = .ok (.lconst 1, 1) := by decide +kernel
theorem dX9_divisor_34 : decode cX9_divisor 34 = .ok (.lcmp, 1) := by decide +kernel
theorem dX9_divisor_35 : decode cX9_divisor 35 = .ok (.ifCond .ge 7, 3) := by decide +kernel
theorem dX9_divisor_38 : decode cX9_divisor 38 = .ok (.lconst 1, 1) := by decide +kernel
theorem dX9_divisor_39 : decode cX9_divisor 39 = .ok (.goto 5, 3) := by decide +kernel
theorem dX9_divisor_42 : decode cX9_divisor 42 = .ok (.lload 4, 2) := by decide +kernel
theorem dX9_divisor_44 : decode cX9_divisor 44 = .ok (.lreturn, 1) := by decide +kernel
theorem dX9_least_0 : decode cX9_least 0 = .ok (.lload_n 0, 1) := by decide +kernel
theorem dX9_least_1 : decode cX9_least 1 = .ok (.lload_n 2, 1) := by decide +kernel
theorem dX9_least_2 : decode cX9_least 2 = .ok (.invokestatic 213, 3) := by decide +kernel
theorem dX9_least_5 : decode cX9_least 5 = .ok (.lstore 5, 2) := by decide +kernel
theorem dX9_least_7 : decode cX9_least 7 = .ok (.iload 4, 2) := by decide +kernel
theorem dX9_least_9 : decode cX9_least 9 = .ok (.ifCond .ne 10, 3) := by decide +kernel
theorem dX9_least_12 : decode cX9_least 12 = .ok (.lload_n 0, 1) := by decide +kernel
theorem dX9_least_13 : decode cX9_least 13 = .ok (.lload 5, 2) := by decide +kernel
theorem dX9_least_15 : decode cX9_least 15 = .ok (.ldiv, 1) := by decide +kernel
theorem dX9_least_16 : decode cX9_least 16 = .ok (.goto 7, 3) := by decide +kernel
theorem dX9_least_19 : decode cX9_least 19 = .ok (.lload_n 2, 1) := by decide +kernel
theorem dX9_least_20 : decode cX9_least 20 = .ok (.lload 5, 2) := by decide +kernel
theorem dX9_least_22 : decode cX9_least 22 = .ok (.ldiv, 1) := by decide +kernel
theorem dX9_least_23 : decode cX9_least 23 = .ok (.lreturn, 1) := by decide +kernel
theorem dX9_rest_0 : decode cX9_rest 0 = .ok (.aload_n 0, 1) := by decide +kernel
theorem dX9_rest_1 : decode cX9_rest 1 = .ok (.iconst 0, 1) := by decide +kernel
theorem dX9_rest_2 : decode cX9_rest 2 = .ok (.putfield 77, 3) := by decide +kernel
theorem dX9_rest_5 : decode cX9_rest 5 = .ok (.aload_n 0, 1) := by decide +kernel
theorem dX9_rest_6 : decode cX9_rest 6 = .ok (.iload_n 1, 1) := by decide +kernel
theorem dX9_rest_7 : decode cX9_rest 7 = .ok (.invokevirtual 156, 3) := by decide +kernel
theorem dX9_rest_10 : decode cX9_rest 10 = .ok (.ifCond .eq 12, 3) := by decide +kernel
theorem dX9_rest_13 : decode cX9_rest 13 = .ok (.iload_n 2, 1) := by decide +kernel
theorem dX9_rest_14 : decode cX9_rest 14 = .ok (.ifCond .lt 8, 3) := by decide +kernel
theorem dX9_rest_17 : decode cX9_rest 17 = .ok (.iload_n 2, 1) := by decide +kernel
theorem dX9_rest_18 : decode cX9_rest 18 = .ok (.iconst 1, 1) := by decide +kernel
theorem dX9_rest_19 : decode cX9_rest 19 = .ok (.if_icmp .le 7, 3) := by decide +kernel
theorem dX9_rest_22 : decode cX9_rest 22 = .ok (.ldc2_w 217, 3) := by decide +kernel
theorem dX9_rest_25 : decode cX9_rest 25 = .ok (.lreturn, 1) := by decide +kernel
theorem dX9_rest_26 : decode cX9_rest 26 = .ok (.aload_n 0, 1) := by decide +kernel
theorem dX9_rest_27 : decode cX9_rest 27 = .ok (.iload_n 1, 1) := by decide +kernel
theorem dX9_rest_28 : decode cX9_rest 28 = .ok (.invokevirtual 219, 3) := by decide +kernel
theorem dX9_rest_31 : decode cX9_rest 31 = .ok (.lstore_n 3, 1) := by decide +kernel
theorem dX9_rest_32 : decode cX9_rest 32 = .ok (.lload_n 3, 1) := by decide +kernel
theorem dX9_rest_33 : decode cX9_rest 33 = .ok (.lconst 0, 1) := by decide +kernel
theorem dX9_rest_34 : decode cX9_rest 34 = .ok (.lcmp, 1) := by decide +kernel
theorem dX9_rest_35 : decode cX9_rest 35 = .ok (.ifCond .ne 7, 3) := by decide +kernel
theorem dX9_rest_38 : decode cX9_rest 38 = .ok (.ldc2_w 217, 3) := by decide +kernel
theorem dX9_rest_41 : decode cX9_rest 41 = .ok (.lreturn, 1) := by decide +kernel
theorem dX9_rest_42 : decode cX9_rest 42 = .ok (.lconst 0, 1) := by decide +kernel
theorem dX9_rest_43 : decode cX9_rest 43 = .ok (.lstore 5, 2) := by decide +kernel
theorem dX9_rest_45 : decode cX9_rest 45 = .ok (.iconst 0, 1) := by decide +kernel
theorem dX9_rest_46 : decode cX9_rest 46 = .ok (.istore 7, 2) := by decide +kernel
theorem dX9_rest_48 : decode cX9_rest 48 = .ok (.iload 7, 2) := by decide +kernel
theorem dX9_rest_50 : decode cX9_rest 50 = .ok (.aload_n 0, 1) := by decide +kernel
theorem dX9_rest_51 : decode cX9_rest 51 = .ok (.getfield 138, 3) := by decide +kernel
theorem dX9_rest_54 : decode cX9_rest 54 = .ok (.if_icmp .ge 71, 3) := by decide +kernel
theorem dX9_rest_57 : decode cX9_rest 57 = .ok (.lconst 0, 1) := by decide +kernel
theorem dX9_rest_58 : decode cX9_rest 58 = .ok (.lstore 8, 2) := by decide +kernel
theorem dX9_rest_60 : decode cX9_rest 60 = .ok (.iconst 0, 1) := by decide +kernel
theorem dX9_rest_61 : decode cX9_rest 61 = .ok (.istore 10, 2) := by decide +kernel
theorem dX9_rest_63 : decode cX9_rest 63 = .ok (.iload 10, 2) := by decide +kernel
theorem dX9_rest_65 : decode cX9_rest 65 = .ok (.aload_n 0, 1) := by decide +kernel
theorem dX9_rest_66 : decode cX9_rest 66 = .ok (.getfield 135, 3) := by decide +kernel
theorem dX9_rest_69 : decode cX9_rest 69 = .ok (.if_icmp .ge 35, 3) := by decide +kernel
theorem dX9_rest_72 : decode cX9_rest 72 = .ok (.lload 8, 2) := by decide +kernel
theorem dX9_rest_74 : decode cX9_rest 74 = .ok (.aload_n 0, 1) := by decide +kernel
theorem dX9_rest_75 : decode cX9_rest 75 = .ok (.getfield 19, 3) := by decide +kernel
theorem dX9_rest_78 : decode cX9_rest 78 = .ok (.iconst 4, 1) := by decide +kernel
theorem dX9_rest_79 : decode cX9_rest 79 = .ok (.iload 7, 2) := by decide +kernel
theorem dX9_rest_81 : decode cX9_rest 81 = .ok (.imul, 1) := by decide +kernel
theorem dX9_rest_82 : decode cX9_rest 82 = .ok (.iload 10, 2) := by decide +kernel
theorem dX9_rest_84 : decode cX9_rest 84 = .ok (.iadd, 1) := by decide +kernel
theorem dX9_rest_85 : decode cX9_rest 85 = .ok (.iaload, 1) := by decide +kernel
theorem dX9_rest_86 : decode cX9_rest 86 = .ok (.aload_n 0, 1) := by decide +kernel
theorem dX9_rest_87 : decode cX9_rest 87 = .ok (.getfield 13, 3) := by decide +kernel
theorem dX9_rest_90 : decode cX9_rest 90 = .ok (.iload 10, 2) := by decide +kernel
theorem dX9_rest_92 : decode cX9_rest 92 = .ok (.iaload, 1) := by decide +kernel
theorem dX9_rest_93 : decode cX9_rest 93 = .ok (.imul, 1) := by decide +kernel
theorem dX9_rest_94 : decode cX9_rest 94 = .ok (.i2l, 1) := by decide +kernel
theorem dX9_rest_95 : decode cX9_rest 95 = .ok (.ladd, 1) := by decide +kernel
theorem dX9_rest_96 : decode cX9_rest 96 = .ok (.lstore 8, 2) := by decide +kernel
theorem dX9_rest_98 : decode cX9_rest 98 = .ok (.iinc 10 1, 3) := by decide +kernel
theorem dX9_rest_101 : decode cX9_rest 101 = .ok (.goto (-38), 3) := by decide +kernel
theorem dX9_rest_104 : decode cX9_rest 104 = .ok (.lload 5, 2) := by decide +kernel
theorem dX9_rest_106 : decode cX9_rest 106 = .ok (.aload_n 0, 1) := by decide +kernel
theorem dX9_rest_107 : decode cX9_rest 107 = .ok (.getfield 66, 3) := by decide +kernel
theorem dX9_rest_110 : decode cX9_rest 110 = .ok (.iload 7, 2) := by decide +kernel
theorem dX9_rest_112 : decode cX9_rest 112 = .ok (.laload, 1) := by decide +kernel
theorem dX9_rest_113 : decode cX9_rest 113 = .ok (.lload 8, 2) := by decide +kernel
theorem dX9_rest_115 : decode cX9_rest 115 = .ok (.lmul, 1) := by decide +kernel
theorem dX9_rest_116 : decode cX9_rest 116 = .ok (.ladd, 1) := by decide +kernel
theorem dX9_rest_117 : decode cX9_rest 117 = .ok (.lstore 5, 2) := by decide +kernel
theorem dX9_rest_119 : decode cX9_rest 119 = .ok (.iinc 7 1, 3) := by decide +kernel
theorem dX9_rest_122 : decode cX9_rest 122 = .ok (.goto (-74), 3) := by decide +kernel
theorem dX9_rest_125 : decode cX9_rest 125 = .ok (.lload 5, 2) := by decide +kernel
theorem dX9_rest_127 : decode cX9_rest 127 = .ok (.aload_n 0, 1) := by decide +kernel
theorem dX9_rest_128 : decode cX9_rest 128 = .ok (.getfield 25, 3) := by decide +kernel
theorem dX9_rest_131 : decode cX9_rest 131 = .ok (.iload_n 1, 1) := by decide +kernel
theorem dX9_rest_132 : decode cX9_rest 132 = .ok (.iaload, 1) := by decide +kernel
theorem dX9_rest_133 : decode cX9_rest 133 = .ok (.aload_n 0, 1) := by decide +kernel
theorem dX9_rest_134 : decode cX9_rest 134 = .ok (.getfield 31, 3) := by decide +kernel
theorem dX9_rest_137 : decode cX9_rest 137 = .ok (.iload_n 1, 1) := by decide +kernel
theorem dX9_rest_138 : decode cX9_rest 138 = .ok (.iaload, 1) := by decide +kernel
theorem dX9_rest_139 : decode cX9_rest 139 = .ok (.isub, 1) := by decide +kernel
theorem dX9_rest_140 : decode cX9_rest 140 = .ok (.i2l, 1) := by decide +kernel
theorem dX9_rest_141 : decode cX9_rest 141 = .ok (.lmul, 1) := by decide +kernel
theorem dX9_rest_142 : decode cX9_rest 142 = .ok (.ldc2_w 223, 3) := by decide +kernel
theorem dX9_rest_145 : decode cX9_rest 145 = .ok (.lload_n 3, 1) := by decide +kernel
theorem dX9_rest_146 : decode cX9_rest 146 = .ok (.lmul, 1) := by decide +kernel
theorem dX9_rest_147 : decode cX9_rest 147 = .ok (.iload_n 2, 1) := by decide +kernel
theorem dX9_rest_148 : decode cX9_rest 148 = .ok (.invokestatic 225, 3) := by decide +kernel
theorem dX9_rest_151 : decode cX9_rest 151 = .ok (.lreturn, 1) := by decide +kernel
theorem dX9_likely_0 : decode cX9_likely 0 = .ok (.aload_n 0, 1) := by decide +kernel
theorem dX9_likely_1 : decode cX9_likely 1 = .ok (.iconst 0, 1) := by decide +kernel
theorem dX9_likely_2 : decode cX9_likely 2 = .ok (.putfield 77, 3) := by decide +kernel
theorem dX9_likely_5 : decode cX9_likely 5 = .ok (.aload_n 0, 1) := by decide +kernel
theorem dX9_likely_6 : decode cX9_likely 6 = .ok (.iload_n 1, 1) := by decide +kernel
theorem dX9_likely_7 : decode cX9_likely 7 = .ok (.invokevirtual 156, 3) := by decide +kernel
theorem dX9_likely_10 : decode cX9_likely 10 = .ok (.ifCond .eq 24, 3) := by decide +kernel
theorem dX9_likely_13 : decode cX9_likely 13 = .ok (.iload_n 2, 1) := by decide +kernel
theorem dX9_likely_14 : decode cX9_likely 14 = .ok (.ifCond .lt 20, 3) := by decide +kernel
theorem dX9_likely_17 : decode cX9_likely 17 = .ok (.iload_n 2, 1) := by decide +kernel
theorem dX9_likely_18 : decode cX9_likely 18 = .ok (.aload_n 0, 1) := by decide +kernel
theorem dX9_likely_19 : decode cX9_likely 19 = .ok (.getfield 138, 3) := by decide +kernel
theorem dX9_likely_22 : decode cX9_likely 22 = .ok (.if_icmp .ge 12, 3) := by decide +kernel
theorem dX9_likely_25 : decode cX9_likely 25 = .ok (.iload_n 3, 1) := by decide +kernel
theorem dX9_likely_26 : decode cX9_likely 26 = .ok (.ifCond .lt 8, 3) := by decide +kernel
theorem dX9_likely_29 : decode cX9_likely 29 = .ok (.iload_n 3, 1) := by decide +kernel
theorem dX9_likely_30 : decode cX9_likely 30 = .ok (.iconst 1, 1) := by decide +kernel
theorem dX9_likely_31 : decode cX9_likely 31 = .ok (.if_icmp .le 7, 3) := by decide +kernel
theorem dX9_likely_34 : decode cX9_likely 34 = .ok (.ldc2_w 217, 3) := by decide +kernel
theorem dX9_likely_37 : decode cX9_likely 37 = .ok (.lreturn, 1) := by decide +kernel
theorem dX9_likely_38 : decode cX9_likely 38 = .ok (.aload_n 0, 1) := by decide +kernel
theorem dX9_likely_39 : decode cX9_likely 39 = .ok (.iload_n 1, 1) := by decide +kernel
theorem dX9_likely_40 : decode cX9_likely 40 = .ok (.invokevirtual 219, 3) := by decide +kernel
theorem dX9_likely_43 : decode cX9_likely 43 = .ok (.lstore 4, 2) := by decide +kernel
theorem dX9_likely_45 : decode cX9_likely 45 = .ok (.lload 4, 2) := by decide +kernel
theorem dX9_likely_47 : decode cX9_likely 47 = .ok (.lconst 0, 1) := by decide +kernel
theorem dX9_likely_48 : decode cX9_likely 48 = .ok (.lcmp, 1) := by decide +kernel
theorem dX9_likely_49 : decode cX9_likely 49 = .ok (.ifCond .ne 9, 3) := by decide +kernel
theorem dX9_likely_52 : decode cX9_likely 52 = .ok (.ldc2_w 217, 3) := by decide +kernel
theorem dX9_likely_55 : decode cX9_likely 55 = .ok (.goto 15, 3) := by decide +kernel
theorem dX9_likely_58 : decode cX9_likely 58 = .ok (.aload_n 0, 1) := by decide +kernel
theorem dX9_likely_59 : decode cX9_likely 59 = .ok (.getfield 66, 3) := by decide +kernel
theorem dX9_likely_62 : decode cX9_likely 62 = .ok (.iload_n 2, 1) := by decide +kernel
theorem dX9_likely_63 : decode cX9_likely 63 = .ok (.laload, 1) := by decide +kernel
theorem dX9_likely_64 : decode cX9_likely 64 = .ok (.lload 4, 2) := by decide +kernel
theorem dX9_likely_66 : decode cX9_likely 66 = .ok (.iload_n 3, 1) := by decide +kernel
theorem dX9_likely_67 : decode cX9_likely 67 = .ok (.invokestatic 225, 3) := by decide +kernel
theorem dX9_likely_70 : decode cX9_likely 70 = .ok (.lreturn, 1) := by decide +kernel
theorem dX9_indexOf_0 : decode cX9_indexOf 0 = .ok (.iconst 5, 1) := by decide +kernel
theorem dX9_indexOf_1 : decode cX9_indexOf 1 = .ok (.aload_n 0, 1) := by decide +kernel
theorem dX9_indexOf_2 : decode cX9_indexOf 2 = .ok (.getfield 74, 3) := by decide +kernel
theorem dX9_indexOf_5 : decode cX9_indexOf 5 = .ok (.iconst 0, 1) := by decide +kernel
theorem dX9_indexOf_6 : decode cX9_indexOf 6 = .ok (.iaload, 1) := by decide +kernel
theorem dX9_indexOf_7 : decode cX9_indexOf 7 = .ok (.bipush 9, 2) := by decide +kernel
theorem dX9_indexOf_9 : decode cX9_indexOf 9 = .ok (.aload_n 0, 1) := by decide +kernel
theorem dX9_indexOf_10 : decode cX9_indexOf 10 = .ok (.getfield 74, 3) := by decide +kernel
theorem dX9_indexOf_13 : decode cX9_indexOf 13 = .ok (.iconst 1, 1) := by decide +kernel
theorem dX9_indexOf_14 : decode cX9_indexOf 14 = .ok (.iaload, 1) := by decide +kernel
theorem dX9_indexOf_15 : decode cX9_indexOf 15 = .ok (.imul, 1) := by decide +kernel
theorem dX9_indexOf_16 : decode cX9_indexOf 16 = .ok (.iadd, 1) := by decide +kernel
theorem dX9_indexOf_17 : decode cX9_indexOf 17 = .ok (.bipush 81, 2) := by decide +kernel
theorem dX9_indexOf_19 : decode cX9_indexOf 19 = .ok (.aload_n 0, 1) := by decide +kernel
theorem dX9_indexOf_20 : decode cX9_indexOf 20 = .ok (.getfield 74, 3) := by decide +kernel
theorem dX9_indexOf_23 : decode cX9_indexOf 23 = .ok (.iconst 2, 1) := by decide +kernel
theorem dX9_indexOf_24 : decode cX9_indexOf 24 = .ok (.iaload, 1) := by decide +kernel
theorem dX9_indexOf_25 : decode cX9_indexOf 25 = .ok (.imul, 1) := by decide +kernel
theorem dX9_indexOf_26 : decode cX9_indexOf 26 = .ok (.iadd, 1) := by decide +kernel
theorem dX9_indexOf_27 : decode cX9_indexOf 27 = .ok (.sipush 729, 3) := by decide +kernel
theorem dX9_indexOf_30 : decode cX9_indexOf 30 = .ok (.aload_n 0, 1) := by decide +kernel
theorem dX9_indexOf_31 : decode cX9_indexOf 31 = .ok (.getfield 74, 3) := by decide +kernel
theorem dX9_indexOf_34 : decode cX9_indexOf 34 = .ok (.iconst 3, 1) := by decide +kernel
theorem dX9_indexOf_35 : decode cX9_indexOf 35 = .ok (.iaload, 1) := by decide +kernel
theorem dX9_indexOf_36 : decode cX9_indexOf 36 = .ok (.imul, 1) := by decide +kernel
theorem dX9_indexOf_37 : decode cX9_indexOf 37 = .ok (.iadd, 1) := by decide +kernel
theorem dX9_indexOf_38 : decode cX9_indexOf 38 = .ok (.imul, 1) := by decide +kernel
theorem dX9_indexOf_39 : decode cX9_indexOf 39 = .ok (.iload_n 1, 1) := by decide +kernel
theorem dX9_indexOf_40 : decode cX9_indexOf 40 = .ok (.iadd, 1) := by decide +kernel
theorem dX9_indexOf_41 : decode cX9_indexOf 41 = .ok (.iconst 1, 1) := by decide +kernel
theorem dX9_indexOf_42 : decode cX9_indexOf 42 = .ok (.iadd, 1) := by decide +kernel
theorem dX9_indexOf_43 : decode cX9_indexOf 43 = .ok (.ireturn, 1) := by decide +kernel
theorem dX9_together_0 : decode cX9_together 0 = .ok (.lconst 0, 1) := by decide +kernel
theorem dX9_together_1 : decode cX9_together 1 = .ok (.lstore_n 1, 1) := by decide +kernel
theorem dX9_together_2 : decode cX9_together 2 = .ok (.iconst 0, 1) := by decide +kernel
theorem dX9_together_3 : decode cX9_together 3 = .ok (.istore_n 3, 1) := by decide +kernel
theorem dX9_together_4 : decode cX9_together 4 = .ok (.iload_n 3, 1) := by decide +kernel
theorem dX9_together_5 : decode cX9_together 5 = .ok (.aload_n 0, 1) := by decide +kernel
theorem dX9_together_6 : decode cX9_together 6 = .ok (.getfield 138, 3) := by decide +kernel
theorem dX9_together_9 : decode cX9_together 9 = .ok (.if_icmp .ge 75, 3) := by decide +kernel
theorem dX9_together_12 : decode cX9_together 12 = .ok (.aload_n 0, 1) := by decide +kernel
theorem dX9_together_13 : decode cX9_together 13 = .ok (.getfield 66, 3) := by decide +kernel
theorem dX9_together_16 : decode cX9_together 16 = .ok (.iload_n 3, 1) := by decide +kernel
theorem dX9_together_17 : decode cX9_together 17 = .ok (.laload, 1) := by decide +kernel
theorem dX9_together_18 : decode cX9_together 18 = .ok (.lstore 4, 2) := by decide +kernel
theorem dX9_together_20 : decode cX9_together 20 = .ok (.iconst 0, 1) := by decide +kernel
theorem dX9_together_21 : decode cX9_together 21 = .ok (.istore 6, 2) := by decide +kernel
theorem dX9_together_23 : decode cX9_together 23 = .ok (.iload 6, 2) := by decide +kernel
theorem dX9_together_25 : decode cX9_together 25 = .ok (.iconst 4, 1) := by decide +kernel
theorem dX9_together_26 : decode cX9_together 26 = .ok (.if_icmp .ge 47, 3) := by decide +kernel
theorem dX9_together_29 : decode cX9_together 29 = .ok (.iconst 0, 1) := by decide +kernel
theorem dX9_together_30 : decode cX9_together 30 = .ok (.istore 7, 2) := by decide +kernel
theorem dX9_together_32 : decode cX9_together 32 = .ok (.iload 7, 2) := by decide +kernel
theorem dX9_together_34 : decode cX9_together 34 = .ok (.aload_n 0, 1) := by decide +kernel
theorem dX9_together_35 : decode cX9_together 35 = .ok (.getfield 74, 3) := by decide +kernel
theorem dX9_together_38 : decode cX9_together 38 = .ok (.iload 6, 2) := by decide +kernel
theorem dX9_together_40 : decode cX9_together 40 = .ok (.iaload, 1) := by decide +kernel
theorem dX9_together_41 : decode cX9_together 41 = .ok (.if_icmp .ge 26, 3) := by decide +kernel
theorem dX9_together_44 : decode cX9_together 44 = .ok (.lload 4, 2) := by decide +kernel
theorem dX9_together_46 : decode cX9_together 46 = .ok (.aload_n 0, 1) := by decide +kernel
theorem dX9_together_47 : decode cX9_together 47 = .ok (.getfield 19, 3) := by decide +kernel
theorem dX9_together_50 : decode cX9_together 50 = .ok (.iconst 4, 1) := by decide +kernel
theorem dX9_together_51 : decode cX9_together 51 = .ok (.iload_n 3, 1) := by decide +kernel
theorem dX9_together_52 : decode cX9_together 52 = .ok (.imul, 1) := by decide +kernel
theorem dX9_together_53 : decode cX9_together 53 = .ok (.iload 6, 2) := by decide +kernel
theorem dX9_together_55 : decode cX9_together 55 = .ok (.iadd, 1) := by decide +kernel
theorem dX9_together_56 : decode cX9_together 56 = .ok (.iaload, 1) := by decide +kernel
theorem dX9_together_57 : decode cX9_together 57 = .ok (.i2l, 1) := by decide +kernel
theorem dX9_together_58 : decode cX9_together 58 = .ok (.lmul, 1) := by decide +kernel
theorem dX9_together_59 : decode cX9_together 59 = .ok (.lstore 4, 2) := by decide +kernel
theorem dX9_together_61 : decode cX9_together 61 = .ok (.iinc 7 1, 3) := by decide +kernel
theorem dX9_together_64 : decode cX9_together 64 = .ok (.goto (-32), 3) := by decide +kernel
theorem dX9_together_67 : decode cX9_together 67 = .ok (.iinc 6 1, 3) := by decide +kernel
theorem dX9_together_70 : decode cX9_together 70 = .ok (.goto (-47), 3) := by decide +kernel
theorem dX9_together_73 : decode cX9_together 73 = .ok (.lload_n 1, 1) := by decide +kernel
theorem dX9_together_74 : decode cX9_together 74 = .ok (.lload 4, 2) := by decide +kernel
theorem dX9_together_76 : decode cX9_together 76 = .ok (.ladd, 1) := by decide +kernel
theorem dX9_together_77 : decode cX9_together 77 = .ok (.lstore_n 1, 1) := by decide +kernel
theorem dX9_together_78 : decode cX9_together 78 = .ok (.iinc 3 1, 3) := by decide +kernel
theorem dX9_together_81 : decode cX9_together 81 = .ok (.goto (-77), 3) := by decide +kernel
theorem dX9_together_84 : decode cX9_together 84 = .ok (.lload_n 1, 1) := by decide +kernel
theorem dX9_together_85 : decode cX9_together 85 = .ok (.lreturn, 1) := by decide +kernel
theorem dX9_values_0 : decode cX9_values 0 = .ok (.aload_n 0, 1) := by decide +kernel
theorem dX9_values_1 : decode cX9_values 1 = .ok (.invokevirtual 229, 3) := by decide +kernel
theorem dX9_values_4 : decode cX9_values 4 = .ok (.lstore 5, 2) := by decide +kernel
theorem dX9_values_6 : decode cX9_values 6 = .ok (.aload_n 0, 1) := by decide +kernel
theorem dX9_values_7 : decode cX9_values 7 = .ok (.iload_n 1, 1) := by decide +kernel
theorem dX9_values_8 : decode cX9_values 8 = .ok (.i2l, 1) := by decide +kernel
theorem dX9_values_9 : decode cX9_values 9 = .ok (.aload_n 0, 1) := by decide +kernel
theorem dX9_values_10 : decode cX9_values 10 = .ok (.iload_n 2, 1) := by decide +kernel
theorem dX9_values_11 : decode cX9_values 11 = .ok (.invokevirtual 207, 3) := by decide +kernel
theorem dX9_values_14 : decode cX9_values 14 = .ok (.i2l, 1) := by decide +kernel
theorem dX9_values_15 : decode cX9_values 15 = .ok (.lmul, 1) := by decide +kernel
theorem dX9_values_16 : decode cX9_values 16 = .ok (.lload 5, 2) := by decide +kernel
theorem dX9_values_18 : decode cX9_values 18 = .ok (.lmul, 1) := by decide +kernel
theorem dX9_values_19 : decode cX9_values 19 = .ok (.lload_n 3, 1) := by decide +kernel
theorem dX9_values_20 : decode cX9_values 20 = .ok (.lmul, 1) := by decide +kernel
theorem dX9_values_21 : decode cX9_values 21 = .ok (.putfield 233, 3) := by decide +kernel
theorem dX9_values_24 : decode cX9_values 24 = .ok (.aload_n 0, 1) := by decide +kernel
theorem dX9_values_25 : decode cX9_values 25 = .ok (.aload_n 0, 1) := by decide +kernel
theorem dX9_values_26 : decode cX9_values 26 = .ok (.getfield 50, 3) := by decide +kernel
theorem dX9_values_29 : decode cX9_values 29 = .ok (.bipush 6, 2) := by decide +kernel
theorem dX9_values_31 : decode cX9_values 31 = .ok (.iaload, 1) := by decide +kernel
theorem dX9_values_32 : decode cX9_values 32 = .ok (.ineg, 1) := by decide +kernel
theorem dX9_values_33 : decode cX9_values 33 = .ok (.i2l, 1) := by decide +kernel
theorem dX9_values_34 : decode cX9_values 34 = .ok (.lload 5, 2) := by decide +kernel
theorem dX9_values_36 : decode cX9_values 36 = .ok (.lmul, 1) := by decide +kernel
theorem dX9_values_37 : decode cX9_values 37 = .ok (.lload_n 3, 1) := by decide +kernel
theorem dX9_values_38 : decode cX9_values 38 = .ok (.lmul, 1) := by decide +kernel
theorem dX9_values_39 : decode cX9_values 39 = .ok (.putfield 237, 3) := by decide +kernel
theorem dX9_values_42 : decode cX9_values 42 = .ok (.iconst 0, 1) := by decide +kernel
theorem dX9_values_43 : decode cX9_values 43 = .ok (.istore 7, 2) := by decide +kernel
theorem dX9_values_45 : decode cX9_values 45 = .ok (.iload 7, 2) := by decide +kernel
theorem dX9_values_47 : decode cX9_values 47 = .ok (.aload_n 0, 1) := by decide +kernel
theorem dX9_values_48 : decode cX9_values 48 = .ok (.getfield 135, 3) := by decide +kernel
theorem dX9_values_51 : decode cX9_values 51 = .ok (.if_icmp .ge 91, 3) := by decide +kernel
theorem dX9_values_54 : decode cX9_values 54 = .ok (.aload_n 0, 1) := by decide +kernel
theorem dX9_values_55 : decode cX9_values 55 = .ok (.getfield 74, 3) := by decide +kernel
theorem dX9_values_58 : decode cX9_values 58 = .ok (.iload 7, 2) := by decide +kernel
theorem dX9_values_60 : decode cX9_values 60 = .ok (.dup2, 1) := by decide +kernel
theorem dX9_values_61 : decode cX9_values 61 = .ok (.iaload, 1) := by decide +kernel
theorem dX9_values_62 : decode cX9_values 62 = .ok (.iconst 1, 1) := by decide +kernel
theorem dX9_values_63 : decode cX9_values 63 = .ok (.iadd, 1) := by decide +kernel
theorem dX9_values_64 : decode cX9_values 64 = .ok (.iastore, 1) := by decide +kernel
theorem dX9_values_65 : decode cX9_values 65 = .ok (.aload_n 0, 1) := by decide +kernel
theorem dX9_values_66 : decode cX9_values 66 = .ok (.invokevirtual 229, 3) := by decide +kernel
theorem dX9_values_69 : decode cX9_values 69 = .ok (.lstore 8, 2) := by decide +kernel
theorem dX9_values_71 : decode cX9_values 71 = .ok (.lload 8, 2) := by decide +kernel
theorem dX9_values_73 : decode cX9_values 73 = .ok (.lconst 0, 1) := by decide +kernel
theorem dX9_values_74 : decode cX9_values 74 = .ok (.lcmp, 1) := by decide +kernel
theorem dX9_values_75 : decode cX9_values 75 = .ok (.ifCond .le 50, 3) := by decide +kernel
theorem dX9_values_78 : decode cX9_values 78 = .ok (.aload_n 0, 1) := by decide +kernel
theorem dX9_values_79 : decode cX9_values 79 = .ok (.dup, 1) := by decide +kernel
theorem dX9_values_80 : decode cX9_values 80 = .ok (.getfield 237, 3) := by decide +kernel
theorem dX9_values_83 : decode cX9_values 83 = .ok (.aload_n 0, 1) := by decide +kernel
theorem dX9_values_84 : decode cX9_values 84 = .ok (.getfield 13, 3) := by decide +kernel
theorem dX9_values_87 : decode cX9_values 87 = .ok (.iload 7, 2) := by decide +kernel
theorem dX9_values_89 : decode cX9_values 89 = .ok (.iaload, 1) := by decide +kernel
theorem dX9_values_90 : decode cX9_values 90 = .ok (.i2l, 1) := by decide +kernel
theorem dX9_values_91 : decode cX9_values 91 = .ok (.lload 8, 2) := by decide +kernel
theorem dX9_values_93 : decode cX9_values 93 = .ok (.lmul, 1) := by decide +kernel
theorem dX9_values_94 : decode cX9_values 94 = .ok (.lload_n 3, 1) := by decide +kernel
theorem dX9_values_95 : decode cX9_values 95 = .ok (.ldc2_w 223, 3) := by decide +kernel
theorem dX9_values_98 : decode cX9_values 98 = .ok (.ldiv, 1) := by decide +kernel
theorem dX9_values_99 : decode cX9_values 99 = .ok (.lmul, 1) := by decide +kernel
theorem dX9_values_100 : decode cX9_values 100 = .ok (.iload_n 1, 1) := by decide +kernel
theorem dX9_values_101 : decode cX9_values 101 = .ok (.iconst 1, 1) := by decide +kernel
theorem dX9_values_102 : decode cX9_values 102 = .ok (.if_icmp .le 17, 3) := by decide +kernel
theorem dX9_values_105 : decode cX9_values 105 = .ok (.aload_n 0, 1) := by decide +kernel
theorem dX9_values_106 : decode cX9_values 106 = .ok (.getfield 71, 3) := by decide +kernel
theorem dX9_values_109 : decode cX9_values 109 = .ok (.aload_n 0, 1) := by decide +kernel
theorem dX9_values_110 : decode cX9_values 110 = .ok (.iload 7, 2) := by decide +kernel
theorem dX9_values_112 : decode cX9_values 112 = .ok (.invokevirtual 240, 3) := by decide +kernel
theorem dX9_values_115 : decode cX9_values 115 = .ok (.laload, 1) := by decide +kernel
theorem dX9_values_116 : decode cX9_values 116 = .ok (.goto 4, 3) := by decide +kernel
theorem dX9_values_119 : decode cX9_values 119 = .ok (.lconst 0, 1) := by decide +kernel
theorem dX9_values_120 : decode cX9_values 120 = .ok (.ladd, 1) := by decide +kernel
theorem dX9_values_121 : decode cX9_values 121 = .ok (.ladd, 1) := by decide +kernel
theorem dX9_values_122 : decode cX9_values 122 = .ok (.putfield 237, 3) := by decide +kernel
theorem dX9_values_125 : decode cX9_values 125 = .ok (.aload_n 0, 1) := by decide +kernel
theorem dX9_values_126 : decode cX9_values 126 = .ok (.getfield 74, 3) := by decide +kernel
theorem dX9_values_129 : decode cX9_values 129 = .ok (.iload 7, 2) := by decide +kernel
theorem dX9_values_131 : decode cX9_values 131 = .ok (.dup2, 1) := by decide +kernel
theorem dX9_values_132 : decode cX9_values 132 = .ok (.iaload, 1) := by decide +kernel
theorem dX9_values_133 : decode cX9_values 133 = .ok (.iconst 1, 1) := by decide +kernel
theorem dX9_values_134 : decode cX9_values 134 = .ok (.isub, 1) := by decide +kernel
theorem dX9_values_135 : decode cX9_values 135 = .ok (.iastore, 1) := by decide +kernel
theorem dX9_values_136 : decode cX9_values 136 = .ok (.iinc 7 1, 3) := by decide +kernel
theorem dX9_values_139 : decode cX9_values 139 = .ok (.goto (-94), 3) := by decide +kernel
theorem dX9_values_142 : decode cX9_values 142 = .ok (.return_, 1) := by decide +kernel
theorem dX9_best_0 : decode cX9_best 0 = .ok (.aload_n 0, 1) := by decide +kernel
theorem dX9_best_1 : decode cX9_best 1 = .ok (.iconst 0, 1) := by decide +kernel
theorem dX9_best_2 : decode cX9_best 2 = .ok (.putfield 77, 3) := by decide +kernel
theorem dX9_best_5 : decode cX9_best 5 = .ok (.aload_n 0, 1) := by decide +kernel
theorem dX9_best_6 : decode cX9_best 6 = .ok (.iload_n 1, 1) := by decide +kernel
theorem dX9_best_7 : decode cX9_best 7 = .ok (.invokevirtual 156, 3) := by decide +kernel
theorem dX9_best_10 : decode cX9_best 10 = .ok (.ifCond .eq 12, 3) := by decide +kernel
theorem dX9_best_13 : decode cX9_best 13 = .ok (.iload_n 2, 1) := by decide +kernel
theorem dX9_best_14 : decode cX9_best 14 = .ok (.ifCond .lt 8, 3) := by decide +kernel
theorem dX9_best_17 : decode cX9_best 17 = .ok (.iload_n 2, 1) := by decide +kernel
theorem dX9_best_18 : decode cX9_best 18 = .ok (.iconst 2, 1) := by decide +kernel
theorem dX9_best_19 : decode cX9_best 19 = .ok (.if_icmp .le 7, 3) := by decide +kernel
theorem dX9_best_22 : decode cX9_best 22 = .ok (.ldc2_w 243, 3) := by decide +kernel
theorem dX9_best_25 : decode cX9_best 25 = .ok (.lreturn, 1) := by decide +kernel
theorem dX9_best_26 : decode cX9_best 26 = .ok (.aload_n 0, 1) := by decide +kernel
theorem dX9_best_27 : decode cX9_best 27 = .ok (.iload_n 1, 1) := by decide +kernel
theorem dX9_best_28 : decode cX9_best 28 = .ok (.invokevirtual 219, 3) := by decide +kernel
theorem dX9_best_31 : decode cX9_best 31 = .ok (.lstore_n 3, 1) := by decide +kernel
theorem dX9_best_32 : decode cX9_best 32 = .ok (.lload_n 3, 1) := by decide +kernel
theorem dX9_best_33 : decode cX9_best 33 = .ok (.lconst 0, 1) := by decide +kernel
theorem dX9_best_34 : decode cX9_best 34 = .ok (.lcmp, 1) := by decide +kernel
theorem dX9_best_35 : decode cX9_best 35 = .ok (.ifCond .ne 7, 3) := by decide +kernel
theorem dX9_best_38 : decode cX9_best 38 = .ok (.ldc2_w 243, 3) := by decide +kernel
theorem dX9_best_41 : decode cX9_best 41 = .ok (.lreturn, 1) := by decide +kernel
theorem dX9_best_42 : decode cX9_best 42 = .ok (.aload_n 0, 1) := by decide +kernel
theorem dX9_best_43 : decode cX9_best 43 = .ok (.getfield 25, 3) := by decide +kernel
theorem dX9_best_46 : decode cX9_best 46 = .ok (.iload_n 1, 1) := by decide +kernel
theorem dX9_best_47 : decode cX9_best 47 = .ok (.iaload, 1) := by decide +kernel
theorem dX9_best_48 : decode cX9_best 48 = .ok (.aload_n 0, 1) := by decide +kernel
theorem dX9_best_49 : decode cX9_best 49 = .ok (.getfield 31, 3) := by decide +kernel
theorem dX9_best_52 : decode cX9_best 52 = .ok (.iload_n 1, 1) := by decide +kernel
theorem dX9_best_53 : decode cX9_best 53 = .ok (.iaload, 1) := by decide +kernel
theorem dX9_best_54 : decode cX9_best 54 = .ok (.isub, 1) := by decide +kernel
theorem dX9_best_55 : decode cX9_best 55 = .ok (.istore 5, 2) := by decide +kernel
theorem dX9_best_57 : decode cX9_best 57 = .ok (.ldc2_w 223, 3) := by decide +kernel
theorem dX9_best_60 : decode cX9_best 60 = .ok (.lstore 6, 2) := by decide +kernel
theorem dX9_best_62 : decode cX9_best 62 = .ok (.iload 5, 2) := by decide +kernel
theorem dX9_best_64 : decode cX9_best 64 = .ok (.iconst 1, 1) := by decide +kernel
theorem dX9_best_65 : decode cX9_best 65 = .ok (.isub, 1) := by decide +kernel
theorem dX9_best_66 : decode cX9_best 66 = .ok (.istore 8, 2) := by decide +kernel
theorem dX9_best_68 : decode cX9_best 68 = .ok (.iload 8, 2) := by decide +kernel
theorem dX9_best_70 : decode cX9_best 70 = .ok (.ifCond .le 205, 3) := by decide +kernel
theorem dX9_best_73 : decode cX9_best 73 = .ok (.iconst 0, 1) := by decide +kernel
theorem dX9_best_74 : decode cX9_best 74 = .ok (.istore 9, 2) := by decide +kernel
theorem dX9_best_76 : decode cX9_best 76 = .ok (.iload 9, 2) := by decide +kernel
theorem dX9_best_78 : decode cX9_best 78 = .ok (.iload 8, 2) := by decide +kernel
theorem dX9_best_80 : decode cX9_best 80 = .ok (.if_icmp .gt 181, 3) := by decide +kernel
theorem dX9_best_83 : decode cX9_best 83 = .ok (.iconst 0, 1) := by decide +kernel
theorem dX9_best_84 : decode cX9_best 84 = .ok (.istore 10, 2) := by decide +kernel
theorem dX9_best_86 : decode cX9_best 86 = .ok (.iload 9, 2) := by decide +kernel
theorem dX9_best_88 : decode cX9_best 88 = .ok (.iload 10, 2) := by decide +kernel
theorem dX9_best_90 : decode cX9_best 90 = .ok (.iadd, 1) := by decide +kernel
theorem dX9_best_91 : decode cX9_best 91 = .ok (.iload 8, 2) := by decide +kernel
theorem dX9_best_93 : decode cX9_best 93 = .ok (.if_icmp .gt 162, 3) := by decide +kernel
theorem dX9_best_96 : decode cX9_best 96 = .ok (.iconst 0, 1) := by decide +kernel
theorem dX9_best_97 : decode cX9_best 97 = .ok (.istore 11, 2) := by decide +kernel
theorem dX9_best_99 : decode cX9_best 99 = .ok (.iload 9, 2) := by decide +kernel
theorem dX9_best_101 : decode cX9_best 101 = .ok (.iload 10, 2) := by decide +kernel
theorem dX9_best_103 : decode cX9_best 103 = .ok (.iadd, 1) := by decide +kernel
theorem dX9_best_104 : decode cX9_best 104 = .ok (.iload 11, 2) := by decide +kernel
theorem dX9_best_106 : decode cX9_best 106 = .ok (.iadd, 1) := by decide +kernel
theorem dX9_best_107 : decode cX9_best 107 = .ok (.iload 8, 2) := by decide +kernel
theorem dX9_best_109 : decode cX9_best 109 = .ok (.if_icmp .gt 140, 3) := by decide +kernel
theorem dX9_best_112 : decode cX9_best 112 = .ok (.aload_n 0, 1) := by decide +kernel
theorem dX9_best_113 : decode cX9_best 113 = .ok (.getfield 74, 3) := by decide +kernel
theorem dX9_best_116 : decode cX9_best 116 = .ok (.iconst 0, 1) := by decide +kernel
theorem dX9_best_117 : decode cX9_best 117 = .ok (.iload 9, 2) := by decide +kernel
theorem dX9_best_119 : decode cX9_best 119 = .ok (.iastore, 1) := by decide +kernel
theorem dX9_best_120 : decode cX9_best 120 = .ok (.aload_n 0, 1) := by decide +kernel
theorem dX9_best_121 : decode cX9_best 121 = .ok (.getfield 74, 3) := by decide +kernel
theorem dX9_best_124 : decode cX9_best 124 = .ok (.iconst 1, 1) := by decide +kernel
theorem dX9_best_125 : decode cX9_best 125 = .ok (.iload 10, 2) := by decide +kernel
theorem dX9_best_127 : decode cX9_best 127 = .ok (.iastore, 1) := by decide +kernel
theorem dX9_best_128 : decode cX9_best 128 = .ok (.aload_n 0, 1) := by decide +kernel
theorem dX9_best_129 : decode cX9_best 129 = .ok (.getfield 74, 3) := by decide +kernel
theorem dX9_best_132 : decode cX9_best 132 = .ok (.iconst 2, 1) := by decide +kernel
theorem dX9_best_133 : decode cX9_best 133 = .ok (.iload 11, 2) := by decide +kernel
theorem dX9_best_135 : decode cX9_best 135 = .ok (.iastore, 1) := by decide +kernel
theorem dX9_best_136 : decode cX9_best 136 = .ok (.aload_n 0, 1) := by decide +kernel
theorem dX9_best_137 : decode cX9_best 137 = .ok (.getfield 74, 3) := by decide +kernel
theorem dX9_best_140 : decode cX9_best 140 = .ok (.iconst 3, 1) := by decide +kernel
theorem dX9_best_141 : decode cX9_best 141 = .ok (.iload 8, 2) := by decide +kernel
theorem dX9_best_143 : decode cX9_best 143 = .ok (.iload 9, 2) := by decide +kernel
theorem dX9_best_145 : decode cX9_best 145 = .ok (.isub, 1) := by decide +kernel
theorem dX9_best_146 : decode cX9_best 146 = .ok (.iload 10, 2) := by decide +kernel
theorem dX9_best_148 : decode cX9_best 148 = .ok (.isub, 1) := by decide +kernel
theorem dX9_best_149 : decode cX9_best 149 = .ok (.iload 11, 2) := by decide +kernel
theorem dX9_best_151 : decode cX9_best 151 = .ok (.isub, 1) := by decide +kernel
theorem dX9_best_152 : decode cX9_best 152 = .ok (.iastore, 1) := by decide +kernel
theorem dX9_best_153 : decode cX9_best 153 = .ok (.aload_n 0, 1) := by decide +kernel
theorem dX9_best_154 : decode cX9_best 154 = .ok (.invokevirtual 229, 3) := by decide +kernel
theorem dX9_best_157 : decode cX9_best 157 = .ok (.lconst 0, 1) := by decide +kernel
theorem dX9_best_158 : decode cX9_best 158 = .ok (.lcmp, 1) := by decide +kernel
theorem dX9_best_159 : decode cX9_best 159 = .ok (.ifCond .ne 6, 3) := by decide +kernel
theorem dX9_best_162 : decode cX9_best 162 = .ok (.goto 81, 3) := by decide +kernel
theorem dX9_best_165 : decode cX9_best 165 = .ok (.iconst 0, 1) := by decide +kernel
theorem dX9_best_166 : decode cX9_best 166 = .ok (.istore 12, 2) := by decide +kernel
theorem dX9_best_168 : decode cX9_best 168 = .ok (.iload 12, 2) := by decide +kernel
theorem dX9_best_170 : decode cX9_best 170 = .ok (.aload_n 0, 1) := by decide +kernel
theorem dX9_best_171 : decode cX9_best 171 = .ok (.getfield 135, 3) := by decide +kernel
theorem dX9_best_174 : decode cX9_best 174 = .ok (.if_icmp .ge 69, 3) := by decide +kernel
theorem dX9_best_177 : decode cX9_best 177 = .ok (.aload_n 0, 1) := by decide +kernel
theorem dX9_best_178 : decode cX9_best 178 = .ok (.getfield 74, 3) := by decide +kernel
theorem dX9_best_181 : decode cX9_best 181 = .ok (.iload 12, 2) := by decide +kernel
theorem dX9_best_183 : decode cX9_best 183 = .ok (.iaload, 1) := by decide +kernel
theorem dX9_best_184 : decode cX9_best 184 = .ok (.ifCond .ne 6, 3) := by decide +kernel
theorem dX9_best_187 : decode cX9_best 187 = .ok (.goto 50, 3) := by decide +kernel
theorem dX9_best_190 : decode cX9_best 190 = .ok (.aload_n 0, 1) := by decide +kernel
theorem dX9_best_191 : decode cX9_best 191 = .ok (.iload 5, 2) := by decide +kernel
theorem dX9_best_193 : decode cX9_best 193 = .ok (.iload 8, 2) := by decide +kernel
theorem dX9_best_195 : decode cX9_best 195 = .ok (.isub, 1) := by decide +kernel
theorem dX9_best_196 : decode cX9_best 196 = .ok (.iload 12, 2) := by decide +kernel
theorem dX9_best_198 : decode cX9_best 198 = .ok (.lload 6, 2) := by decide +kernel
theorem dX9_best_200 : decode cX9_best 200 = .ok (.invokevirtual 245, 3) := by decide +kernel
theorem dX9_best_203 : decode cX9_best 203 = .ok (.aload_n 0, 1) := by decide +kernel
theorem dX9_best_204 : decode cX9_best 204 = .ok (.getfield 71, 3) := by decide +kernel
theorem dX9_best_207 : decode cX9_best 207 = .ok (.aload_n 0, 1) := by decide +kernel
theorem dX9_best_208 : decode cX9_best 208 = .ok (.iload 12, 2) := by decide +kernel
theorem dX9_best_210 : decode cX9_best 210 = .ok (.invokevirtual 240, 3) := by decide +kernel
theorem dX9_best_213 : decode cX9_best 213 = .ok (.aload_n 0, 1) := by decide +kernel
theorem dX9_best_214 : decode cX9_best 214 = .ok (.getfield 237, 3) := by decide +kernel
theorem dX9_best_217 : decode cX9_best 217 = .ok (.aload_n 0, 1) := by decide +kernel
theorem dX9_best_218 : decode cX9_best 218 = .ok (.getfield 233, 3) := by decide +kernel
theorem dX9_best_221 : decode cX9_best 221 = .ok (.lcmp, 1) := by decide +kernel
theorem dX9_best_222 : decode cX9_best 222 = .ok (.ifCond .le 10, 3) := by decide +kernel
theorem dX9_best_225 : decode cX9_best 225 = .ok (.aload_n 0, 1) := by decide +kernel
theorem dX9_best_226 : decode cX9_best 226 = .ok (.getfield 237, 3) := by decide +kernel
theorem dX9_best_229 : decode cX9_best 229 = .ok (.goto 7, 3) := by decide +kernel
theorem dX9_best_232 : decode cX9_best 232 = .ok (.aload_n 0, 1) := by decide +kernel
theorem dX9_best_233 : decode cX9_best 233 = .ok (.getfield 233, 3) := by decide +kernel
theorem dX9_best_236 : decode cX9_best 236 = .ok (.lastore, 1) := by decide +kernel
theorem dX9_best_237 : decode cX9_best 237 = .ok (.iinc 12 1, 3) := by decide +kernel
theorem dX9_best_240 : decode cX9_best 240 = .ok (.goto (-72), 3) := by decide +kernel
theorem dX9_best_243 : decode cX9_best 243 = .ok (.iinc 11 1, 3) := by decide +kernel
theorem dX9_best_246 : decode cX9_best 246 = .ok (.goto (-147), 3) := by decide +kernel
theorem dX9_best_249 : decode cX9_best 249 = .ok (.iinc 10 1, 3) := by decide +kernel
theorem dX9_best_252 : decode cX9_best 252 = .ok (.goto (-166), 3) := by decide +kernel
theorem dX9_best_255 : decode cX9_best 255 = .ok (.iinc 9 1, 3) := by decide +kernel
theorem dX9_best_258 : decode cX9_best 258 = .ok (.goto (-182), 3) := by decide +kernel
theorem dX9_best_261 : decode cX9_best 261 = .ok (.lload 6, 2) := by decide +kernel
theorem dX9_best_263 : decode cX9_best 263 = .ok (.ldc2_w 223, 3) := by decide +kernel
theorem dX9_best_266 : decode cX9_best 266 = .ok (.lmul, 1) := by decide +kernel
theorem dX9_best_267 : decode cX9_best 267 = .ok (.lstore 6, 2) := by decide +kernel
theorem dX9_best_269 : decode cX9_best 269 = .ok (.iinc 8 (-1), 3) := by decide +kernel
theorem dX9_best_272 : decode cX9_best 272 = .ok (.goto (-204), 3) := by decide +kernel
theorem dX9_best_275 : decode cX9_best 275 = .ok (.iconst 0, 1) := by decide +kernel
theorem dX9_best_276 : decode cX9_best 276 = .ok (.istore 8, 2) := by decide +kernel
theorem dX9_best_278 : decode cX9_best 278 = .ok (.iload 8, 2) := by decide +kernel
theorem dX9_best_280 : decode cX9_best 280 = .ok (.iconst 4, 1) := by decide +kernel
theorem dX9_best_281 : decode cX9_best 281 = .ok (.if_icmp .ge 17, 3) := by decide +kernel
theorem dX9_best_284 : decode cX9_best 284 = .ok (.aload_n 0, 1) := by decide +kernel
theorem dX9_best_285 : decode cX9_best 285 = .ok (.getfield 74, 3) := by decide +kernel
theorem dX9_best_288 : decode cX9_best 288 = .ok (.iload 8, 2) := by decide +kernel
theorem dX9_best_290 : decode cX9_best 290 = .ok (.iconst 0, 1) := by decide +kernel
theorem dX9_best_291 : decode cX9_best 291 = .ok (.iastore, 1) := by decide +kernel
theorem dX9_best_292 : decode cX9_best 292 = .ok (.iinc 8 1, 3) := by decide +kernel
theorem dX9_best_295 : decode cX9_best 295 = .ok (.goto (-17), 3) := by decide +kernel
theorem dX9_best_298 : decode cX9_best 298 = .ok (.aload_n 0, 1) := by decide +kernel
theorem dX9_best_299 : decode cX9_best 299 = .ok (.iload 5, 2) := by decide +kernel
theorem dX9_best_301 : decode cX9_best 301 = .ok (.aload_n 0, 1) := by decide +kernel
theorem dX9_best_302 : decode cX9_best 302 = .ok (.iload_n 1, 1) := by decide +kernel
theorem dX9_best_303 : decode cX9_best 303 = .ok (.invokevirtual 204, 3) := by decide +kernel
theorem dX9_best_306 : decode cX9_best 306 = .ok (.lload 6, 2) := by decide +kernel
theorem dX9_best_308 : decode cX9_best 308 = .ok (.invokevirtual 245, 3) := by decide +kernel
theorem dX9_best_311 : decode cX9_best 311 = .ok (.iload_n 2, 1) := by decide +kernel
theorem dX9_best_312 : decode cX9_best 312 = .ok (.iconst 2, 1) := by decide +kernel
theorem dX9_best_313 : decode cX9_best 313 = .ok (.if_icmp .ne 23, 3) := by decide +kernel
theorem dX9_best_316 : decode cX9_best 316 = .ok (.aload_n 0, 1) := by decide +kernel
theorem dX9_best_317 : decode cX9_best 317 = .ok (.getfield 237, 3) := by decide +kernel
theorem dX9_best_320 : decode cX9_best 320 = .ok (.aload_n 0, 1) := by decide +kernel
theorem dX9_best_321 : decode cX9_best 321 = .ok (.getfield 233, 3) := by decide +kernel
theorem dX9_best_324 : decode cX9_best 324 = .ok (.lcmp, 1) := by decide +kernel
theorem dX9_best_325 : decode cX9_best 325 = .ok (.ifCond .le 9, 3) := by decide +kernel
theorem dX9_best_328 : decode cX9_best 328 = .ok (.ldc2_w 249, 3) := by decide +kernel
theorem dX9_best_331 : decode cX9_best 331 = .ok (.goto 4, 3) := by decide +kernel
theorem dX9_best_334 : decode cX9_best 334 = .ok (.lconst 1, 1) := by decide +kernel
theorem dX9_best_335 : decode cX9_best 335 = .ok (.lreturn, 1) := by decide +kernel
theorem dX9_best_336 : decode cX9_best 336 = .ok (.aload_n 0, 1) := by decide +kernel
theorem dX9_best_337 : decode cX9_best 337 = .ok (.getfield 237, 3) := by decide +kernel
theorem dX9_best_340 : decode cX9_best 340 = .ok (.aload_n 0, 1) := by decide +kernel
theorem dX9_best_341 : decode cX9_best 341 = .ok (.getfield 233, 3) := by decide +kernel
theorem dX9_best_344 : decode cX9_best 344 = .ok (.lcmp, 1) := by decide +kernel
theorem dX9_best_345 : decode cX9_best 345 = .ok (.ifCond .le 10, 3) := by decide +kernel
theorem dX9_best_348 : decode cX9_best 348 = .ok (.aload_n 0, 1) := by decide +kernel
theorem dX9_best_349 : decode cX9_best 349 = .ok (.getfield 237, 3) := by decide +kernel
theorem dX9_best_352 : decode cX9_best 352 = .ok (.goto 7, 3) := by decide +kernel
theorem dX9_best_355 : decode cX9_best 355 = .ok (.aload_n 0, 1) := by decide +kernel
theorem dX9_best_356 : decode cX9_best 356 = .ok (.getfield 233, 3) := by decide +kernel
theorem dX9_best_359 : decode cX9_best 359 = .ok (.lload_n 3, 1) := by decide +kernel
theorem dX9_best_360 : decode cX9_best 360 = .ok (.lload 6, 2) := by decide +kernel
theorem dX9_best_362 : decode cX9_best 362 = .ok (.lmul, 1) := by decide +kernel
theorem dX9_best_363 : decode cX9_best 363 = .ok (.iload_n 2, 1) := by decide +kernel
theorem dX9_best_364 : decode cX9_best 364 = .ok (.invokestatic 225, 3) := by decide +kernel
theorem dX9_best_367 : decode cX9_best 367 = .ok (.lreturn, 1) := by decide +kernel
theorem dX9_count_0 : decode cX9_count 0 = .ok (.aload_n 0, 1) := by decide +kernel
theorem dX9_count_1 : decode cX9_count 1 = .ok (.iconst 0, 1) := by decide +kernel
theorem dX9_count_2 : decode cX9_count 2 = .ok (.putfield 77, 3) := by decide +kernel
theorem dX9_count_5 : decode cX9_count 5 = .ok (.iload_n 1, 1) := by decide +kernel
theorem dX9_count_6 : decode cX9_count 6 = .ok (.tableswitch 59 0 4 #[34, 39, 44, 49, 54], 34) := by decide +kernel
theorem dX9_count_40 : decode cX9_count 40 = .ok (.aload_n 0, 1) := by decide +kernel
theorem dX9_count_41 : decode cX9_count 41 = .ok (.getfield 135, 3) := by decide +kernel
theorem dX9_count_44 : decode cX9_count 44 = .ok (.ireturn, 1) := by decide +kernel
theorem dX9_count_45 : decode cX9_count 45 = .ok (.aload_n 0, 1) := by decide +kernel
theorem dX9_count_46 : decode cX9_count 46 = .ok (.getfield 138, 3) := by decide +kernel
theorem dX9_count_49 : decode cX9_count 49 = .ok (.ireturn, 1) := by decide +kernel
theorem dX9_count_50 : decode cX9_count 50 = .ok (.aload_n 0, 1) := by decide +kernel
theorem dX9_count_51 : decode cX9_count 51 = .ok (.getfield 144, 3) := by decide +kernel
theorem dX9_count_54 : decode cX9_count 54 = .ok (.ireturn, 1) := by decide +kernel
theorem dX9_count_55 : decode cX9_count 55 = .ok (.aload_n 0, 1) := by decide +kernel
theorem dX9_count_56 : decode cX9_count 56 = .ok (.getfield 147, 3) := by decide +kernel
theorem dX9_count_59 : decode cX9_count 59 = .ok (.ireturn, 1) := by decide +kernel
theorem dX9_count_60 : decode cX9_count 60 = .ok (.aload_n 0, 1) := by decide +kernel
theorem dX9_count_61 : decode cX9_count 61 = .ok (.getfield 198, 3) := by decide +kernel
theorem dX9_count_64 : decode cX9_count 64 = .ok (.ireturn, 1) := by decide +kernel
theorem dX9_count_65 : decode cX9_count 65 = .ok (.ldc 251, 2) := by decide +kernel
theorem dX9_count_67 : decode cX9_count 67 = .ok (.ireturn, 1) := by decide +kernel
