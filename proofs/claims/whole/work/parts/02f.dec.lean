theorem dX12_decimate_35 : decode cX12_decimate 35 = .ok (.iconst 3, 1) := by decide +kernel
theorem dX12_decimate_36 : decode cX12_decimate 36 = .ok (.if_icmp .ge 5, 3) := by decide +kernel
theorem dX12_decimate_39 : decode cX12_decimate 39 = .ok (.iconst 0, 1) := by decide +kernel
theorem dX12_decimate_40 : decode cX12_decimate 40 = .ok (.ireturn, 1) := by decide +kernel
theorem dX12_decimate_41 : decode cX12_decimate 41 = .ok (.aload_n 0, 1) := by decide +kernel
theorem dX12_decimate_42 : decode cX12_decimate 42 = .ok (.iload_n 1, 1) := by decide +kernel
theorem dX12_decimate_43 : decode cX12_decimate 43 = .ok (.iconst 0, 1) := by decide +kernel
theorem dX12_decimate_44 : decode cX12_decimate 44 = .ok (.invokevirtual 82, 3) := by decide +kernel
theorem dX12_decimate_47 : decode cX12_decimate 47 = .ok (.istore 4, 2) := by decide +kernel
theorem dX12_decimate_49 : decode cX12_decimate 49 = .ok (.aload_n 0, 1) := by decide +kernel
theorem dX12_decimate_50 : decode cX12_decimate 50 = .ok (.iload_n 1, 1) := by decide +kernel
theorem dX12_decimate_51 : decode cX12_decimate 51 = .ok (.iload_n 3, 1) := by decide +kernel
theorem dX12_decimate_52 : decode cX12_decimate 52 = .ok (.iconst 1, 1) := by decide +kernel
theorem dX12_decimate_53 : decode cX12_decimate 53 = .ok (.isub, 1) := by decide +kernel
theorem dX12_decimate_54 : decode cX12_decimate 54 = .ok (.invokevirtual 82, 3) := by decide +kernel
theorem dX12_decimate_57 : decode cX12_decimate 57 = .ok (.istore 5, 2) := by decide +kernel
theorem dX12_decimate_59 : decode cX12_decimate 59 = .ok (.iload 4, 2) := by decide +kernel
theorem dX12_decimate_61 : decode cX12_decimate 61 = .ok (.istore 6, 2) := by decide +kernel
theorem dX12_decimate_63 : decode cX12_decimate 63 = .ok (.iload 6, 2) := by decide +kernel
theorem dX12_decimate_65 : decode cX12_decimate 65 = .ok (.iload 5, 2) := by decide +kernel
theorem dX12_decimate_67 : decode cX12_decimate 67 = .ok (.if_icmp .gt 26, 3) := by decide +kernel
theorem dX12_decimate_70 : decode cX12_decimate 70 = .ok (.aload_n 0, 1) := by decide +kernel
theorem dX12_decimate_71 : decode cX12_decimate 71 = .ok (.getfield 19, 3) := by decide +kernel
theorem dX12_decimate_74 : decode cX12_decimate 74 = .ok (.iload 6, 2) := by decide +kernel
theorem dX12_decimate_76 : decode cX12_decimate 76 = .ok (.iload 4, 2) := by decide +kernel
theorem dX12_decimate_78 : decode cX12_decimate 78 = .ok (.isub, 1) := by decide +kernel
theorem dX12_decimate_79 : decode cX12_decimate 79 = .ok (.aload_n 0, 1) := by decide +kernel
theorem dX12_decimate_80 : decode cX12_decimate 80 = .ok (.iload_n 1, 1) := by decide +kernel
theorem dX12_decimate_81 : decode cX12_decimate 81 = .ok (.iload 6, 2) := by decide +kernel
theorem dX12_decimate_83 : decode cX12_decimate 83 = .ok (.invokevirtual 133, 3) := by decide +kernel
theorem dX12_decimate_86 : decode cX12_decimate 86 = .ok (.iastore, 1) := by decide +kernel
theorem dX12_decimate_87 : decode cX12_decimate 87 = .ok (.iinc 6 1, 3) := by decide +kernel
theorem dX12_decimate_90 : decode cX12_decimate 90 = .ok (.goto (-27), 3) := by decide +kernel
theorem dX12_decimate_93 : decode cX12_decimate 93 = .ok (.iconst 1, 1) := by decide +kernel
theorem dX12_decimate_94 : decode cX12_decimate 94 = .ok (.istore 6, 2) := by decide +kernel
theorem dX12_decimate_96 : decode cX12_decimate 96 = .ok (.iload 6, 2) := by decide +kernel
theorem dX12_decimate_98 : decode cX12_decimate 98 = .ok (.ifCond .eq 106, 3) := by decide +kernel
theorem dX12_decimate_101 : decode cX12_decimate 101 = .ok (.iconst (-1), 1) := by decide +kernel
theorem dX12_decimate_102 : decode cX12_decimate 102 = .ok (.istore 7, 2) := by decide +kernel
theorem dX12_decimate_104 : decode cX12_decimate 104 = .ok (.iconst 0, 1) := by decide +kernel
theorem dX12_decimate_105 : decode cX12_decimate 105 = .ok (.istore 8, 2) := by decide +kernel
theorem dX12_decimate_107 : decode cX12_decimate 107 = .ok (.iconst 1, 1) := by decide +kernel
theorem dX12_decimate_108 : decode cX12_decimate 108 = .ok (.istore 9, 2) := by decide +kernel
theorem dX12_decimate_110 : decode cX12_decimate 110 = .ok (.iload 9, 2) := by decide +kernel
theorem dX12_decimate_112 : decode cX12_decimate 112 = .ok (.aload_n 0, 1) := by decide +kernel
theorem dX12_decimate_113 : decode cX12_decimate 113 = .ok (.iload_n 1, 1) := by decide +kernel
theorem dX12_decimate_114 : decode cX12_decimate 114 = .ok (.invokevirtual 78, 3) := by decide +kernel
theorem dX12_decimate_117 : decode cX12_decimate 117 = .ok (.iconst 1, 1) := by decide +kernel
theorem dX12_decimate_118 : decode cX12_decimate 118 = .ok (.isub, 1) := by decide +kernel
theorem dX12_decimate_119 : decode cX12_decimate 119 = .ok (.if_icmp .ge 52, 3) := by decide +kernel
theorem dX12_decimate_122 : decode cX12_decimate 122 = .ok (.aload_n 0, 1) := by decide +kernel
theorem dX12_decimate_123 : decode cX12_decimate 123 = .ok (.iload_n 1, 1) := by decide +kernel
theorem dX12_decimate_124 : decode cX12_decimate 124 = .ok (.iload 9, 2) := by decide +kernel
theorem dX12_decimate_126 : decode cX12_decimate 126 = .ok (.invokevirtual 196, 3) := by decide +kernel
theorem dX12_decimate_129 : decode cX12_decimate 129 = .ok (.aload_n 0, 1) := by decide +kernel
theorem dX12_decimate_130 : decode cX12_decimate 130 = .ok (.iload_n 1, 1) := by decide +kernel
theorem dX12_decimate_131 : decode cX12_decimate 131 = .ok (.iload 4, 2) := by decide +kernel
theorem dX12_decimate_133 : decode cX12_decimate 133 = .ok (.iload 5, 2) := by decide +kernel
theorem dX12_decimate_135 : decode cX12_decimate 135 = .ok (.invokevirtual 199, 3) := by decide +kernel
theorem dX12_decimate_138 : decode cX12_decimate 138 = .ok (.istore 10, 2) := by decide +kernel
theorem dX12_decimate_140 : decode cX12_decimate 140 = .ok (.aload_n 0, 1) := by decide +kernel
theorem dX12_decimate_141 : decode cX12_decimate 141 = .ok (.iload_n 1, 1) := by decide +kernel
theorem dX12_decimate_142 : decode cX12_decimate 142 = .ok (.invokevirtual 202, 3) := by decide +kernel
theorem dX12_decimate_145 : decode cX12_decimate 145 = .ok (.iload 7, 2) := by decide +kernel
theorem dX12_decimate_147 : decode cX12_decimate 147 = .ok (.ifCond .lt 10, 3) := by decide +kernel
theorem dX12_decimate_150 : decode cX12_decimate 150 = .ok (.iload 10, 2) := by decide +kernel
theorem dX12_decimate_152 : decode cX12_decimate 152 = .ok (.iload 8, 2) := by decide +kernel
theorem dX12_decimate_154 : decode cX12_decimate 154 = .ok (.if_icmp .ge 11, 3) := by decide +kernel
theorem dX12_decimate_157 : decode cX12_decimate 157 = .ok (.iload 9, 2) := by decide +kernel
theorem dX12_decimate_159 : decode cX12_decimate 159 = .ok (.istore 7, 2) := by decide +kernel
theorem dX12_decimate_161 : decode cX12_decimate 161 = .ok (.iload 10, 2) := by decide +kernel
theorem dX12_decimate_163 : decode cX12_decimate 163 = .ok (.istore 8, 2) := by decide +kernel
theorem dX12_decimate_165 : decode cX12_decimate 165 = .ok (.iinc 9 1, 3) := by decide +kernel
theorem dX12_decimate_168 : decode cX12_decimate 168 = .ok (.goto (-58), 3) := by decide +kernel
theorem dX12_decimate_171 : decode cX12_decimate 171 = .ok (.iload 7, 2) := by decide +kernel
theorem dX12_decimate_173 : decode cX12_decimate 173 = .ok (.ifCond .le 13, 3) := by decide +kernel
theorem dX12_decimate_176 : decode cX12_decimate 176 = .ok (.iload 8, 2) := by decide +kernel
theorem dX12_decimate_178 : decode cX12_decimate 178 = .ok (.iload_n 2, 1) := by decide +kernel
theorem dX12_decimate_179 : decode cX12_decimate 179 = .ok (.if_icmp .gt 7, 3) := by decide +kernel
theorem dX12_decimate_182 : decode cX12_decimate 182 = .ok (.iconst 1, 1) := by decide +kernel
theorem dX12_decimate_183 : decode cX12_decimate 183 = .ok (.goto 4, 3) := by decide +kernel
theorem dX12_decimate_186 : decode cX12_decimate 186 = .ok (.iconst 0, 1) := by decide +kernel
theorem dX12_decimate_187 : decode cX12_decimate 187 = .ok (.istore 6, 2) := by decide +kernel
theorem dX12_decimate_189 : decode cX12_decimate 189 = .ok (.iload 6, 2) := by decide +kernel
theorem dX12_decimate_191 : decode cX12_decimate 191 = .ok (.ifCond .eq 10, 3) := by decide +kernel
theorem dX12_decimate_194 : decode cX12_decimate 194 = .ok (.aload_n 0, 1) := by decide +kernel
theorem dX12_decimate_195 : decode cX12_decimate 195 = .ok (.iload_n 1, 1) := by decide +kernel
theorem dX12_decimate_196 : decode cX12_decimate 196 = .ok (.iload 7, 2) := by decide +kernel
theorem dX12_decimate_198 : decode cX12_decimate 198 = .ok (.invokevirtual 153, 3) := by decide +kernel
theorem dX12_decimate_201 : decode cX12_decimate 201 = .ok (.goto (-105), 3) := by decide +kernel
theorem dX12_decimate_204 : decode cX12_decimate 204 = .ok (.iload_n 3, 1) := by decide +kernel
theorem dX12_decimate_205 : decode cX12_decimate 205 = .ok (.aload_n 0, 1) := by decide +kernel
theorem dX12_decimate_206 : decode cX12_decimate 206 = .ok (.iload_n 1, 1) := by decide +kernel
theorem dX12_decimate_207 : decode cX12_decimate 207 = .ok (.invokevirtual 78, 3) := by decide +kernel
theorem dX12_decimate_210 : decode cX12_decimate 210 = .ok (.isub, 1) := by decide +kernel
theorem dX12_decimate_211 : decode cX12_decimate 211 = .ok (.ireturn, 1) := by decide +kernel
theorem dX12_append_0 : decode cX12_append 0 = .ok (.iload_n 1, 1) := by decide +kernel
theorem dX12_append_1 : decode cX12_append 1 = .ok (.iconst 0, 1) := by decide +kernel
theorem dX12_append_2 : decode cX12_append 2 = .ok (.bipush 127, 2) := by decide +kernel
theorem dX12_append_4 : decode cX12_append 4 = .ok (.invokestatic 66, 3) := by decide +kernel
theorem dX12_append_7 : decode cX12_append 7 = .ok (.ifCond .ne 6, 3) := by decide +kernel
theorem dX12_append_10 : decode cX12_append 10 = .ok (.ldc 132, 2) := by decide +kernel
theorem dX12_append_12 : decode cX12_append 12 = .ok (.ireturn, 1) := by decide +kernel
theorem dX12_append_13 : decode cX12_append 13 = .ok (.aload_n 0, 1) := by decide +kernel
theorem dX12_append_14 : decode cX12_append 14 = .ok (.getfield 206, 3) := by decide +kernel
theorem dX12_append_17 : decode cX12_append 17 = .ok (.bipush 120, 2) := by decide +kernel
theorem dX12_append_19 : decode cX12_append 19 = .ok (.if_icmp .ne 6, 3) := by decide +kernel
theorem dX12_append_22 : decode cX12_append 22 = .ok (.ldc 145, 2) := by decide +kernel
theorem dX12_append_24 : decode cX12_append 24 = .ok (.ireturn, 1) := by decide +kernel
theorem dX12_append_25 : decode cX12_append 25 = .ok (.aload_n 0, 1) := by decide +kernel
theorem dX12_append_26 : decode cX12_append 26 = .ok (.getfield 16, 3) := by decide +kernel
theorem dX12_append_29 : decode cX12_append 29 = .ok (.aload_n 0, 1) := by decide +kernel
theorem dX12_append_30 : decode cX12_append 30 = .ok (.getfield 206, 3) := by decide +kernel
theorem dX12_append_33 : decode cX12_append 33 = .ok (.iload_n 1, 1) := by decide +kernel
theorem dX12_append_34 : decode cX12_append 34 = .ok (.iastore, 1) := by decide +kernel
theorem dX12_append_35 : decode cX12_append 35 = .ok (.aload_n 0, 1) := by decide +kernel
theorem dX12_append_36 : decode cX12_append 36 = .ok (.dup, 1) := by decide +kernel
theorem dX12_append_37 : decode cX12_append 37 = .ok (.getfield 206, 3) := by decide +kernel
theorem dX12_append_40 : decode cX12_append 40 = .ok (.iconst 1, 1) := by decide +kernel
theorem dX12_append_41 : decode cX12_append 41 = .ok (.iadd, 1) := by decide +kernel
theorem dX12_append_42 : decode cX12_append 42 = .ok (.putfield 206, 3) := by decide +kernel
theorem dX12_append_45 : decode cX12_append 45 = .ok (.aload_n 0, 1) := by decide +kernel
theorem dX12_append_46 : decode cX12_append 46 = .ok (.getfield 206, 3) := by decide +kernel
theorem dX12_append_49 : decode cX12_append 49 = .ok (.ireturn, 1) := by decide +kernel
theorem dX12_clearText_0 : decode cX12_clearText 0 = .ok (.aload_n 0, 1) := by decide +kernel
theorem dX12_clearText_1 : decode cX12_clearText 1 = .ok (.getfield 206, 3) := by decide +kernel
theorem dX12_clearText_4 : decode cX12_clearText 4 = .ok (.istore_n 1, 1) := by decide +kernel
theorem dX12_clearText_5 : decode cX12_clearText 5 = .ok (.aload_n 0, 1) := by decide +kernel
theorem dX12_clearText_6 : decode cX12_clearText 6 = .ok (.iconst 0, 1) := by decide +kernel
theorem dX12_clearText_7 : decode cX12_clearText 7 = .ok (.putfield 206, 3) := by decide +kernel
theorem dX12_clearText_10 : decode cX12_clearText 10 = .ok (.iload_n 1, 1) := by decide +kernel
theorem dX12_clearText_11 : decode cX12_clearText 11 = .ok (.ireturn, 1) := by decide +kernel
theorem dX12_here_0 : decode cX12_here 0 = .ok (.aload_n 0, 1) := by decide +kernel
theorem dX12_here_1 : decode cX12_here 1 = .ok (.getfield 209, 3) := by decide +kernel
theorem dX12_here_4 : decode cX12_here 4 = .ok (.ifCond .eq 36, 3) := by decide +kernel
theorem dX12_here_7 : decode cX12_here 7 = .ok (.aload_n 0, 1) := by decide +kernel
theorem dX12_here_8 : decode cX12_here 8 = .ok (.getfield 213, 3) := by decide +kernel
theorem dX12_here_11 : decode cX12_here 11 = .ok (.aload_n 0, 1) := by decide +kernel
theorem dX12_here_12 : decode cX12_here 12 = .ok (.getfield 7, 3) := by decide +kernel
theorem dX12_here_15 : decode cX12_here 15 = .ok (.sipush 530, 3) := by decide +kernel
theorem dX12_here_18 : decode cX12_here 18 = .ok (.iaload, 1) := by decide +kernel
theorem dX12_here_19 : decode cX12_here 19 = .ok (.if_icmp .ge 19, 3) := by decide +kernel
theorem dX12_here_22 : decode cX12_here 22 = .ok (.aload_n 0, 1) := by decide +kernel
theorem dX12_here_23 : decode cX12_here 23 = .ok (.getfield 7, 3) := by decide +kernel
theorem dX12_here_26 : decode cX12_here 26 = .ok (.sipush 531, 3) := by decide +kernel
theorem dX12_here_29 : decode cX12_here 29 = .ok (.aload_n 0, 1) := by decide +kernel
theorem dX12_here_30 : decode cX12_here 30 = .ok (.getfield 213, 3) := by decide +kernel
theorem dX12_here_33 : decode cX12_here 33 = .ok (.iadd, 1) := by decide +kernel
theorem dX12_here_34 : decode cX12_here 34 = .ok (.iaload, 1) := by decide +kernel
theorem dX12_here_35 : decode cX12_here 35 = .ok (.goto 4, 3) := by decide +kernel
theorem dX12_here_38 : decode cX12_here 38 = .ok (.iconst (-1), 1) := by decide +kernel
theorem dX12_here_39 : decode cX12_here 39 = .ok (.ireturn, 1) := by decide +kernel
theorem dX12_here_40 : decode cX12_here 40 = .ok (.aload_n 0, 1) := by decide +kernel
theorem dX12_here_41 : decode cX12_here 41 = .ok (.getfield 213, 3) := by decide +kernel
theorem dX12_here_44 : decode cX12_here 44 = .ok (.aload_n 0, 1) := by decide +kernel
theorem dX12_here_45 : decode cX12_here 45 = .ok (.getfield 206, 3) := by decide +kernel
theorem dX12_here_48 : decode cX12_here 48 = .ok (.if_icmp .ge 15, 3) := by decide +kernel
theorem dX12_here_51 : decode cX12_here 51 = .ok (.aload_n 0, 1) := by decide +kernel
theorem dX12_here_52 : decode cX12_here 52 = .ok (.getfield 16, 3) := by decide +kernel
theorem dX12_here_55 : decode cX12_here 55 = .ok (.aload_n 0, 1) := by decide +kernel
theorem dX12_here_56 : decode cX12_here 56 = .ok (.getfield 213, 3) := by decide +kernel
theorem dX12_here_59 : decode cX12_here 59 = .ok (.iaload, 1) := by decide +kernel
theorem dX12_here_60 : decode cX12_here 60 = .ok (.goto 4, 3) := by decide +kernel
theorem dX12_here_63 : decode cX12_here 63 = .ok (.iconst (-1), 1) := by decide +kernel
theorem dX12_here_64 : decode cX12_here 64 = .ok (.ireturn, 1) := by decide +kernel
theorem dX12_faults_0 : decode cX12_faults 0 = .ok (.aload_n 0, 1) := by decide +kernel
theorem dX12_faults_1 : decode cX12_faults 1 = .ok (.aload_n 0, 1) := by decide +kernel
theorem dX12_faults_2 : decode cX12_faults 2 = .ok (.getfield 216, 3) := by decide +kernel
theorem dX12_faults_5 : decode cX12_faults 5 = .ok (.ifCond .ge 7, 3) := by decide +kernel
theorem dX12_faults_8 : decode cX12_faults 8 = .ok (.iload_n 1, 1) := by decide +kernel
theorem dX12_faults_9 : decode cX12_faults 9 = .ok (.goto 7, 3) := by decide +kernel
theorem dX12_faults_12 : decode cX12_faults 12 = .ok (.aload_n 0, 1) := by decide +kernel
theorem dX12_faults_13 : decode cX12_faults 13 = .ok (.getfield 216, 3) := by decide +kernel
theorem dX12_faults_16 : decode cX12_faults 16 = .ok (.putfield 216, 3) := by decide +kernel
theorem dX12_faults_19 : decode cX12_faults 19 = .ok (.return_, 1) := by decide +kernel
theorem dX12_is_0 : decode cX12_is 0 = .ok (.aload_n 0, 1) := by decide +kernel
theorem dX12_is_1 : decode cX12_is 1 = .ok (.getfield 216, 3) := by decide +kernel
theorem dX12_is_4 : decode cX12_is 4 = .ok (.ifCond .ge 15, 3) := by decide +kernel
theorem dX12_is_7 : decode cX12_is 7 = .ok (.aload_n 0, 1) := by decide +kernel
theorem dX12_is_8 : decode cX12_is 8 = .ok (.invokevirtual 219, 3) := by decide +kernel
theorem dX12_is_11 : decode cX12_is 11 = .ok (.iload_n 1, 1) := by decide +kernel
theorem dX12_is_12 : decode cX12_is 12 = .ok (.if_icmp .ne 7, 3) := by decide +kernel
theorem dX12_is_15 : decode cX12_is 15 = .ok (.iconst 1, 1) := by decide +kernel
theorem dX12_is_16 : decode cX12_is 16 = .ok (.goto 4, 3) := by decide +kernel
theorem dX12_is_19 : decode cX12_is 19 = .ok (.iconst 0, 1) := by decide +kernel
theorem dX12_is_20 : decode cX12_is 20 = .ok (.ireturn, 1) := by decide +kernel
theorem dX12_must_0 : decode cX12_must 0 = .ok (.aload_n 0, 1) := by decide +kernel
theorem dX12_must_1 : decode cX12_must 1 = .ok (.iload_n 1, 1) := by decide +kernel
theorem dX12_must_2 : decode cX12_must 2 = .ok (.invokevirtual 223, 3) := by decide +kernel
theorem dX12_must_5 : decode cX12_must 5 = .ok (.ifCond .eq 16, 3) := by decide +kernel
theorem dX12_must_8 : decode cX12_must 8 = .ok (.aload_n 0, 1) := by decide +kernel
theorem dX12_must_9 : decode cX12_must 9 = .ok (.dup, 1) := by decide +kernel
theorem dX12_must_10 : decode cX12_must 10 = .ok (.getfield 213, 3) := by decide +kernel
theorem dX12_must_13 : decode cX12_must 13 = .ok (.iconst 1, 1) := by decide +kernel
theorem dX12_must_14 : decode cX12_must 14 = .ok (.iadd, 1) := by decide +kernel
theorem dX12_must_15 : decode cX12_must 15 = .ok (.putfield 213, 3) := by decide +kernel
theorem dX12_must_18 : decode cX12_must 18 = .ok (.goto 11, 3) := by decide +kernel
theorem dX12_must_21 : decode cX12_must 21 = .ok (.aload_n 0, 1) := by decide +kernel
theorem dX12_must_22 : decode cX12_must 22 = .ok (.aload_n 0, 1) := by decide +kernel
theorem dX12_must_23 : decode cX12_must 23 = .ok (.getfield 213, 3) := by decide +kernel
theorem dX12_must_26 : decode cX12_must 26 = .ok (.invokevirtual 226, 3) := by decide +kernel
theorem dX12_must_29 : decode cX12_must 29 = .ok (.return_, 1) := by decide +kernel
theorem dX12_number_0 : decode cX12_number 0 = .ok (.aload_n 0, 1) := by decide +kernel
theorem dX12_number_1 : decode cX12_number 1 = .ok (.getfield 213, 3) := by decide +kernel
theorem dX12_number_4 : decode cX12_number 4 = .ok (.istore_n 1, 1) := by decide +kernel
theorem dX12_number_5 : decode cX12_number 5 = .ok (.iconst 0, 1) := by decide +kernel
theorem dX12_number_6 : decode cX12_number 6 = .ok (.istore_n 2, 1) := by decide +kernel
theorem dX12_number_7 : decode cX12_number 7 = .ok (.aload_n 0, 1) := by decide +kernel
theorem dX12_number_8 : decode cX12_number 8 = .ok (.getfield 216, 3) := by decide +kernel
theorem dX12_number_11 : decode cX12_number 11 = .ok (.ifCond .ge 57, 3) := by decide +kernel
theorem dX12_number_14 : decode cX12_number 14 = .ok (.aload_n 0, 1) := by decide +kernel
theorem dX12_number_15 : decode cX12_number 15 = .ok (.invokevirtual 219, 3) := by decide +kernel
theorem dX12_number_18 : decode cX12_number 18 = .ok (.bipush 48, 2) := by decide +kernel
theorem dX12_number_20 : decode cX12_number 20 = .ok (.bipush 57, 2) := by decide +kernel
theorem dX12_number_22 : decode cX12_number 22 = .ok (.invokestatic 66, 3) := by decide +kernel
theorem dX12_number_25 : decode cX12_number 25 = .ok (.ifCond .eq 43, 3) := by decide +kernel
theorem dX12_number_28 : decode cX12_number 28 = .ok (.aload_n 0, 1) := by decide +kernel
theorem dX12_number_29 : decode cX12_number 29 = .ok (.getfield 213, 3) := by decide +kernel
theorem dX12_number_32 : decode cX12_number 32 = .ok (.iload_n 1, 1) := by decide +kernel
theorem dX12_number_33 : decode cX12_number 33 = .ok (.isub, 1) := by decide +kernel
theorem dX12_number_34 : decode cX12_number 34 = .ok (.iconst 4, 1) := by decide +kernel
theorem dX12_number_35 : decode cX12_number 35 = .ok (.if_icmp .ge 18, 3) := by decide +kernel
theorem dX12_number_38 : decode cX12_number 38 = .ok (.bipush 10, 2) := by decide +kernel
theorem dX12_number_40 : decode cX12_number 40 = .ok (.iload_n 2, 1) := by decide +kernel
theorem dX12_number_41 : decode cX12_number 41 = .ok (.imul, 1) := by decide +kernel
theorem dX12_number_42 : decode cX12_number 42 = .ok (.aload_n 0, 1) := by decide +kernel
theorem dX12_number_43 : decode cX12_number 43 = .ok (.invokevirtual 219, 3) := by decide +kernel
theorem dX12_number_46 : decode cX12_number 46 = .ok (.iadd, 1) := by decide +kernel
theorem dX12_number_47 : decode cX12_number 47 = .ok (.bipush 48, 2) := by decide +kernel
theorem dX12_number_49 : decode cX12_number 49 = .ok (.isub, 1) := by decide +kernel
theorem dX12_number_50 : decode cX12_number 50 = .ok (.goto 4, 3) := by decide +kernel
theorem dX12_number_53 : decode cX12_number 53 = .ok (.iload_n 2, 1) := by decide +kernel
theorem dX12_number_54 : decode cX12_number 54 = .ok (.istore_n 2, 1) := by decide +kernel
theorem dX12_number_55 : decode cX12_number 55 = .ok (.aload_n 0, 1) := by decide +kernel
theorem dX12_number_56 : decode cX12_number 56 = .ok (.dup, 1) := by decide +kernel
theorem dX12_number_57 : decode cX12_number 57 = .ok (.getfield 213, 3) := by decide +kernel
theorem dX12_number_60 : decode cX12_number 60 = .ok (.iconst 1, 1) := by decide +kernel
theorem dX12_number_61 : decode cX12_number 61 = .ok (.iadd, 1) := by decide +kernel
theorem dX12_number_62 : decode cX12_number 62 = .ok (.putfield 213, 3) := by decide +kernel
theorem dX12_number_65 : decode cX12_number 65 = .ok (.goto (-58), 3) := by decide +kernel
theorem dX12_number_68 : decode cX12_number 68 = .ok (.aload_n 0, 1) := by decide +kernel
theorem dX12_number_69 : decode cX12_number 69 = .ok (.getfield 213, 3) := by decide +kernel
theorem dX12_number_72 : decode cX12_number 72 = .ok (.iload_n 1, 1) := by decide +kernel
theorem dX12_number_73 : decode cX12_number 73 = .ok (.if_icmp .eq 13, 3) := by decide +kernel
theorem dX12_number_76 : decode cX12_number 76 = .ok (.aload_n 0, 1) := by decide +kernel
theorem dX12_number_77 : decode cX12_number 77 = .ok (.getfield 213, 3) := by decide +kernel
theorem dX12_number_80 : decode cX12_number 80 = .ok (.iload_n 1, 1) := by decide +kernel
theorem dX12_number_81 : decode cX12_number 81 = .ok (.isub, 1) := by decide +kernel
theorem dX12_number_82 : decode cX12_number 82 = .ok (.iconst 3, 1) := by decide +kernel
theorem dX12_number_83 : decode cX12_number 83 = .ok (.if_icmp .le 8, 3) := by decide +kernel
theorem dX12_number_86 : decode cX12_number 86 = .ok (.aload_n 0, 1) := by decide +kernel
theorem dX12_number_87 : decode cX12_number 87 = .ok (.iload_n 1, 1) := by decide +kernel
theorem dX12_number_88 : decode cX12_number 88 = .ok (.invokevirtual 226, 3) := by decide +kernel
theorem dX12_number_91 : decode cX12_number 91 = .ok (.iload_n 2, 1) := by decide +kernel
theorem dX12_number_92 : decode cX12_number 92 = .ok (.ireturn, 1) := by decide +kernel
theorem dX12_begins_0 : decode cX12_begins 0 = .ok (.aload_n 0, 1) := by decide +kernel
theorem dX12_begins_1 : decode cX12_begins 1 = .ok (.iload_n 1, 1) := by decide +kernel
theorem dX12_begins_2 : decode cX12_begins 2 = .ok (.putfield 209, 3) := by decide +kernel
theorem dX12_begins_5 : decode cX12_begins 5 = .ok (.aload_n 0, 1) := by decide +kernel
theorem dX12_begins_6 : decode cX12_begins 6 = .ok (.iconst 0, 1) := by decide +kernel
theorem dX12_begins_7 : decode cX12_begins 7 = .ok (.putfield 213, 3) := by decide +kernel
theorem dX12_begins_10 : decode cX12_begins 10 = .ok (.aload_n 0, 1) := by decide +kernel
theorem dX12_begins_11 : decode cX12_begins 11 = .ok (.iconst (-1), 1) := by decide +kernel
theorem dX12_begins_12 : decode cX12_begins 12 = .ok (.putfield 216, 3) := by decide +kernel
theorem dX12_begins_15 : decode cX12_begins 15 = .ok (.aload_n 0, 1) := by decide +kernel
theorem dX12_begins_16 : decode cX12_begins 16 = .ok (.iconst 0, 1) := by decide +kernel
theorem dX12_begins_17 : decode cX12_begins 17 = .ok (.putfield 229, 3) := by decide +kernel
theorem dX12_begins_20 : decode cX12_begins 20 = .ok (.aload_n 0, 1) := by decide +kernel
theorem dX12_begins_21 : decode cX12_begins 21 = .ok (.iconst 0, 1) := by decide +kernel
theorem dX12_begins_22 : decode cX12_begins 22 = .ok (.putfield 232, 3) := by decide +kernel
theorem dX12_begins_25 : decode cX12_begins 25 = .ok (.aload_n 0, 1) := by decide +kernel
theorem dX12_begins_26 : decode cX12_begins 26 = .ok (.iload_n 2, 1) := by decide +kernel
theorem dX12_begins_27 : decode cX12_begins 27 = .ok (.putfield 235, 3) := by decide +kernel
theorem dX12_begins_30 : decode cX12_begins 30 = .ok (.return_, 1) := by decide +kernel
theorem dX12_opens_0 : decode cX12_opens 0 = .ok (.iload_n 1, 1) := by decide +kernel
theorem dX12_opens_1 : decode cX12_opens 1 = .ok (.ifCond .le 21, 3) := by decide +kernel
theorem dX12_opens_4 : decode cX12_opens 4 = .ok (.aload_n 0, 1) := by decide +kernel
theorem dX12_opens_5 : decode cX12_opens 5 = .ok (.getfield 229, 3) := by decide +kernel
theorem dX12_opens_8 : decode cX12_opens 8 = .ok (.bipush 8, 2) := by decide +kernel
theorem dX12_opens_10 : decode cX12_opens 10 = .ok (.if_icmp .ne 12, 3) := by decide +kernel
theorem dX12_opens_13 : decode cX12_opens 13 = .ok (.aload_n 0, 1) := by decide +kernel
theorem dX12_opens_14 : decode cX12_opens 14 = .ok (.aload_n 0, 1) := by decide +kernel
theorem dX12_opens_15 : decode cX12_opens 15 = .ok (.getfield 213, 3) := by decide +kernel
theorem dX12_opens_18 : decode cX12_opens 18 = .ok (.invokevirtual 226, 3) := by decide +kernel
theorem dX12_opens_21 : decode cX12_opens 21 = .ok (.return_, 1) := by decide +kernel
theorem dX12_opens_22 : decode cX12_opens 22 = .ok (.aload_n 0, 1) := by decide +kernel
theorem dX12_opens_23 : decode cX12_opens 23 = .ok (.dup, 1) := by decide +kernel
theorem dX12_opens_24 : decode cX12_opens 24 = .ok (.getfield 229, 3) := by decide +kernel
theorem dX12_opens_27 : decode cX12_opens 27 = .ok (.iload_n 1, 1) := by decide +kernel
theorem dX12_opens_28 : decode cX12_opens 28 = .ok (.ifCond .le 7, 3) := by decide +kernel
theorem dX12_opens_31 : decode cX12_opens 31 = .ok (.iconst 1, 1) := by decide +kernel
theorem dX12_opens_32 : decode cX12_opens 32 = .ok (.goto 4, 3) := by decide +kernel
theorem dX12_opens_35 : decode cX12_opens 35 = .ok (.iconst 0, 1) := by decide +kernel
theorem dX12_opens_36 : decode cX12_opens 36 = .ok (.iadd, 1) := by decide +kernel
theorem dX12_opens_37 : decode cX12_opens 37 = .ok (.putfield 229, 3) := by decide +kernel
theorem dX12_opens_40 : decode cX12_opens 40 = .ok (.aload_n 0, 1) := by decide +kernel
theorem dX12_opens_41 : decode cX12_opens 41 = .ok (.dup, 1) := by decide +kernel
theorem dX12_opens_42 : decode cX12_opens 42 = .ok (.getfield 238, 3) := by decide +kernel
theorem dX12_opens_45 : decode cX12_opens 45 = .ok (.iconst 1, 1) := by decide +kernel
theorem dX12_opens_46 : decode cX12_opens 46 = .ok (.iadd, 1) := by decide +kernel
theorem dX12_opens_47 : decode cX12_opens 47 = .ok (.putfield 238, 3) := by decide +kernel
theorem dX12_opens_50 : decode cX12_opens 50 = .ok (.aload_n 0, 1) := by decide +kernel
theorem dX12_opens_51 : decode cX12_opens 51 = .ok (.getfield 38, 3) := by decide +kernel
theorem dX12_opens_54 : decode cX12_opens 54 = .ok (.aload_n 0, 1) := by decide +kernel
theorem dX12_opens_55 : decode cX12_opens 55 = .ok (.getfield 238, 3) := by decide +kernel
theorem dX12_opens_58 : decode cX12_opens 58 = .ok (.iload_n 1, 1) := by decide +kernel
theorem dX12_opens_59 : decode cX12_opens 59 = .ok (.iastore, 1) := by decide +kernel
theorem dX12_opens_60 : decode cX12_opens 60 = .ok (.aload_n 0, 1) := by decide +kernel
theorem dX12_opens_61 : decode cX12_opens 61 = .ok (.getfield 41, 3) := by decide +kernel
theorem dX12_opens_64 : decode cX12_opens 64 = .ok (.aload_n 0, 1) := by decide +kernel
theorem dX12_opens_65 : decode cX12_opens 65 = .ok (.getfield 238, 3) := by decide +kernel
theorem dX12_opens_68 : decode cX12_opens 68 = .ok (.iconst 0, 1) := by decide +kernel
theorem dX12_opens_69 : decode cX12_opens 69 = .ok (.iastore, 1) := by decide +kernel
theorem dX12_opens_70 : decode cX12_opens 70 = .ok (.aload_n 0, 1) := by decide +kernel
theorem dX12_opens_71 : decode cX12_opens 71 = .ok (.getfield 50, 3) := by decide +kernel
theorem dX12_opens_74 : decode cX12_opens 74 = .ok (.aload_n 0, 1) := by decide +kernel
theorem dX12_opens_75 : decode cX12_opens 75 = .ok (.getfield 238, 3) := by decide +kernel
theorem dX12_opens_78 : decode cX12_opens 78 = .ok (.iconst 0, 1) := by decide +kernel
theorem dX12_opens_79 : decode cX12_opens 79 = .ok (.bastore, 1) := by decide +kernel
theorem dX12_opens_80 : decode cX12_opens 80 = .ok (.return_, 1) := by decide +kernel
theorem dX12_closes_0 : decode cX12_closes 0 = .ok (.aload_n 0, 1) := by decide +kernel
theorem dX12_closes_1 : decode cX12_closes 1 = .ok (.dup, 1) := by decide +kernel
theorem dX12_closes_2 : decode cX12_closes 2 = .ok (.getfield 238, 3) := by decide +kernel
theorem dX12_closes_5 : decode cX12_closes 5 = .ok (.iconst 1, 1) := by decide +kernel
theorem dX12_closes_6 : decode cX12_closes 6 = .ok (.isub, 1) := by decide +kernel
theorem dX12_closes_7 : decode cX12_closes 7 = .ok (.putfield 238, 3) := by decide +kernel
theorem dX12_closes_10 : decode cX12_closes 10 = .ok (.aload_n 0, 1) := by decide +kernel
theorem dX12_closes_11 : decode cX12_closes 11 = .ok (.dup, 1) := by decide +kernel
theorem dX12_closes_12 : decode cX12_closes 12 = .ok (.getfield 229, 3) := by decide +kernel
theorem dX12_closes_15 : decode cX12_closes 15 = .ok (.iconst 1, 1) := by decide +kernel
theorem dX12_closes_16 : decode cX12_closes 16 = .ok (.isub, 1) := by decide +kernel
theorem dX12_closes_17 : decode cX12_closes 17 = .ok (.putfield 229, 3) := by decide +kernel
theorem dX12_closes_20 : decode cX12_closes 20 = .ok (.return_, 1) := by decide +kernel
theorem dX12_isOver_0 : decode cX12_isOver 0 = .ok (.aload_n 0, 1) := by decide +kernel
theorem dX12_isOver_1 : decode cX12_isOver 1 = .ok (.getfield 38, 3) := by decide +kernel
theorem dX12_isOver_4 : decode cX12_isOver 4 = .ok (.aload_n 0, 1) := by decide +kernel
theorem dX12_isOver_5 : decode cX12_isOver 5 = .ok (.getfield 238, 3) := by decide +kernel
theorem dX12_isOver_8 : decode cX12_isOver 8 = .ok (.iaload, 1) := by decide +kernel
theorem dX12_isOver_9 : decode cX12_isOver 9 = .ok (.istore_n 1, 1) := by decide +kernel
theorem dX12_isOver_10 : decode cX12_isOver 10 = .ok (.aload_n 0, 1) := by decide +kernel
theorem dX12_isOver_11 : decode cX12_isOver 11 = .ok (.getfield 44, 3) := by decide +kernel
theorem dX12_isOver_14 : decode cX12_isOver 14 = .ok (.aload_n 0, 1) := by decide +kernel
theorem dX12_isOver_15 : decode cX12_isOver 15 = .ok (.getfield 238, 3) := by decide +kernel
theorem dX12_isOver_18 : decode cX12_isOver 18 = .ok (.iaload, 1) := by decide +kernel
theorem dX12_isOver_19 : decode cX12_isOver 19 = .ok (.istore_n 2, 1) := by decide +kernel
theorem dX12_isOver_20 : decode cX12_isOver 20 = .ok (.iload_n 1, 1) := by decide +kernel
theorem dX12_isOver_21 : decode cX12_isOver 21 = .ok (.iconst 3, 1) := by decide +kernel
theorem dX12_isOver_22 : decode cX12_isOver 22 = .ok (.if_icmp .eq 8, 3) := by decide +kernel
theorem dX12_isOver_25 : decode cX12_isOver 25 = .ok (.iload_n 1, 1) := by decide +kernel
theorem dX12_isOver_26 : decode cX12_isOver 26 = .ok (.iconst 5, 1) := by decide +kernel
theorem dX12_isOver_27 : decode cX12_isOver 27 = .ok (.if_icmp .ne 54, 3) := by decide +kernel
theorem dX12_isOver_30 : decode cX12_isOver 30 = .ok (.aload_n 0, 1) := by decide +kernel
theorem dX12_isOver_31 : decode cX12_isOver 31 = .ok (.bipush 44, 2) := by decide +kernel
theorem dX12_isOver_33 : decode cX12_isOver 33 = .ok (.invokevirtual 241, 3) := by decide +kernel
theorem dX12_isOver_36 : decode cX12_isOver 36 = .ok (.aload_n 0, 1) := by decide +kernel
theorem dX12_isOver_37 : decode cX12_isOver 37 = .ok (.getfield 54, 3) := by decide +kernel
theorem dX12_isOver_40 : decode cX12_isOver 40 = .ok (.aload_n 0, 1) := by decide +kernel
theorem dX12_isOver_41 : decode cX12_isOver 41 = .ok (.getfield 238, 3) := by decide +kernel
theorem dX12_isOver_44 : decode cX12_isOver 44 = .ok (.iload_n 2, 1) := by decide +kernel
theorem dX12_isOver_45 : decode cX12_isOver 45 = .ok (.iastore, 1) := by decide +kernel
theorem dX12_isOver_46 : decode cX12_isOver 46 = .ok (.aload_n 0, 1) := by decide +kernel
theorem dX12_isOver_47 : decode cX12_isOver 47 = .ok (.getfield 38, 3) := by decide +kernel
theorem dX12_isOver_50 : decode cX12_isOver 50 = .ok (.aload_n 0, 1) := by decide +kernel
theorem dX12_isOver_51 : decode cX12_isOver 51 = .ok (.getfield 238, 3) := by decide +kernel
theorem dX12_isOver_54 : decode cX12_isOver 54 = .ok (.dup2, 1) := by decide +kernel
theorem dX12_isOver_55 : decode cX12_isOver 55 = .ok (.iaload, 1) := by decide +kernel
theorem dX12_isOver_56 : decode cX12_isOver 56 = .ok (.iconst 1, 1) := by decide +kernel
theorem dX12_isOver_57 : decode cX12_isOver 57 = .ok (.iadd, 1) := by decide +kernel
theorem dX12_isOver_58 : decode cX12_isOver 58 = .ok (.iastore, 1) := by decide +kernel
theorem dX12_isOver_59 : decode cX12_isOver 59 = .ok (.aload_n 0, 1) := by decide +kernel
theorem dX12_isOver_60 : decode cX12_isOver 60 = .ok (.getfield 41, 3) := by decide +kernel
theorem dX12_isOver_63 : decode cX12_isOver 63 = .ok (.aload_n 0, 1) := by decide +kernel
theorem dX12_isOver_64 : decode cX12_isOver 64 = .ok (.getfield 238, 3) := by decide +kernel
theorem dX12_isOver_67 : decode cX12_isOver 67 = .ok (.iconst 0, 1) := by decide +kernel
theorem dX12_isOver_68 : decode cX12_isOver 68 = .ok (.iastore, 1) := by decide +kernel
theorem dX12_isOver_69 : decode cX12_isOver 69 = .ok (.aload_n 0, 1) := by decide +kernel
theorem dX12_isOver_70 : decode cX12_isOver 70 = .ok (.getfield 50, 3) := by decide +kernel
theorem dX12_isOver_73 : decode cX12_isOver 73 = .ok (.aload_n 0, 1) := by decide +kernel
theorem dX12_isOver_74 : decode cX12_isOver 74 = .ok (.getfield 238, 3) := by decide +kernel
theorem dX12_isOver_77 : decode cX12_isOver 77 = .ok (.iconst 0, 1) := by decide +kernel
theorem dX12_isOver_78 : decode cX12_isOver 78 = .ok (.bastore, 1) := by decide +kernel
theorem dX12_isOver_79 : decode cX12_isOver 79 = .ok (.iconst 0, 1) := by decide +kernel
theorem dX12_isOver_80 : decode cX12_isOver 80 = .ok (.ireturn, 1) := by decide +kernel
theorem dX12_isOver_81 : decode cX12_isOver 81 = .ok (.iload_n 1, 1) := by decide +kernel
theorem dX12_isOver_82 : decode cX12_isOver 82 = .ok (.iconst 4, 1) := by decide +kernel
theorem dX12_isOver_83 : decode cX12_isOver 83 = .ok (.if_icmp .ne 20, 3) := by decide +kernel
theorem dX12_isOver_86 : decode cX12_isOver 86 = .ok (.aload_n 0, 1) := by decide +kernel
theorem dX12_isOver_87 : decode cX12_isOver 87 = .ok (.getfield 54, 3) := by decide +kernel
theorem dX12_isOver_90 : decode cX12_isOver 90 = .ok (.aload_n 0, 1) := by decide +kernel
theorem dX12_isOver_91 : decode cX12_isOver 91 = .ok (.getfield 238, 3) := by decide +kernel
theorem dX12_isOver_94 : decode cX12_isOver 94 = .ok (.iaload, 1) := by decide +kernel
theorem dX12_isOver_95 : decode cX12_isOver 95 = .ok (.iload_n 2, 1) := by decide +kernel
theorem dX12_isOver_96 : decode cX12_isOver 96 = .ok (.invokestatic 105, 3) := by decide +kernel
theorem dX12_isOver_99 : decode cX12_isOver 99 = .ok (.istore_n 2, 1) := by decide +kernel
theorem dX12_isOver_100 : decode cX12_isOver 100 = .ok (.goto 23, 3) := by decide +kernel
theorem dX12_isOver_103 : decode cX12_isOver 103 = .ok (.iload_n 1, 1) := by decide +kernel
theorem dX12_isOver_104 : decode cX12_isOver 104 = .ok (.bipush 6, 2) := by decide +kernel
theorem dX12_isOver_106 : decode cX12_isOver 106 = .ok (.if_icmp .ne 17, 3) := by decide +kernel
theorem dX12_isOver_109 : decode cX12_isOver 109 = .ok (.aload_n 0, 1) := by decide +kernel
theorem dX12_isOver_110 : decode cX12_isOver 110 = .ok (.getfield 54, 3) := by decide +kernel
theorem dX12_isOver_113 : decode cX12_isOver 113 = .ok (.aload_n 0, 1) := by decide +kernel
theorem dX12_isOver_114 : decode cX12_isOver 114 = .ok (.getfield 238, 3) := by decide +kernel
theorem dX12_isOver_117 : decode cX12_isOver 117 = .ok (.iaload, 1) := by decide +kernel
theorem dX12_isOver_118 : decode cX12_isOver 118 = .ok (.iload_n 2, 1) := by decide +kernel
theorem dX12_isOver_119 : decode cX12_isOver 119 = .ok (.invokestatic 112, 3) := by decide +kernel
theorem dX12_isOver_122 : decode cX12_isOver 122 = .ok (.istore_n 2, 1) := by decide +kernel
theorem dX12_isOver_123 : decode cX12_isOver 123 = .ok (.iload_n 1, 1) := by decide +kernel
theorem dX12_isOver_124 : decode cX12_isOver 124 = .ok (.ifCond .le 13, 3) := by decide +kernel
theorem dX12_isOver_127 : decode cX12_isOver 127 = .ok (.aload_n 0, 1) := by decide +kernel
theorem dX12_isOver_128 : decode cX12_isOver 128 = .ok (.bipush 41, 2) := by decide +kernel
theorem dX12_isOver_130 : decode cX12_isOver 130 = .ok (.invokevirtual 241, 3) := by decide +kernel
theorem dX12_isOver_133 : decode cX12_isOver 133 = .ok (.aload_n 0, 1) := by decide +kernel
theorem dX12_isOver_134 : decode cX12_isOver 134 = .ok (.invokevirtual 244, 3) := by decide +kernel
theorem dX12_isOver_137 : decode cX12_isOver 137 = .ok (.aload_n 0, 1) := by decide +kernel
theorem dX12_isOver_138 : decode cX12_isOver 138 = .ok (.iload_n 2, 1) := by decide +kernel
theorem dX12_isOver_139 : decode cX12_isOver 139 = .ok (.putfield 247, 3) := by decide +kernel
theorem dX12_isOver_142 : decode cX12_isOver 142 = .ok (.iconst 1, 1) := by decide +kernel
theorem dX12_isOver_143 : decode cX12_isOver 143 = .ok (.ireturn, 1) := by decide +kernel
theorem dX12_goesOn_0 : decode cX12_goesOn 0 = .ok (.aload_n 0, 1) := by decide +kernel
theorem dX12_goesOn_1 : decode cX12_goesOn 1 = .ok (.getfield 38, 3) := by decide +kernel
theorem dX12_goesOn_4 : decode cX12_goesOn 4 = .ok (.aload_n 0, 1) := by decide +kernel
theorem dX12_goesOn_5 : decode cX12_goesOn 5 = .ok (.getfield 238, 3) := by decide +kernel
theorem dX12_goesOn_8 : decode cX12_goesOn 8 = .ok (.iaload, 1) := by decide +kernel
theorem dX12_goesOn_9 : decode cX12_goesOn 9 = .ok (.iconst 2, 1) := by decide +kernel
theorem dX12_goesOn_10 : decode cX12_goesOn 10 = .ok (.if_icmp .ne 25, 3) := by decide +kernel
theorem dX12_goesOn_13 : decode cX12_goesOn 13 = .ok (.aload_n 0, 1) := by decide +kernel
theorem dX12_goesOn_14 : decode cX12_goesOn 14 = .ok (.aload_n 0, 1) := by decide +kernel
theorem dX12_goesOn_15 : decode cX12_goesOn 15 = .ok (.getfield 247, 3) := by decide +kernel
theorem dX12_goesOn_18 : decode cX12_goesOn 18 = .ok (.i2l, 1) := by decide +kernel
theorem dX12_goesOn_19 : decode cX12_goesOn 19 = .ok (.lneg, 1) := by decide +kernel
theorem dX12_goesOn_20 : decode cX12_goesOn 20 = .ok (.ldc 250, 2) := by decide +kernel
theorem dX12_goesOn_22 : decode cX12_goesOn 22 = .ok (.invokestatic 108, 3) := by decide +kernel
theorem dX12_goesOn_25 : decode cX12_goesOn 25 = .ok (.putfield 247, 3) := by decide +kernel
theorem dX12_goesOn_28 : decode cX12_goesOn 28 = .ok (.aload_n 0, 1) := by decide +kernel
theorem dX12_goesOn_29 : decode cX12_goesOn 29 = .ok (.invokevirtual 244, 3) := by decide +kernel
theorem dX12_goesOn_32 : decode cX12_goesOn 32 = .ok (.goto (-32), 3) := by decide +kernel
theorem dX12_goesOn_35 : decode cX12_goesOn 35 = .ok (.aload_n 0, 1) := by decide +kernel
theorem dX12_goesOn_36 : decode cX12_goesOn 36 = .ok (.getfield 50, 3) := by decide +kernel
theorem dX12_goesOn_39 : decode cX12_goesOn 39 = .ok (.aload_n 0, 1) := by decide +kernel
theorem dX12_goesOn_40 : decode cX12_goesOn 40 = .ok (.getfield 238, 3) := by decide +kernel
theorem dX12_goesOn_43 : decode cX12_goesOn 43 = .ok (.baload, 1) := by decide +kernel
theorem dX12_goesOn_44 : decode cX12_goesOn 44 = .ok (.ifCond .eq 33, 3) := by decide +kernel
theorem dX12_goesOn_47 : decode cX12_goesOn 47 = .ok (.aload_n 0, 1) := by decide +kernel
theorem dX12_goesOn_48 : decode cX12_goesOn 48 = .ok (.getfield 47, 3) := by decide +kernel
theorem dX12_goesOn_51 : decode cX12_goesOn 51 = .ok (.aload_n 0, 1) := by decide +kernel
theorem dX12_goesOn_52 : decode cX12_goesOn 52 = .ok (.getfield 238, 3) := by decide +kernel
theorem dX12_goesOn_55 : decode cX12_goesOn 55 = .ok (.iaload, 1) := by decide +kernel
theorem dX12_goesOn_56 : decode cX12_goesOn 56 = .ok (.i2l, 1) := by decide +kernel
theorem dX12_goesOn_57 : decode cX12_goesOn 57 = .ok (.aload_n 0, 1) := by decide +kernel
theorem dX12_goesOn_58 : decode cX12_goesOn 58 = .ok (.getfield 247, 3) := by decide +kernel
theorem dX12_goesOn_61 : decode cX12_goesOn 61 = .ok (.i2l, 1) := by decide +kernel
theorem dX12_goesOn_62 : decode cX12_goesOn 62 = .ok (.lmul, 1) := by decide +kernel
theorem dX12_goesOn_63 : decode cX12_goesOn 63 = .ok (.ldc2_w 91, 3) := by decide +kernel
theorem dX12_goesOn_66 : decode cX12_goesOn 66 = .ok (.invokestatic 93, 3) := by decide +kernel
theorem dX12_goesOn_69 : decode cX12_goesOn 69 = .ok (.ldc 250, 2) := by decide +kernel
theorem dX12_goesOn_71 : decode cX12_goesOn 71 = .ok (.invokestatic 108, 3) := by decide +kernel
theorem dX12_goesOn_74 : decode cX12_goesOn 74 = .ok (.goto 7, 3) := by decide +kernel
theorem dX12_goesOn_77 : decode cX12_goesOn 77 = .ok (.aload_n 0, 1) := by decide +kernel
theorem dX12_goesOn_78 : decode cX12_goesOn 78 = .ok (.getfield 247, 3) := by decide +kernel
theorem dX12_goesOn_81 : decode cX12_goesOn 81 = .ok (.istore_n 1, 1) := by decide +kernel
theorem dX12_goesOn_82 : decode cX12_goesOn 82 = .ok (.aload_n 0, 1) := by decide +kernel
theorem dX12_goesOn_83 : decode cX12_goesOn 83 = .ok (.getfield 47, 3) := by decide +kernel
theorem dX12_goesOn_86 : decode cX12_goesOn 86 = .ok (.aload_n 0, 1) := by decide +kernel
theorem dX12_goesOn_87 : decode cX12_goesOn 87 = .ok (.getfield 238, 3) := by decide +kernel
theorem dX12_goesOn_90 : decode cX12_goesOn 90 = .ok (.iload_n 1, 1) := by decide +kernel
theorem dX12_goesOn_91 : decode cX12_goesOn 91 = .ok (.iastore, 1) := by decide +kernel
theorem dX12_goesOn_92 : decode cX12_goesOn 92 = .ok (.aload_n 0, 1) := by decide +kernel
theorem dX12_goesOn_93 : decode cX12_goesOn 93 = .ok (.getfield 50, 3) := by decide +kernel
theorem dX12_goesOn_96 : decode cX12_goesOn 96 = .ok (.aload_n 0, 1) := by decide +kernel
theorem dX12_goesOn_97 : decode cX12_goesOn 97 = .ok (.getfield 238, 3) := by decide +kernel
theorem dX12_goesOn_100 : decode cX12_goesOn 100 = .ok (.aload_n 0, 1) := by decide +kernel
theorem dX12_goesOn_101 : decode cX12_goesOn 101 = .ok (.bipush 42, 2) := by decide +kernel
theorem dX12_goesOn_103 : decode cX12_goesOn 103 = .ok (.invokevirtual 223, 3) := by decide +kernel
theorem dX12_goesOn_106 : decode cX12_goesOn 106 = .ok (.bastore, 1) := by decide +kernel
theorem dX12_goesOn_107 : decode cX12_goesOn 107 = .ok (.aload_n 0, 1) := by decide +kernel
theorem dX12_goesOn_108 : decode cX12_goesOn 108 = .ok (.getfield 50, 3) := by decide +kernel
theorem dX12_goesOn_111 : decode cX12_goesOn 111 = .ok (.aload_n 0, 1) := by decide +kernel
theorem dX12_goesOn_112 : decode cX12_goesOn 112 = .ok (.getfield 238, 3) := by decide +kernel
theorem dX12_goesOn_115 : decode cX12_goesOn 115 = .ok (.baload, 1) := by decide +kernel
theorem dX12_goesOn_116 : decode cX12_goesOn 116 = .ok (.ifCond .eq 15, 3) := by decide +kernel
theorem dX12_goesOn_119 : decode cX12_goesOn 119 = .ok (.aload_n 0, 1) := by decide +kernel
theorem dX12_goesOn_120 : decode cX12_goesOn 120 = .ok (.dup, 1) := by decide +kernel
theorem dX12_goesOn_121 : decode cX12_goesOn 121 = .ok (.getfield 213, 3) := by decide +kernel
theorem dX12_goesOn_124 : decode cX12_goesOn 124 = .ok (.iconst 1, 1) := by decide +kernel
theorem dX12_goesOn_125 : decode cX12_goesOn 125 = .ok (.iadd, 1) := by decide +kernel
theorem dX12_goesOn_126 : decode cX12_goesOn 126 = .ok (.putfield 213, 3) := by decide +kernel
theorem dX12_goesOn_129 : decode cX12_goesOn 129 = .ok (.iconst 1, 1) := by decide +kernel
theorem dX12_goesOn_130 : decode cX12_goesOn 130 = .ok (.ireturn, 1) := by decide +kernel
theorem dX12_goesOn_131 : decode cX12_goesOn 131 = .ok (.aload_n 0, 1) := by decide +kernel
theorem dX12_goesOn_132 : decode cX12_goesOn 132 = .ok (.getfield 41, 3) := by decide +kernel
theorem dX12_goesOn_135 : decode cX12_goesOn 135 = .ok (.aload_n 0, 1) := by decide +kernel
theorem dX12_goesOn_136 : decode cX12_goesOn 136 = .ok (.getfield 238, 3) := by decide +kernel
theorem dX12_goesOn_139 : decode cX12_goesOn 139 = .ok (.iaload, 1) := by decide +kernel
theorem dX12_goesOn_140 : decode cX12_goesOn 140 = .ok (.iconst 2, 1) := by decide +kernel
theorem dX12_goesOn_141 : decode cX12_goesOn 141 = .ok (.if_icmp .ne 9, 3) := by decide +kernel
theorem dX12_goesOn_144 : decode cX12_goesOn 144 = .ok (.iload_n 1, 1) := by decide +kernel
theorem dX12_goesOn_145 : decode cX12_goesOn 145 = .ok (.i2l, 1) := by decide +kernel
theorem dX12_goesOn_146 : decode cX12_goesOn 146 = .ok (.lneg, 1) := by decide +kernel
theorem dX12_goesOn_147 : decode cX12_goesOn 147 = .ok (.goto 5, 3) := by decide +kernel
theorem dX12_goesOn_150 : decode cX12_goesOn 150 = .ok (.iload_n 1, 1) := by decide +kernel
theorem dX12_goesOn_151 : decode cX12_goesOn 151 = .ok (.i2l, 1) := by decide +kernel
theorem dX12_goesOn_152 : decode cX12_goesOn 152 = .ok (.lstore_n 2, 1) := by decide +kernel
theorem dX12_goesOn_153 : decode cX12_goesOn 153 = .ok (.aload_n 0, 1) := by decide +kernel
theorem dX12_goesOn_154 : decode cX12_goesOn 154 = .ok (.getfield 44, 3) := by decide +kernel
theorem dX12_goesOn_157 : decode cX12_goesOn 157 = .ok (.aload_n 0, 1) := by decide +kernel
theorem dX12_goesOn_158 : decode cX12_goesOn 158 = .ok (.getfield 238, 3) := by decide +kernel
theorem dX12_goesOn_161 : decode cX12_goesOn 161 = .ok (.aload_n 0, 1) := by decide +kernel
theorem dX12_goesOn_162 : decode cX12_goesOn 162 = .ok (.getfield 41, 3) := by decide +kernel
theorem dX12_goesOn_165 : decode cX12_goesOn 165 = .ok (.aload_n 0, 1) := by decide +kernel
theorem dX12_goesOn_166 : decode cX12_goesOn 166 = .ok (.getfield 238, 3) := by decide +kernel
theorem dX12_goesOn_169 : decode cX12_goesOn 169 = .ok (.iaload, 1) := by decide +kernel
theorem dX12_goesOn_170 : decode cX12_goesOn 170 = .ok (.ifCond .ne 7, 3) := by decide +kernel
theorem dX12_goesOn_173 : decode cX12_goesOn 173 = .ok (.iload_n 1, 1) := by decide +kernel
theorem dX12_goesOn_174 : decode cX12_goesOn 174 = .ok (.goto 20, 3) := by decide +kernel
theorem dX12_goesOn_177 : decode cX12_goesOn 177 = .ok (.aload_n 0, 1) := by decide +kernel
theorem dX12_goesOn_178 : decode cX12_goesOn 178 = .ok (.getfield 44, 3) := by decide +kernel
theorem dX12_goesOn_181 : decode cX12_goesOn 181 = .ok (.aload_n 0, 1) := by decide +kernel
theorem dX12_goesOn_182 : decode cX12_goesOn 182 = .ok (.getfield 238, 3) := by decide +kernel
theorem dX12_goesOn_185 : decode cX12_goesOn 185 = .ok (.iaload, 1) := by decide +kernel
theorem dX12_goesOn_186 : decode cX12_goesOn 186 = .ok (.i2l, 1) := by decide +kernel
theorem dX12_goesOn_187 : decode cX12_goesOn 187 = .ok (.lload_n 2, 1) := by decide +kernel
theorem dX12_goesOn_188 : decode cX12_goesOn 188 = .ok (.ladd, 1) := by decide +kernel
theorem dX12_goesOn_189 : decode cX12_goesOn 189 = .ok (.ldc 250, 2) := by decide +kernel
theorem dX12_goesOn_191 : decode cX12_goesOn 191 = .ok (.invokestatic 108, 3) := by decide +kernel
theorem dX12_goesOn_194 : decode cX12_goesOn 194 = .ok (.iastore, 1) := by decide +kernel
theorem dX12_goesOn_195 : decode cX12_goesOn 195 = .ok (.aload_n 0, 1) := by decide +kernel
theorem dX12_goesOn_196 : decode cX12_goesOn 196 = .ok (.getfield 41, 3) := by decide +kernel
theorem dX12_goesOn_199 : decode cX12_goesOn 199 = .ok (.aload_n 0, 1) := by decide +kernel
theorem dX12_goesOn_200 : decode cX12_goesOn 200 = .ok (.getfield 238, 3) := by decide +kernel
theorem dX12_goesOn_203 : decode cX12_goesOn 203 = .ok (.aload_n 0, 1) := by decide +kernel
theorem dX12_goesOn_204 : decode cX12_goesOn 204 = .ok (.bipush 43, 2) := by decide +kernel
theorem dX12_goesOn_206 : decode cX12_goesOn 206 = .ok (.invokevirtual 223, 3) := by decide +kernel
theorem dX12_goesOn_209 : decode cX12_goesOn 209 = .ok (.ifCond .eq 7, 3) := by decide +kernel
theorem dX12_goesOn_212 : decode cX12_goesOn 212 = .ok (.iconst 1, 1) := by decide +kernel
theorem dX12_goesOn_213 : decode cX12_goesOn 213 = .ok (.goto 17, 3) := by decide +kernel
theorem dX12_goesOn_216 : decode cX12_goesOn 216 = .ok (.aload_n 0, 1) := by decide +kernel
theorem dX12_goesOn_217 : decode cX12_goesOn 217 = .ok (.bipush 45, 2) := by decide +kernel
theorem dX12_goesOn_219 : decode cX12_goesOn 219 = .ok (.invokevirtual 223, 3) := by decide +kernel
theorem dX12_goesOn_222 : decode cX12_goesOn 222 = .ok (.ifCond .eq 7, 3) := by decide +kernel
theorem dX12_goesOn_225 : decode cX12_goesOn 225 = .ok (.iconst 2, 1) := by decide +kernel
theorem dX12_goesOn_226 : decode cX12_goesOn 226 = .ok (.goto 4, 3) := by decide +kernel
theorem dX12_goesOn_229 : decode cX12_goesOn 229 = .ok (.iconst 0, 1) := by decide +kernel
theorem dX12_goesOn_230 : decode cX12_goesOn 230 = .ok (.iastore, 1) := by decide +kernel
theorem dX12_goesOn_231 : decode cX12_goesOn 231 = .ok (.aload_n 0, 1) := by decide +kernel
theorem dX12_goesOn_232 : decode cX12_goesOn 232 = .ok (.dup, 1) := by decide +kernel
theorem dX12_goesOn_233 : decode cX12_goesOn 233 = .ok (.getfield 213, 3) := by decide +kernel
theorem dX12_goesOn_236 : decode cX12_goesOn 236 = .ok (.aload_n 0, 1) := by decide +kernel
theorem dX12_goesOn_237 : decode cX12_goesOn 237 = .ok (.getfield 41, 3) := by decide +kernel
theorem dX12_goesOn_240 : decode cX12_goesOn 240 = .ok (.aload_n 0, 1) := by decide +kernel
theorem dX12_goesOn_241 : decode cX12_goesOn 241 = .ok (.getfield 238, 3) := by decide +kernel
theorem dX12_goesOn_244 : decode cX12_goesOn 244 = .ok (.iaload, 1) := by decide +kernel
theorem dX12_goesOn_245 : decode cX12_goesOn 245 = .ok (.ifCond .le 7, 3) := by decide +kernel
theorem dX12_goesOn_248 : decode cX12_goesOn 248 = .ok (.iconst 1, 1) := by decide +kernel
theorem dX12_goesOn_249 : decode cX12_goesOn 249 = .ok (.goto 4, 3) := by decide +kernel
theorem dX12_goesOn_252 : decode cX12_goesOn 252 = .ok (.iconst 0, 1) := by decide +kernel
theorem dX12_goesOn_253 : decode cX12_goesOn 253 = .ok (.iadd, 1) := by decide +kernel
theorem dX12_goesOn_254 : decode cX12_goesOn 254 = .ok (.putfield 213, 3) := by decide +kernel
theorem dX12_goesOn_257 : decode cX12_goesOn 257 = .ok (.aload_n 0, 1) := by decide +kernel
theorem dX12_goesOn_258 : decode cX12_goesOn 258 = .ok (.getfield 41, 3) := by decide +kernel
theorem dX12_goesOn_261 : decode cX12_goesOn 261 = .ok (.aload_n 0, 1) := by decide +kernel
theorem dX12_goesOn_262 : decode cX12_goesOn 262 = .ok (.getfield 238, 3) := by decide +kernel
theorem dX12_goesOn_265 : decode cX12_goesOn 265 = .ok (.iaload, 1) := by decide +kernel
theorem dX12_goesOn_266 : decode cX12_goesOn 266 = .ok (.ifCond .le 7, 3) := by decide +kernel
theorem dX12_goesOn_269 : decode cX12_goesOn 269 = .ok (.iconst 1, 1) := by decide +kernel
theorem dX12_goesOn_270 : decode cX12_goesOn 270 = .ok (.goto 4, 3) := by decide +kernel
theorem dX12_goesOn_273 : decode cX12_goesOn 273 = .ok (.iconst 0, 1) := by decide +kernel
theorem dX12_goesOn_274 : decode cX12_goesOn 274 = .ok (.ireturn, 1) := by decide +kernel
theorem dX12_isValue_0 : decode cX12_isValue 0 = .ok (.aload_n 0, 1) := by decide +kernel
theorem dX12_isValue_1 : decode cX12_isValue 1 = .ok (.invokevirtual 219, 3) := by decide +kernel
theorem dX12_isValue_4 : decode cX12_isValue 4 = .ok (.istore_n 1, 1) := by decide +kernel
theorem dX12_isValue_5 : decode cX12_isValue 5 = .ok (.iload_n 1, 1) := by decide +kernel
theorem dX12_isValue_6 : decode cX12_isValue 6 = .ok (.bipush 48, 2) := by decide +kernel
theorem dX12_isValue_8 : decode cX12_isValue 8 = .ok (.bipush 57, 2) := by decide +kernel
theorem dX12_isValue_10 : decode cX12_isValue 10 = .ok (.invokestatic 66, 3) := by decide +kernel
theorem dX12_isValue_13 : decode cX12_isValue 13 = .ok (.ifCond .eq 26, 3) := by decide +kernel
theorem dX12_isValue_16 : decode cX12_isValue 16 = .ok (.aload_n 0, 1) := by decide +kernel
theorem dX12_isValue_17 : decode cX12_isValue 17 = .ok (.dup, 1) := by decide +kernel
theorem dX12_isValue_18 : decode cX12_isValue 18 = .ok (.getfield 232, 3) := by decide +kernel
theorem dX12_isValue_21 : decode cX12_isValue 21 = .ok (.iconst 1, 1) := by decide +kernel
theorem dX12_isValue_22 : decode cX12_isValue 22 = .ok (.iadd, 1) := by decide +kernel
theorem dX12_isValue_23 : decode cX12_isValue 23 = .ok (.putfield 232, 3) := by decide +kernel
theorem dX12_isValue_26 : decode cX12_isValue 26 = .ok (.aload_n 0, 1) := by decide +kernel
theorem dX12_isValue_27 : decode cX12_isValue 27 = .ok (.bipush 64, 2) := by decide +kernel
theorem dX12_isValue_29 : decode cX12_isValue 29 = .ok (.aload_n 0, 1) := by decide +kernel
theorem dX12_isValue_30 : decode cX12_isValue 30 = .ok (.invokevirtual 251, 3) := by decide +kernel
theorem dX12_isValue_33 : decode cX12_isValue 33 = .ok (.imul, 1) := by decide +kernel
theorem dX12_isValue_34 : decode cX12_isValue 34 = .ok (.putfield 247, 3) := by decide +kernel
theorem dX12_isValue_37 : decode cX12_isValue 37 = .ok (.iconst 1, 1) := by decide +kernel
theorem dX12_isValue_38 : decode cX12_isValue 38 = .ok (.ireturn, 1) := by decide +kernel
theorem dX12_isValue_39 : decode cX12_isValue 39 = .ok (.iload_n 1, 1) := by decide +kernel
theorem dX12_isValue_40 : decode cX12_isValue 40 = .ok (.bipush 97, 2) := by decide +kernel
theorem dX12_isValue_42 : decode cX12_isValue 42 = .ok (.bipush 100, 2) := by decide +kernel
theorem dX12_isValue_44 : decode cX12_isValue 44 = .ok (.invokestatic 66, 3) := by decide +kernel
theorem dX12_isValue_47 : decode cX12_isValue 47 = .ok (.ifCond .eq 17, 3) := by decide +kernel
theorem dX12_isValue_50 : decode cX12_isValue 50 = .ok (.aload_n 0, 1) := by decide +kernel
theorem dX12_isValue_51 : decode cX12_isValue 51 = .ok (.aload_n 0, 1) := by decide +kernel
theorem dX12_isValue_52 : decode cX12_isValue 52 = .ok (.iload_n 1, 1) := by decide +kernel
theorem dX12_isValue_53 : decode cX12_isValue 53 = .ok (.bipush 97, 2) := by decide +kernel
theorem dX12_isValue_55 : decode cX12_isValue 55 = .ok (.isub, 1) := by decide +kernel
theorem dX12_isValue_56 : decode cX12_isValue 56 = .ok (.invokevirtual 254, 3) := by decide +kernel
theorem dX12_isValue_59 : decode cX12_isValue 59 = .ok (.putfield 247, 3) := by decide +kernel
theorem dX12_isValue_62 : decode cX12_isValue 62 = .ok (.iconst 1, 1) := by decide +kernel
theorem dX12_isValue_63 : decode cX12_isValue 63 = .ok (.ireturn, 1) := by decide +kernel
theorem dX12_isValue_64 : decode cX12_isValue 64 = .ok (.iload_n 1, 1) := by decide +kernel
theorem dX12_isValue_65 : decode cX12_isValue 65 = .ok (.bipush 109, 2) := by decide +kernel
theorem dX12_isValue_67 : decode cX12_isValue 67 = .ok (.if_icmp .ne 81, 3) := by decide +kernel
theorem dX12_isValue_70 : decode cX12_isValue 70 = .ok (.aload_n 0, 1) := by decide +kernel
theorem dX12_isValue_71 : decode cX12_isValue 71 = .ok (.dup, 1) := by decide +kernel
theorem dX12_isValue_72 : decode cX12_isValue 72 = .ok (.getfield 213, 3) := by decide +kernel
theorem dX12_isValue_75 : decode cX12_isValue 75 = .ok (.iconst 1, 1) := by decide +kernel
theorem dX12_isValue_76 : decode cX12_isValue 76 = .ok (.iadd, 1) := by decide +kernel
theorem dX12_isValue_77 : decode cX12_isValue 77 = .ok (.putfield 213, 3) := by decide +kernel
theorem dX12_isValue_80 : decode cX12_isValue 80 = .ok (.aload_n 0, 1) := by decide +kernel
theorem dX12_isValue_81 : decode cX12_isValue 81 = .ok (.bipush 105, 2) := by decide +kernel
theorem dX12_isValue_83 : decode cX12_isValue 83 = .ok (.invokevirtual 223, 3) := by decide +kernel
theorem dX12_isValue_86 : decode cX12_isValue 86 = .ok (.istore_n 2, 1) := by decide +kernel
theorem dX12_isValue_87 : decode cX12_isValue 87 = .ok (.aload_n 0, 1) := by decide +kernel
theorem dX12_isValue_88 : decode cX12_isValue 88 = .ok (.iload_n 2, 1) := by decide +kernel
theorem dX12_isValue_89 : decode cX12_isValue 89 = .ok (.ifCond .eq 8, 3) := by decide +kernel
theorem dX12_isValue_92 : decode cX12_isValue 92 = .ok (.bipush 105, 2) := by decide +kernel
theorem dX12_isValue_94 : decode cX12_isValue 94 = .ok (.goto 5, 3) := by decide +kernel
theorem dX12_isValue_97 : decode cX12_isValue 97 = .ok (.bipush 97, 2) := by decide +kernel
theorem dX12_isValue_99 : decode cX12_isValue 99 = .ok (.invokevirtual 241, 3) := by decide +kernel
theorem dX12_isValue_102 : decode cX12_isValue 102 = .ok (.aload_n 0, 1) := by decide +kernel
theorem dX12_isValue_103 : decode cX12_isValue 103 = .ok (.iload_n 2, 1) := by decide +kernel
theorem dX12_isValue_104 : decode cX12_isValue 104 = .ok (.ifCond .eq 8, 3) := by decide +kernel
theorem dX12_isValue_107 : decode cX12_isValue 107 = .ok (.bipush 110, 2) := by decide +kernel
theorem dX12_isValue_109 : decode cX12_isValue 109 = .ok (.goto 5, 3) := by decide +kernel
theorem dX12_isValue_112 : decode cX12_isValue 112 = .ok (.bipush 120, 2) := by decide +kernel
theorem dX12_isValue_114 : decode cX12_isValue 114 = .ok (.invokevirtual 241, 3) := by decide +kernel
theorem dX12_isValue_117 : decode cX12_isValue 117 = .ok (.aload_n 0, 1) := by decide +kernel
theorem dX12_isValue_118 : decode cX12_isValue 118 = .ok (.bipush 40, 2) := by decide +kernel
theorem dX12_isValue_120 : decode cX12_isValue 120 = .ok (.invokevirtual 223, 3) := by decide +kernel
theorem dX12_isValue_123 : decode cX12_isValue 123 = .ok (.ifCond .eq 16, 3) := by decide +kernel
theorem dX12_isValue_126 : decode cX12_isValue 126 = .ok (.aload_n 0, 1) := by decide +kernel
theorem dX12_isValue_127 : decode cX12_isValue 127 = .ok (.iload_n 2, 1) := by decide +kernel
theorem dX12_isValue_128 : decode cX12_isValue 128 = .ok (.ifCond .eq 7, 3) := by decide +kernel
theorem dX12_isValue_131 : decode cX12_isValue 131 = .ok (.iconst 3, 1) := by decide +kernel
theorem dX12_isValue_132 : decode cX12_isValue 132 = .ok (.goto 4, 3) := by decide +kernel
theorem dX12_isValue_135 : decode cX12_isValue 135 = .ok (.iconst 5, 1) := by decide +kernel
theorem dX12_isValue_136 : decode cX12_isValue 136 = .ok (.invokevirtual 257, 3) := by decide +kernel
theorem dX12_isValue_139 : decode cX12_isValue 139 = .ok (.aload_n 0, 1) := by decide +kernel
theorem dX12_isValue_140 : decode cX12_isValue 140 = .ok (.bipush 40, 2) := by decide +kernel
theorem dX12_isValue_142 : decode cX12_isValue 142 = .ok (.invokevirtual 241, 3) := by decide +kernel
theorem dX12_isValue_145 : decode cX12_isValue 145 = .ok (.goto 46, 3) := by decide +kernel
theorem dX12_isValue_148 : decode cX12_isValue 148 = .ok (.iload_n 1, 1) := by decide +kernel
theorem dX12_isValue_149 : decode cX12_isValue 149 = .ok (.bipush 40, 2) := by decide +kernel
theorem dX12_isValue_151 : decode cX12_isValue 151 = .ok (.if_icmp .eq 9, 3) := by decide +kernel
theorem dX12_isValue_154 : decode cX12_isValue 154 = .ok (.iload_n 1, 1) := by decide +kernel
theorem dX12_isValue_155 : decode cX12_isValue 155 = .ok (.bipush 45, 2) := by decide +kernel
theorem dX12_isValue_157 : decode cX12_isValue 157 = .ok (.if_icmp .ne 26, 3) := by decide +kernel
theorem dX12_isValue_160 : decode cX12_isValue 160 = .ok (.aload_n 0, 1) := by decide +kernel
theorem dX12_isValue_161 : decode cX12_isValue 161 = .ok (.iload_n 1, 1) := by decide +kernel
theorem dX12_isValue_162 : decode cX12_isValue 162 = .ok (.bipush 40, 2) := by decide +kernel
theorem dX12_isValue_164 : decode cX12_isValue 164 = .ok (.if_icmp .ne 7, 3) := by decide +kernel
theorem dX12_isValue_167 : decode cX12_isValue 167 = .ok (.iconst 1, 1) := by decide +kernel
theorem dX12_isValue_168 : decode cX12_isValue 168 = .ok (.goto 4, 3) := by decide +kernel
theorem dX12_isValue_171 : decode cX12_isValue 171 = .ok (.iconst 2, 1) := by decide +kernel
theorem dX12_isValue_172 : decode cX12_isValue 172 = .ok (.invokevirtual 257, 3) := by decide +kernel
theorem dX12_isValue_175 : decode cX12_isValue 175 = .ok (.aload_n 0, 1) := by decide +kernel
theorem dX12_isValue_176 : decode cX12_isValue 176 = .ok (.iload_n 1, 1) := by decide +kernel
theorem dX12_isValue_177 : decode cX12_isValue 177 = .ok (.invokevirtual 241, 3) := by decide +kernel
theorem dX12_isValue_180 : decode cX12_isValue 180 = .ok (.goto 11, 3) := by decide +kernel
theorem dX12_isValue_183 : decode cX12_isValue 183 = .ok (.aload_n 0, 1) := by decide +kernel
theorem dX12_isValue_184 : decode cX12_isValue 184 = .ok (.aload_n 0, 1) := by decide +kernel
theorem dX12_isValue_185 : decode cX12_isValue 185 = .ok (.getfield 213, 3) := by decide +kernel
theorem dX12_isValue_188 : decode cX12_isValue 188 = .ok (.invokevirtual 226, 3) := by decide +kernel
theorem dX12_isValue_191 : decode cX12_isValue 191 = .ok (.iconst 0, 1) := by decide +kernel
theorem dX12_isValue_192 : decode cX12_isValue 192 = .ok (.ireturn, 1) := by decide +kernel
theorem dX12_sum_0 : decode cX12_sum 0 = .ok (.aload_n 0, 1) := by decide +kernel
theorem dX12_sum_1 : decode cX12_sum 1 = .ok (.iconst (-1), 1) := by decide +kernel
theorem dX12_sum_2 : decode cX12_sum 2 = .ok (.putfield 238, 3) := by decide +kernel
theorem dX12_sum_5 : decode cX12_sum 5 = .ok (.aload_n 0, 1) := by decide +kernel
theorem dX12_sum_6 : decode cX12_sum 6 = .ok (.iconst 0, 1) := by decide +kernel
theorem dX12_sum_7 : decode cX12_sum 7 = .ok (.invokevirtual 257, 3) := by decide +kernel
theorem dX12_sum_10 : decode cX12_sum 10 = .ok (.iconst 1, 1) := by decide +kernel
theorem dX12_sum_11 : decode cX12_sum 11 = .ok (.istore_n 1, 1) := by decide +kernel
theorem dX12_sum_12 : decode cX12_sum 12 = .ok (.iload_n 1, 1) := by decide +kernel
theorem dX12_sum_13 : decode cX12_sum 13 = .ok (.ifCond .eq 85, 3) := by decide +kernel
theorem dX12_sum_16 : decode cX12_sum 16 = .ok (.aload_n 0, 1) := by decide +kernel
theorem dX12_sum_17 : decode cX12_sum 17 = .ok (.getfield 216, 3) := by decide +kernel
theorem dX12_sum_20 : decode cX12_sum 20 = .ok (.ifCond .ge 78, 3) := by decide +kernel
theorem dX12_sum_23 : decode cX12_sum 23 = .ok (.aload_n 0, 1) := by decide +kernel
theorem dX12_sum_24 : decode cX12_sum 24 = .ok (.invokevirtual 260, 3) := by decide +kernel
theorem dX12_sum_27 : decode cX12_sum 27 = .ok (.ifCond .eq (-15), 3) := by decide +kernel
theorem dX12_sum_30 : decode cX12_sum 30 = .ok (.aload_n 0, 1) := by decide +kernel
theorem dX12_sum_31 : decode cX12_sum 31 = .ok (.invokevirtual 264, 3) := by decide +kernel
theorem dX12_sum_34 : decode cX12_sum 34 = .ok (.istore_n 2, 1) := by decide +kernel
theorem dX12_sum_35 : decode cX12_sum 35 = .ok (.iload_n 1, 1) := by decide +kernel
theorem dX12_sum_36 : decode cX12_sum 36 = .ok (.ifCond .eq 59, 3) := by decide +kernel
theorem dX12_sum_39 : decode cX12_sum 39 = .ok (.iload_n 2, 1) := by decide +kernel
theorem dX12_sum_40 : decode cX12_sum 40 = .ok (.ifCond .ne 55, 3) := by decide +kernel
theorem dX12_sum_43 : decode cX12_sum 43 = .ok (.aload_n 0, 1) := by decide +kernel
theorem dX12_sum_44 : decode cX12_sum 44 = .ok (.getfield 216, 3) := by decide +kernel
theorem dX12_sum_47 : decode cX12_sum 47 = .ok (.ifCond .ge 48, 3) := by decide +kernel
theorem dX12_sum_50 : decode cX12_sum 50 = .ok (.aload_n 0, 1) := by decide +kernel
theorem dX12_sum_51 : decode cX12_sum 51 = .ok (.getfield 38, 3) := by decide +kernel
theorem dX12_sum_54 : decode cX12_sum 54 = .ok (.aload_n 0, 1) := by decide +kernel
theorem dX12_sum_55 : decode cX12_sum 55 = .ok (.getfield 238, 3) := by decide +kernel
theorem dX12_sum_58 : decode cX12_sum 58 = .ok (.iaload, 1) := by decide +kernel
theorem dX12_sum_59 : decode cX12_sum 59 = .ok (.ifCond .le 7, 3) := by decide +kernel
theorem dX12_sum_62 : decode cX12_sum 62 = .ok (.iconst 1, 1) := by decide +kernel
theorem dX12_sum_63 : decode cX12_sum 63 = .ok (.goto 4, 3) := by decide +kernel
theorem dX12_sum_66 : decode cX12_sum 66 = .ok (.iconst 0, 1) := by decide +kernel
theorem dX12_sum_67 : decode cX12_sum 67 = .ok (.istore_n 1, 1) := by decide +kernel
theorem dX12_sum_68 : decode cX12_sum 68 = .ok (.aload_n 0, 1) := by decide +kernel
theorem dX12_sum_69 : decode cX12_sum 69 = .ok (.invokevirtual 267, 3) := by decide +kernel
theorem dX12_sum_72 : decode cX12_sum 72 = .ok (.ifCond .eq 14, 3) := by decide +kernel
theorem dX12_sum_75 : decode cX12_sum 75 = .ok (.iload_n 1, 1) := by decide +kernel
theorem dX12_sum_76 : decode cX12_sum 76 = .ok (.ifCond .eq 14, 3) := by decide +kernel
theorem dX12_sum_79 : decode cX12_sum 79 = .ok (.aload_n 0, 1) := by decide +kernel
theorem dX12_sum_80 : decode cX12_sum 80 = .ok (.invokevirtual 264, 3) := by decide +kernel
theorem dX12_sum_83 : decode cX12_sum 83 = .ok (.ifCond .eq 7, 3) := by decide +kernel
theorem dX12_sum_86 : decode cX12_sum 86 = .ok (.iconst 1, 1) := by decide +kernel
theorem dX12_sum_87 : decode cX12_sum 87 = .ok (.goto 4, 3) := by decide +kernel
theorem dX12_sum_90 : decode cX12_sum 90 = .ok (.iconst 0, 1) := by decide +kernel
theorem dX12_sum_91 : decode cX12_sum 91 = .ok (.istore_n 2, 1) := by decide +kernel
theorem dX12_sum_92 : decode cX12_sum 92 = .ok (.goto (-57), 3) := by decide +kernel
theorem dX12_sum_95 : decode cX12_sum 95 = .ok (.goto (-83), 3) := by decide +kernel
theorem dX12_sum_98 : decode cX12_sum 98 = .ok (.aload_n 0, 1) := by decide +kernel
theorem dX12_sum_99 : decode cX12_sum 99 = .ok (.getfield 247, 3) := by decide +kernel
theorem dX12_sum_102 : decode cX12_sum 102 = .ok (.ireturn, 1) := by decide +kernel
theorem dX12_curveValue_0 : decode cX12_curveValue 0 = .ok (.aload_n 0, 1) := by decide +kernel
theorem dX12_curveValue_1 : decode cX12_curveValue 1 = .ok (.dup, 1) := by decide +kernel
theorem dX12_curveValue_2 : decode cX12_curveValue 2 = .ok (.getfield 213, 3) := by decide +kernel
theorem dX12_curveValue_5 : decode cX12_curveValue 5 = .ok (.iconst 1, 1) := by decide +kernel
theorem dX12_curveValue_6 : decode cX12_curveValue 6 = .ok (.iadd, 1) := by decide +kernel
theorem dX12_curveValue_7 : decode cX12_curveValue 7 = .ok (.putfield 213, 3) := by decide +kernel
theorem dX12_curveValue_10 : decode cX12_curveValue 10 = .ok (.iconst 0, 1) := by decide +kernel
theorem dX12_curveValue_11 : decode cX12_curveValue 11 = .ok (.istore_n 2, 1) := by decide +kernel
theorem dX12_curveValue_12 : decode cX12_curveValue 12 = .ok (.aload_n 0, 1) := by decide +kernel
theorem dX12_curveValue_13 : decode cX12_curveValue 13 = .ok (.bipush 64, 2) := by decide +kernel
theorem dX12_curveValue_15 : decode cX12_curveValue 15 = .ok (.invokevirtual 223, 3) := by decide +kernel
theorem dX12_curveValue_18 : decode cX12_curveValue 18 = .ok (.ifCond .eq 18, 3) := by decide +kernel
theorem dX12_curveValue_21 : decode cX12_curveValue 21 = .ok (.aload_n 0, 1) := by decide +kernel
theorem dX12_curveValue_22 : decode cX12_curveValue 22 = .ok (.dup, 1) := by decide +kernel
theorem dX12_curveValue_23 : decode cX12_curveValue 23 = .ok (.getfield 213, 3) := by decide +kernel
theorem dX12_curveValue_26 : decode cX12_curveValue 26 = .ok (.iconst 1, 1) := by decide +kernel
theorem dX12_curveValue_27 : decode cX12_curveValue 27 = .ok (.iadd, 1) := by decide +kernel
theorem dX12_curveValue_28 : decode cX12_curveValue 28 = .ok (.putfield 213, 3) := by decide +kernel
theorem dX12_curveValue_31 : decode cX12_curveValue 31 = .ok (.aload_n 0, 1) := by decide +kernel
theorem dX12_curveValue_32 : decode cX12_curveValue 32 = .ok (.invokevirtual 251, 3) := by decide +kernel
theorem dX12_curveValue_35 : decode cX12_curveValue 35 = .ok (.istore_n 2, 1) := by decide +kernel
theorem dX12_curveValue_36 : decode cX12_curveValue 36 = .ok (.aload_n 0, 1) := by decide +kernel
theorem dX12_curveValue_37 : decode cX12_curveValue 37 = .ok (.dup, 1) := by decide +kernel
theorem dX12_curveValue_38 : decode cX12_curveValue 38 = .ok (.getfield 232, 3) := by decide +kernel
theorem dX12_curveValue_41 : decode cX12_curveValue 41 = .ok (.iconst 1, 1) := by decide +kernel
theorem dX12_curveValue_42 : decode cX12_curveValue 42 = .ok (.iadd, 1) := by decide +kernel
theorem dX12_curveValue_43 : decode cX12_curveValue 43 = .ok (.putfield 232, 3) := by decide +kernel
theorem dX12_curveValue_46 : decode cX12_curveValue 46 = .ok (.aload_n 0, 1) := by decide +kernel
theorem dX12_curveValue_47 : decode cX12_curveValue 47 = .ok (.getfield 216, 3) := by decide +kernel
theorem dX12_curveValue_50 : decode cX12_curveValue 50 = .ok (.ifCond .ge 11, 3) := by decide +kernel
theorem dX12_curveValue_53 : decode cX12_curveValue 53 = .ok (.aload_n 0, 1) := by decide +kernel
theorem dX12_curveValue_54 : decode cX12_curveValue 54 = .ok (.iload_n 1, 1) := by decide +kernel
theorem dX12_curveValue_55 : decode cX12_curveValue 55 = .ok (.invokevirtual 78, 3) := by decide +kernel
theorem dX12_curveValue_58 : decode cX12_curveValue 58 = .ok (.ifCond .ne 7, 3) := by decide +kernel
theorem dX12_curveValue_61 : decode cX12_curveValue 61 = .ok (.iconst 0, 1) := by decide +kernel
theorem dX12_curveValue_62 : decode cX12_curveValue 62 = .ok (.goto 18, 3) := by decide +kernel
theorem dX12_curveValue_65 : decode cX12_curveValue 65 = .ok (.aload_n 0, 1) := by decide +kernel
theorem dX12_curveValue_66 : decode cX12_curveValue 66 = .ok (.iload_n 1, 1) := by decide +kernel
theorem dX12_curveValue_67 : decode cX12_curveValue 67 = .ok (.iconst 0, 1) := by decide +kernel
theorem dX12_curveValue_68 : decode cX12_curveValue 68 = .ok (.aload_n 0, 1) := by decide +kernel
theorem dX12_curveValue_69 : decode cX12_curveValue 69 = .ok (.getfield 235, 3) := by decide +kernel
theorem dX12_curveValue_72 : decode cX12_curveValue 72 = .ok (.iload_n 2, 1) := by decide +kernel
theorem dX12_curveValue_73 : decode cX12_curveValue 73 = .ok (.isub, 1) := by decide +kernel
theorem dX12_curveValue_74 : decode cX12_curveValue 74 = .ok (.invokestatic 112, 3) := by decide +kernel
theorem dX12_curveValue_77 : decode cX12_curveValue 77 = .ok (.invokevirtual 133, 3) := by decide +kernel
theorem dX12_curveValue_80 : decode cX12_curveValue 80 = .ok (.ireturn, 1) := by decide +kernel
theorem dX12_formulaFault_0 : decode cX12_formulaFault 0 = .ok (.aload_n 0, 1) := by decide +kernel
theorem dX12_formulaFault_1 : decode cX12_formulaFault 1 = .ok (.iconst 0, 1) := by decide +kernel
theorem dX12_formulaFault_2 : decode cX12_formulaFault 2 = .ok (.iconst 0, 1) := by decide +kernel
theorem dX12_formulaFault_3 : decode cX12_formulaFault 3 = .ok (.invokevirtual 270, 3) := by decide +kernel
theorem dX12_formulaFault_6 : decode cX12_formulaFault 6 = .ok (.aload_n 0, 1) := by decide +kernel
theorem dX12_formulaFault_7 : decode cX12_formulaFault 7 = .ok (.invokevirtual 274, 3) := by decide +kernel
theorem dX12_formulaFault_10 : decode cX12_formulaFault 10 = .ok (.istore_n 1, 1) := by decide +kernel
theorem dX12_formulaFault_11 : decode cX12_formulaFault 11 = .ok (.aload_n 0, 1) := by decide +kernel
theorem dX12_formulaFault_12 : decode cX12_formulaFault 12 = .ok (.getfield 216, 3) := by decide +kernel
theorem dX12_formulaFault_15 : decode cX12_formulaFault 15 = .ok (.ifCond .ge 22, 3) := by decide +kernel
theorem dX12_formulaFault_18 : decode cX12_formulaFault 18 = .ok (.aload_n 0, 1) := by decide +kernel
theorem dX12_formulaFault_19 : decode cX12_formulaFault 19 = .ok (.getfield 213, 3) := by decide +kernel
theorem dX12_formulaFault_22 : decode cX12_formulaFault 22 = .ok (.aload_n 0, 1) := by decide +kernel
theorem dX12_formulaFault_23 : decode cX12_formulaFault 23 = .ok (.getfield 206, 3) := by decide +kernel
theorem dX12_formulaFault_26 : decode cX12_formulaFault 26 = .ok (.if_icmp .ge 11, 3) := by decide +kernel
theorem dX12_formulaFault_29 : decode cX12_formulaFault 29 = .ok (.aload_n 0, 1) := by decide +kernel
theorem dX12_formulaFault_30 : decode cX12_formulaFault 30 = .ok (.aload_n 0, 1) := by decide +kernel
theorem dX12_formulaFault_31 : decode cX12_formulaFault 31 = .ok (.getfield 213, 3) := by decide +kernel
theorem dX12_formulaFault_34 : decode cX12_formulaFault 34 = .ok (.invokevirtual 226, 3) := by decide +kernel
theorem dX12_formulaFault_37 : decode cX12_formulaFault 37 = .ok (.aload_n 0, 1) := by decide +kernel
theorem dX12_formulaFault_38 : decode cX12_formulaFault 38 = .ok (.getfield 216, 3) := by decide +kernel
theorem dX12_formulaFault_41 : decode cX12_formulaFault 41 = .ok (.ireturn, 1) := by decide +kernel
theorem dX12_mixed_0 : decode cX12_mixed 0 = .ok (.aload_n 0, 1) := by decide +kernel
theorem dX12_mixed_1 : decode cX12_mixed 1 = .ok (.iconst 1, 1) := by decide +kernel
theorem dX12_mixed_2 : decode cX12_mixed 2 = .ok (.iload_n 1, 1) := by decide +kernel
theorem dX12_mixed_3 : decode cX12_mixed 3 = .ok (.invokevirtual 270, 3) := by decide +kernel
theorem dX12_mixed_6 : decode cX12_mixed 6 = .ok (.aload_n 0, 1) := by decide +kernel
theorem dX12_mixed_7 : decode cX12_mixed 7 = .ok (.invokevirtual 274, 3) := by decide +kernel
theorem dX12_mixed_10 : decode cX12_mixed 10 = .ok (.ireturn, 1) := by decide +kernel
theorem dX12_modeBy_0 : decode cX12_modeBy 0 = .ok (.iload_n 0, 1) := by decide +kernel
theorem dX12_modeBy_1 : decode cX12_modeBy 1 = .ok (.tableswitch 108 65 84 #[99, 108, 101, 108, 108, 108, 108, 105, 108, 108, 108, 97, 103, 108, 108, 108, 108, 108, 108, 95], 95) := by decide +kernel
theorem dX12_modeBy_96 : decode cX12_modeBy 96 = .ok (.iconst 1, 1) := by decide +kernel
theorem dX12_modeBy_97 : decode cX12_modeBy 97 = .ok (.ireturn, 1) := by decide +kernel
theorem dX12_modeBy_98 : decode cX12_modeBy 98 = .ok (.iconst 2, 1) := by decide +kernel
theorem dX12_modeBy_99 : decode cX12_modeBy 99 = .ok (.ireturn, 1) := by decide +kernel
theorem dX12_modeBy_100 : decode cX12_modeBy 100 = .ok (.iconst 3, 1) := by decide +kernel
theorem dX12_modeBy_101 : decode cX12_modeBy 101 = .ok (.ireturn, 1) := by decide +kernel
theorem dX12_modeBy_102 : decode cX12_modeBy 102 = .ok (.iconst 4, 1) := by decide +kernel
theorem dX12_modeBy_103 : decode cX12_modeBy 103 = .ok (.ireturn, 1) := by decide +kernel
theorem dX12_modeBy_104 : decode cX12_modeBy 104 = .ok (.iconst 5, 1) := by decide +kernel
theorem dX12_modeBy_105 : decode cX12_modeBy 105 = .ok (.ireturn, 1) := by decide +kernel
theorem dX12_modeBy_106 : decode cX12_modeBy 106 = .ok (.bipush 6, 2) := by decide +kernel
theorem dX12_modeBy_108 : decode cX12_modeBy 108 = .ok (.ireturn, 1) := by decide +kernel
theorem dX12_modeBy_109 : decode cX12_modeBy 109 = .ok (.iconst (-1), 1) := by decide +kernel
theorem dX12_modeBy_110 : decode cX12_modeBy 110 = .ok (.ireturn, 1) := by decide +kernel
theorem dX12_key_0 : decode cX12_key 0 = .ok (.aload_n 0, 1) := by decide +kernel
theorem dX12_key_1 : decode cX12_key 1 = .ok (.getfield 213, 3) := by decide +kernel
theorem dX12_key_4 : decode cX12_key 4 = .ok (.istore_n 1, 1) := by decide +kernel
theorem dX12_key_5 : decode cX12_key 5 = .ok (.aload_n 0, 1) := by decide +kernel
theorem dX12_key_6 : decode cX12_key 6 = .ok (.invokevirtual 251, 3) := by decide +kernel
theorem dX12_key_9 : decode cX12_key 9 = .ok (.istore_n 2, 1) := by decide +kernel
theorem dX12_key_10 : decode cX12_key 10 = .ok (.iload_n 2, 1) := by decide +kernel
theorem dX12_key_11 : decode cX12_key 11 = .ok (.sipush 480, 3) := by decide +kernel
theorem dX12_key_14 : decode cX12_key 14 = .ok (.if_icmp .gt 27, 3) := by decide +kernel
theorem dX12_key_17 : decode cX12_key 17 = .ok (.aload_n 0, 1) := by decide +kernel
theorem dX12_key_18 : decode cX12_key 18 = .ok (.getfield 277, 3) := by decide +kernel
theorem dX12_key_21 : decode cX12_key 21 = .ok (.ifCond .le 25, 3) := by decide +kernel
theorem dX12_key_24 : decode cX12_key 24 = .ok (.iload_n 2, 1) := by decide +kernel
theorem dX12_key_25 : decode cX12_key 25 = .ok (.aload_n 0, 1) := by decide +kernel
theorem dX12_key_26 : decode cX12_key 26 = .ok (.getfield 57, 3) := by decide +kernel
theorem dX12_key_29 : decode cX12_key 29 = .ok (.iconst 3, 1) := by decide +kernel
theorem dX12_key_30 : decode cX12_key 30 = .ok (.aload_n 0, 1) := by decide +kernel
theorem dX12_key_31 : decode cX12_key 31 = .ok (.getfield 277, 3) := by decide +kernel
theorem dX12_key_34 : decode cX12_key 34 = .ok (.imul, 1) := by decide +kernel
theorem dX12_key_35 : decode cX12_key 35 = .ok (.iconst 3, 1) := by decide +kernel
theorem dX12_key_36 : decode cX12_key 36 = .ok (.isub, 1) := by decide +kernel
theorem dX12_key_37 : decode cX12_key 37 = .ok (.iaload, 1) := by decide +kernel
theorem dX12_key_38 : decode cX12_key 38 = .ok (.if_icmp .gt 8, 3) := by decide +kernel
theorem dX12_key_41 : decode cX12_key 41 = .ok (.aload_n 0, 1) := by decide +kernel
theorem dX12_key_42 : decode cX12_key 42 = .ok (.iload_n 1, 1) := by decide +kernel
theorem dX12_key_43 : decode cX12_key 43 = .ok (.invokevirtual 226, 3) := by decide +kernel
theorem dX12_key_46 : decode cX12_key 46 = .ok (.aload_n 0, 1) := by decide +kernel
theorem dX12_key_47 : decode cX12_key 47 = .ok (.bipush 58, 2) := by decide +kernel
theorem dX12_key_49 : decode cX12_key 49 = .ok (.invokevirtual 241, 3) := by decide +kernel
theorem dX12_key_52 : decode cX12_key 52 = .ok (.aload_n 0, 1) := by decide +kernel
theorem dX12_key_53 : decode cX12_key 53 = .ok (.bipush 45, 2) := by decide +kernel
theorem dX12_key_55 : decode cX12_key 55 = .ok (.invokevirtual 223, 3) := by decide +kernel
theorem dX12_key_58 : decode cX12_key 58 = .ok (.istore_n 3, 1) := by decide +kernel
theorem dX12_key_59 : decode cX12_key 59 = .ok (.iload_n 3, 1) := by decide +kernel
theorem dX12_key_60 : decode cX12_key 60 = .ok (.ifCond .eq 13, 3) := by decide +kernel
theorem dX12_key_63 : decode cX12_key 63 = .ok (.aload_n 0, 1) := by decide +kernel
theorem dX12_key_64 : decode cX12_key 64 = .ok (.dup, 1) := by decide +kernel
theorem dX12_key_65 : decode cX12_key 65 = .ok (.getfield 213, 3) := by decide +kernel
theorem dX12_key_68 : decode cX12_key 68 = .ok (.iconst 1, 1) := by decide +kernel
theorem dX12_key_69 : decode cX12_key 69 = .ok (.iadd, 1) := by decide +kernel
theorem dX12_key_70 : decode cX12_key 70 = .ok (.putfield 213, 3) := by decide +kernel
theorem dX12_key_73 : decode cX12_key 73 = .ok (.aload_n 0, 1) := by decide +kernel
theorem dX12_key_74 : decode cX12_key 74 = .ok (.getfield 216, 3) := by decide +kernel
theorem dX12_key_77 : decode cX12_key 77 = .ok (.ifCond .ge 10, 3) := by decide +kernel
theorem dX12_key_80 : decode cX12_key 80 = .ok (.aload_n 0, 1) := by decide +kernel
theorem dX12_key_81 : decode cX12_key 81 = .ok (.invokevirtual 251, 3) := by decide +kernel
theorem dX12_key_84 : decode cX12_key 84 = .ok (.goto 4, 3) := by decide +kernel
theorem dX12_key_87 : decode cX12_key 87 = .ok (.iconst 0, 1) := by decide +kernel
theorem dX12_key_88 : decode cX12_key 88 = .ok (.istore 4, 2) := by decide +kernel
theorem dX12_key_90 : decode cX12_key 90 = .ok (.aload_n 0, 1) := by decide +kernel
theorem dX12_key_91 : decode cX12_key 91 = .ok (.getfield 216, 3) := by decide +kernel
theorem dX12_key_94 : decode cX12_key 94 = .ok (.ifCond .ge 13, 3) := by decide +kernel
theorem dX12_key_97 : decode cX12_key 97 = .ok (.aload_n 0, 1) := by decide +kernel
theorem dX12_key_98 : decode cX12_key 98 = .ok (.invokevirtual 219, 3) := by decide +kernel
theorem dX12_key_101 : decode cX12_key 101 = .ok (.invokestatic 280, 3) := by decide +kernel
theorem dX12_key_104 : decode cX12_key 104 = .ok (.goto 4, 3) := by decide +kernel
theorem dX12_key_107 : decode cX12_key 107 = .ok (.iconst (-1), 1) := by decide +kernel
theorem dX12_key_108 : decode cX12_key 108 = .ok (.istore 5, 2) := by decide +kernel
theorem dX12_key_110 : decode cX12_key 110 = .ok (.iload 5, 2) := by decide +kernel
theorem dX12_key_112 : decode cX12_key 112 = .ok (.ifCond .lt 13, 3) := by decide +kernel
theorem dX12_key_115 : decode cX12_key 115 = .ok (.aload_n 0, 1) := by decide +kernel
theorem dX12_key_116 : decode cX12_key 116 = .ok (.dup, 1) := by decide +kernel
theorem dX12_key_117 : decode cX12_key 117 = .ok (.getfield 213, 3) := by decide +kernel
theorem dX12_key_120 : decode cX12_key 120 = .ok (.iconst 1, 1) := by decide +kernel
theorem dX12_key_121 : decode cX12_key 121 = .ok (.iadd, 1) := by decide +kernel
theorem dX12_key_122 : decode cX12_key 122 = .ok (.putfield 213, 3) := by decide +kernel
theorem dX12_key_125 : decode cX12_key 125 = .ok (.aload_n 0, 1) := by decide +kernel
theorem dX12_key_126 : decode cX12_key 126 = .ok (.getfield 57, 3) := by decide +kernel
theorem dX12_key_129 : decode cX12_key 129 = .ok (.iconst 3, 1) := by decide +kernel
theorem dX12_key_130 : decode cX12_key 130 = .ok (.aload_n 0, 1) := by decide +kernel
theorem dX12_key_131 : decode cX12_key 131 = .ok (.getfield 277, 3) := by decide +kernel
theorem dX12_key_134 : decode cX12_key 134 = .ok (.imul, 1) := by decide +kernel
theorem dX12_key_135 : decode cX12_key 135 = .ok (.iload_n 2, 1) := by decide +kernel
theorem dX12_key_136 : decode cX12_key 136 = .ok (.iastore, 1) := by decide +kernel
theorem dX12_key_137 : decode cX12_key 137 = .ok (.aload_n 0, 1) := by decide +kernel
theorem dX12_key_138 : decode cX12_key 138 = .ok (.getfield 57, 3) := by decide +kernel
theorem dX12_key_141 : decode cX12_key 141 = .ok (.iconst 3, 1) := by decide +kernel
theorem dX12_key_142 : decode cX12_key 142 = .ok (.aload_n 0, 1) := by decide +kernel
theorem dX12_key_143 : decode cX12_key 143 = .ok (.getfield 277, 3) := by decide +kernel
theorem dX12_key_146 : decode cX12_key 146 = .ok (.imul, 1) := by decide +kernel
theorem dX12_key_147 : decode cX12_key 147 = .ok (.iconst 1, 1) := by decide +kernel
theorem dX12_key_148 : decode cX12_key 148 = .ok (.iadd, 1) := by decide +kernel
theorem dX12_key_149 : decode cX12_key 149 = .ok (.iload_n 3, 1) := by decide +kernel
theorem dX12_key_150 : decode cX12_key 150 = .ok (.ifCond .eq 9, 3) := by decide +kernel
theorem dX12_key_153 : decode cX12_key 153 = .ok (.iload 4, 2) := by decide +kernel
theorem dX12_key_155 : decode cX12_key 155 = .ok (.ineg, 1) := by decide +kernel
theorem dX12_key_156 : decode cX12_key 156 = .ok (.goto 5, 3) := by decide +kernel
theorem dX12_key_159 : decode cX12_key 159 = .ok (.iload 4, 2) := by decide +kernel
theorem dX12_key_161 : decode cX12_key 161 = .ok (.iastore, 1) := by decide +kernel
theorem dX12_key_162 : decode cX12_key 162 = .ok (.aload_n 0, 1) := by decide +kernel
theorem dX12_key_163 : decode cX12_key 163 = .ok (.getfield 57, 3) := by decide +kernel
theorem dX12_key_166 : decode cX12_key 166 = .ok (.iconst 3, 1) := by decide +kernel
theorem dX12_key_167 : decode cX12_key 167 = .ok (.aload_n 0, 1) := by decide +kernel
theorem dX12_key_168 : decode cX12_key 168 = .ok (.getfield 277, 3) := by decide +kernel
theorem dX12_key_171 : decode cX12_key 171 = .ok (.imul, 1) := by decide +kernel
theorem dX12_key_172 : decode cX12_key 172 = .ok (.iconst 2, 1) := by decide +kernel
theorem dX12_key_173 : decode cX12_key 173 = .ok (.iadd, 1) := by decide +kernel
theorem dX12_key_174 : decode cX12_key 174 = .ok (.iload 5, 2) := by decide +kernel
theorem dX12_key_176 : decode cX12_key 176 = .ok (.ifCond .ge 7, 3) := by decide +kernel
theorem dX12_key_179 : decode cX12_key 179 = .ok (.iconst 3, 1) := by decide +kernel
theorem dX12_key_180 : decode cX12_key 180 = .ok (.goto 5, 3) := by decide +kernel
theorem dX12_key_183 : decode cX12_key 183 = .ok (.iload 5, 2) := by decide +kernel
theorem dX12_key_185 : decode cX12_key 185 = .ok (.iastore, 1) := by decide +kernel
theorem dX12_key_186 : decode cX12_key 186 = .ok (.aload_n 0, 1) := by decide +kernel
theorem dX12_key_187 : decode cX12_key 187 = .ok (.dup, 1) := by decide +kernel
theorem dX12_key_188 : decode cX12_key 188 = .ok (.getfield 277, 3) := by decide +kernel
theorem dX12_key_191 : decode cX12_key 191 = .ok (.iconst 1, 1) := by decide +kernel
theorem dX12_key_192 : decode cX12_key 192 = .ok (.iadd, 1) := by decide +kernel
theorem dX12_key_193 : decode cX12_key 193 = .ok (.putfield 277, 3) := by decide +kernel
theorem dX12_key_196 : decode cX12_key 196 = .ok (.return_, 1) := by decide +kernel
theorem dX12_curveFault_0 : decode cX12_curveFault 0 = .ok (.aload_n 0, 1) := by decide +kernel
theorem dX12_curveFault_1 : decode cX12_curveFault 1 = .ok (.iconst 0, 1) := by decide +kernel
theorem dX12_curveFault_2 : decode cX12_curveFault 2 = .ok (.iconst 0, 1) := by decide +kernel
theorem dX12_curveFault_3 : decode cX12_curveFault 3 = .ok (.invokevirtual 270, 3) := by decide +kernel
theorem dX12_curveFault_6 : decode cX12_curveFault 6 = .ok (.aload_n 0, 1) := by decide +kernel
theorem dX12_curveFault_7 : decode cX12_curveFault 7 = .ok (.iconst 0, 1) := by decide +kernel
theorem dX12_curveFault_8 : decode cX12_curveFault 8 = .ok (.putfield 277, 3) := by decide +kernel
theorem dX12_curveFault_11 : decode cX12_curveFault 11 = .ok (.aload_n 0, 1) := by decide +kernel
theorem dX12_curveFault_12 : decode cX12_curveFault 12 = .ok (.invokevirtual 283, 3) := by decide +kernel
theorem dX12_curveFault_15 : decode cX12_curveFault 15 = .ok (.aload_n 0, 1) := by decide +kernel
theorem dX12_curveFault_16 : decode cX12_curveFault 16 = .ok (.bipush 44, 2) := by decide +kernel
theorem dX12_curveFault_18 : decode cX12_curveFault 18 = .ok (.invokevirtual 223, 3) := by decide +kernel
theorem dX12_curveFault_21 : decode cX12_curveFault 21 = .ok (.ifCond .eq 40, 3) := by decide +kernel
theorem dX12_curveFault_24 : decode cX12_curveFault 24 = .ok (.aload_n 0, 1) := by decide +kernel
theorem dX12_curveFault_25 : decode cX12_curveFault 25 = .ok (.getfield 277, 3) := by decide +kernel
theorem dX12_curveFault_28 : decode cX12_curveFault 28 = .ok (.bipush 24, 2) := by decide +kernel
theorem dX12_curveFault_30 : decode cX12_curveFault 30 = .ok (.if_icmp .ne 14, 3) := by decide +kernel
theorem dX12_curveFault_33 : decode cX12_curveFault 33 = .ok (.aload_n 0, 1) := by decide +kernel
theorem dX12_curveFault_34 : decode cX12_curveFault 34 = .ok (.aload_n 0, 1) := by decide +kernel
theorem dX12_curveFault_35 : decode cX12_curveFault 35 = .ok (.getfield 213, 3) := by decide +kernel
theorem dX12_curveFault_38 : decode cX12_curveFault 38 = .ok (.invokevirtual 226, 3) := by decide +kernel
theorem dX12_curveFault_41 : decode cX12_curveFault 41 = .ok (.goto (-26), 3) := by decide +kernel
theorem dX12_curveFault_44 : decode cX12_curveFault 44 = .ok (.aload_n 0, 1) := by decide +kernel
theorem dX12_curveFault_45 : decode cX12_curveFault 45 = .ok (.dup, 1) := by decide +kernel
theorem dX12_curveFault_46 : decode cX12_curveFault 46 = .ok (.getfield 213, 3) := by decide +kernel
theorem dX12_curveFault_49 : decode cX12_curveFault 49 = .ok (.iconst 1, 1) := by decide +kernel
theorem dX12_curveFault_50 : decode cX12_curveFault 50 = .ok (.iadd, 1) := by decide +kernel
theorem dX12_curveFault_51 : decode cX12_curveFault 51 = .ok (.putfield 213, 3) := by decide +kernel
theorem dX12_curveFault_54 : decode cX12_curveFault 54 = .ok (.aload_n 0, 1) := by decide +kernel
theorem dX12_curveFault_55 : decode cX12_curveFault 55 = .ok (.invokevirtual 283, 3) := by decide +kernel
theorem dX12_curveFault_58 : decode cX12_curveFault 58 = .ok (.goto (-43), 3) := by decide +kernel
theorem dX12_curveFault_61 : decode cX12_curveFault 61 = .ok (.aload_n 0, 1) := by decide +kernel
theorem dX12_curveFault_62 : decode cX12_curveFault 62 = .ok (.bipush 59, 2) := by decide +kernel
theorem dX12_curveFault_64 : decode cX12_curveFault 64 = .ok (.invokevirtual 241, 3) := by decide +kernel
theorem dX12_curveFault_67 : decode cX12_curveFault 67 = .ok (.aload_n 0, 1) := by decide +kernel
theorem dX12_curveFault_68 : decode cX12_curveFault 68 = .ok (.getfield 216, 3) := by decide +kernel
theorem dX12_curveFault_71 : decode cX12_curveFault 71 = .ok (.ifCond .ge 22, 3) := by decide +kernel
theorem dX12_curveFault_74 : decode cX12_curveFault 74 = .ok (.aload_n 0, 1) := by decide +kernel
theorem dX12_curveFault_75 : decode cX12_curveFault 75 = .ok (.getfield 213, 3) := by decide +kernel
theorem dX12_curveFault_78 : decode cX12_curveFault 78 = .ok (.aload_n 0, 1) := by decide +kernel
theorem dX12_curveFault_79 : decode cX12_curveFault 79 = .ok (.getfield 206, 3) := by decide +kernel
theorem dX12_curveFault_82 : decode cX12_curveFault 82 = .ok (.if_icmp .ge 11, 3) := by decide +kernel
theorem dX12_curveFault_85 : decode cX12_curveFault 85 = .ok (.aload_n 0, 1) := by decide +kernel
theorem dX12_curveFault_86 : decode cX12_curveFault 86 = .ok (.aload_n 0, 1) := by decide +kernel
theorem dX12_curveFault_87 : decode cX12_curveFault 87 = .ok (.getfield 213, 3) := by decide +kernel
theorem dX12_curveFault_90 : decode cX12_curveFault 90 = .ok (.invokevirtual 226, 3) := by decide +kernel
theorem dX12_curveFault_93 : decode cX12_curveFault 93 = .ok (.aload_n 0, 1) := by decide +kernel
theorem dX12_curveFault_94 : decode cX12_curveFault 94 = .ok (.getfield 216, 3) := by decide +kernel
theorem dX12_curveFault_97 : decode cX12_curveFault 97 = .ok (.ireturn, 1) := by decide +kernel
theorem dX12_faultPosition_0 : decode cX12_faultPosition 0 = .ok (.iload_n 1, 1) := by decide +kernel
theorem dX12_faultPosition_1 : decode cX12_faultPosition 1 = .ok (.ifCond .eq 10, 3) := by decide +kernel
theorem dX12_faultPosition_4 : decode cX12_faultPosition 4 = .ok (.aload_n 0, 1) := by decide +kernel
theorem dX12_faultPosition_5 : decode cX12_faultPosition 5 = .ok (.invokevirtual 286, 3) := by decide +kernel
theorem dX12_faultPosition_8 : decode cX12_faultPosition 8 = .ok (.goto 7, 3) := by decide +kernel
theorem dX12_faultPosition_11 : decode cX12_faultPosition 11 = .ok (.aload_n 0, 1) := by decide +kernel
theorem dX12_faultPosition_12 : decode cX12_faultPosition 12 = .ok (.invokevirtual 289, 3) := by decide +kernel
theorem dX12_faultPosition_15 : decode cX12_faultPosition 15 = .ok (.istore_n 2, 1) := by decide +kernel
theorem dX12_faultPosition_16 : decode cX12_faultPosition 16 = .ok (.iload_n 2, 1) := by decide +kernel
theorem dX12_faultPosition_17 : decode cX12_faultPosition 17 = .ok (.ifCond .ge 8, 3) := by decide +kernel
theorem dX12_faultPosition_20 : decode cX12_faultPosition 20 = .ok (.ldc 90, 2) := by decide +kernel
theorem dX12_faultPosition_22 : decode cX12_faultPosition 22 = .ok (.goto 4, 3) := by decide +kernel
theorem dX12_faultPosition_25 : decode cX12_faultPosition 25 = .ok (.iload_n 2, 1) := by decide +kernel
theorem dX12_faultPosition_26 : decode cX12_faultPosition 26 = .ok (.ireturn, 1) := by decide +kernel
theorem dX12_readCurve_0 : decode cX12_readCurve 0 = .ok (.iload_n 1, 1) := by decide +kernel
theorem dX12_readCurve_1 : decode cX12_readCurve 1 = .ok (.invokestatic 74, 3) := by decide +kernel
theorem dX12_readCurve_4 : decode cX12_readCurve 4 = .ok (.ifCond .ne 6, 3) := by decide +kernel
theorem dX12_readCurve_7 : decode cX12_readCurve 7 = .ok (.ldc 131, 2) := by decide +kernel
theorem dX12_readCurve_9 : decode cX12_readCurve 9 = .ok (.ireturn, 1) := by decide +kernel
theorem dX12_readCurve_10 : decode cX12_readCurve 10 = .ok (.aload_n 0, 1) := by decide +kernel
theorem dX12_readCurve_11 : decode cX12_readCurve 11 = .ok (.invokevirtual 289, 3) := by decide +kernel
theorem dX12_readCurve_14 : decode cX12_readCurve 14 = .ok (.ifCond .lt 6, 3) := by decide +kernel
theorem dX12_readCurve_17 : decode cX12_readCurve 17 = .ok (.ldc 132, 2) := by decide +kernel
theorem dX12_readCurve_19 : decode cX12_readCurve 19 = .ok (.ireturn, 1) := by decide +kernel
theorem dX12_readCurve_20 : decode cX12_readCurve 20 = .ok (.aload_n 0, 1) := by decide +kernel
theorem dX12_readCurve_21 : decode cX12_readCurve 21 = .ok (.invokevirtual 146, 3) := by decide +kernel
theorem dX12_readCurve_24 : decode cX12_readCurve 24 = .ok (.aload_n 0, 1) := by decide +kernel
theorem dX12_readCurve_25 : decode cX12_readCurve 25 = .ok (.getfield 7, 3) := by decide +kernel
theorem dX12_readCurve_28 : decode cX12_readCurve 28 = .ok (.iload_n 1, 1) := by decide +kernel
theorem dX12_readCurve_29 : decode cX12_readCurve 29 = .ok (.iconst 0, 1) := by decide +kernel
theorem dX12_readCurve_30 : decode cX12_readCurve 30 = .ok (.iconst 0, 1) := by decide +kernel
theorem dX12_readCurve_31 : decode cX12_readCurve 31 = .ok (.invokestatic 70, 3) := by decide +kernel
theorem dX12_readCurve_34 : decode cX12_readCurve 34 = .ok (.iconst 0, 1) := by decide +kernel
theorem dX12_readCurve_35 : decode cX12_readCurve 35 = .ok (.iastore, 1) := by decide +kernel
theorem dX12_readCurve_36 : decode cX12_readCurve 36 = .ok (.iconst 0, 1) := by decide +kernel
theorem dX12_readCurve_37 : decode cX12_readCurve 37 = .ok (.istore_n 2, 1) := by decide +kernel
theorem dX12_readCurve_38 : decode cX12_readCurve 38 = .ok (.iload_n 2, 1) := by decide +kernel
theorem dX12_readCurve_39 : decode cX12_readCurve 39 = .ok (.aload_n 0, 1) := by decide +kernel
theorem dX12_readCurve_40 : decode cX12_readCurve 40 = .ok (.getfield 277, 3) := by decide +kernel
theorem dX12_readCurve_43 : decode cX12_readCurve 43 = .ok (.if_icmp .ge 45, 3) := by decide +kernel
theorem dX12_readCurve_46 : decode cX12_readCurve 46 = .ok (.aload_n 0, 1) := by decide +kernel
theorem dX12_readCurve_47 : decode cX12_readCurve 47 = .ok (.iload_n 1, 1) := by decide +kernel
theorem dX12_readCurve_48 : decode cX12_readCurve 48 = .ok (.aload_n 0, 1) := by decide +kernel
theorem dX12_readCurve_49 : decode cX12_readCurve 49 = .ok (.getfield 57, 3) := by decide +kernel
theorem dX12_readCurve_52 : decode cX12_readCurve 52 = .ok (.iconst 3, 1) := by decide +kernel
theorem dX12_readCurve_53 : decode cX12_readCurve 53 = .ok (.iload_n 2, 1) := by decide +kernel
theorem dX12_readCurve_54 : decode cX12_readCurve 54 = .ok (.imul, 1) := by decide +kernel
theorem dX12_readCurve_55 : decode cX12_readCurve 55 = .ok (.iaload, 1) := by decide +kernel
theorem dX12_readCurve_56 : decode cX12_readCurve 56 = .ok (.aload_n 0, 1) := by decide +kernel
theorem dX12_readCurve_57 : decode cX12_readCurve 57 = .ok (.getfield 57, 3) := by decide +kernel
theorem dX12_readCurve_60 : decode cX12_readCurve 60 = .ok (.iconst 3, 1) := by decide +kernel
theorem dX12_readCurve_61 : decode cX12_readCurve 61 = .ok (.iload_n 2, 1) := by decide +kernel
theorem dX12_readCurve_62 : decode cX12_readCurve 62 = .ok (.imul, 1) := by decide +kernel
theorem dX12_readCurve_63 : decode cX12_readCurve 63 = .ok (.iconst 1, 1) := by decide +kernel
theorem dX12_readCurve_64 : decode cX12_readCurve 64 = .ok (.iadd, 1) := by decide +kernel
theorem dX12_readCurve_65 : decode cX12_readCurve 65 = .ok (.iaload, 1) := by decide +kernel
theorem dX12_readCurve_66 : decode cX12_readCurve 66 = .ok (.aload_n 0, 1) := by decide +kernel
theorem dX12_readCurve_67 : decode cX12_readCurve 67 = .ok (.getfield 57, 3) := by decide +kernel
theorem dX12_readCurve_70 : decode cX12_readCurve 70 = .ok (.iconst 3, 1) := by decide +kernel
theorem dX12_readCurve_71 : decode cX12_readCurve 71 = .ok (.iload_n 2, 1) := by decide +kernel
theorem dX12_readCurve_72 : decode cX12_readCurve 72 = .ok (.imul, 1) := by decide +kernel
theorem dX12_readCurve_73 : decode cX12_readCurve 73 = .ok (.iconst 2, 1) := by decide +kernel
theorem dX12_readCurve_74 : decode cX12_readCurve 74 = .ok (.iadd, 1) := by decide +kernel
theorem dX12_readCurve_75 : decode cX12_readCurve 75 = .ok (.iaload, 1) := by decide +kernel
theorem dX12_readCurve_76 : decode cX12_readCurve 76 = .ok (.iconst 0, 1) := by decide +kernel
theorem dX12_readCurve_77 : decode cX12_readCurve 77 = .ok (.iconst 0, 1) := by decide +kernel
theorem dX12_readCurve_78 : decode cX12_readCurve 78 = .ok (.invokevirtual 149, 3) := by decide +kernel
theorem dX12_readCurve_81 : decode cX12_readCurve 81 = .ok (.istore_n 3, 1) := by decide +kernel
theorem dX12_readCurve_82 : decode cX12_readCurve 82 = .ok (.iinc 2 1, 3) := by decide +kernel
theorem dX12_readCurve_85 : decode cX12_readCurve 85 = .ok (.goto (-47), 3) := by decide +kernel
theorem dX12_readCurve_88 : decode cX12_readCurve 88 = .ok (.aload_n 0, 1) := by decide +kernel
theorem dX12_readCurve_89 : decode cX12_readCurve 89 = .ok (.getfield 277, 3) := by decide +kernel
theorem dX12_readCurve_92 : decode cX12_readCurve 92 = .ok (.ireturn, 1) := by decide +kernel
theorem dX12_readFormula_0 : decode cX12_readFormula 0 = .ok (.aload_n 0, 1) := by decide +kernel
theorem dX12_readFormula_1 : decode cX12_readFormula 1 = .ok (.invokevirtual 286, 3) := by decide +kernel
theorem dX12_readFormula_4 : decode cX12_readFormula 4 = .ok (.ifCond .lt 6, 3) := by decide +kernel
theorem dX12_readFormula_7 : decode cX12_readFormula 7 = .ok (.ldc 132, 2) := by decide +kernel
theorem dX12_readFormula_9 : decode cX12_readFormula 9 = .ok (.ireturn, 1) := by decide +kernel
theorem dX12_readFormula_10 : decode cX12_readFormula 10 = .ok (.aload_n 0, 1) := by decide +kernel
theorem dX12_readFormula_11 : decode cX12_readFormula 11 = .ok (.getfield 232, 3) := by decide +kernel
theorem dX12_readFormula_14 : decode cX12_readFormula 14 = .ok (.istore_n 1, 1) := by decide +kernel
theorem dX12_readFormula_15 : decode cX12_readFormula 15 = .ok (.aload_n 0, 1) := by decide +kernel
theorem dX12_readFormula_16 : decode cX12_readFormula 16 = .ok (.invokevirtual 146, 3) := by decide +kernel
theorem dX12_readFormula_19 : decode cX12_readFormula 19 = .ok (.aload_n 0, 1) := by decide +kernel
theorem dX12_readFormula_20 : decode cX12_readFormula 20 = .ok (.getfield 7, 3) := by decide +kernel
theorem dX12_readFormula_23 : decode cX12_readFormula 23 = .ok (.sipush 530, 3) := by decide +kernel
theorem dX12_readFormula_26 : decode cX12_readFormula 26 = .ok (.aload_n 0, 1) := by decide +kernel
theorem dX12_readFormula_27 : decode cX12_readFormula 27 = .ok (.getfield 206, 3) := by decide +kernel
theorem dX12_readFormula_30 : decode cX12_readFormula 30 = .ok (.iastore, 1) := by decide +kernel
theorem dX12_readFormula_31 : decode cX12_readFormula 31 = .ok (.iconst 0, 1) := by decide +kernel
theorem dX12_readFormula_32 : decode cX12_readFormula 32 = .ok (.istore_n 2, 1) := by decide +kernel
theorem dX12_readFormula_33 : decode cX12_readFormula 33 = .ok (.iload_n 2, 1) := by decide +kernel
theorem dX12_readFormula_34 : decode cX12_readFormula 34 = .ok (.aload_n 0, 1) := by decide +kernel
theorem dX12_readFormula_35 : decode cX12_readFormula 35 = .ok (.getfield 206, 3) := by decide +kernel
theorem dX12_readFormula_38 : decode cX12_readFormula 38 = .ok (.if_icmp .ge 25, 3) := by decide +kernel
theorem dX12_readFormula_41 : decode cX12_readFormula 41 = .ok (.aload_n 0, 1) := by decide +kernel
theorem dX12_readFormula_42 : decode cX12_readFormula 42 = .ok (.getfield 7, 3) := by decide +kernel
theorem dX12_readFormula_45 : decode cX12_readFormula 45 = .ok (.sipush 531, 3) := by decide +kernel
theorem dX12_readFormula_48 : decode cX12_readFormula 48 = .ok (.iload_n 2, 1) := by decide +kernel
theorem dX12_readFormula_49 : decode cX12_readFormula 49 = .ok (.iadd, 1) := by decide +kernel
theorem dX12_readFormula_50 : decode cX12_readFormula 50 = .ok (.aload_n 0, 1) := by decide +kernel
theorem dX12_readFormula_51 : decode cX12_readFormula 51 = .ok (.getfield 16, 3) := by decide +kernel
theorem dX12_readFormula_54 : decode cX12_readFormula 54 = .ok (.iload_n 2, 1) := by decide +kernel
theorem dX12_readFormula_55 : decode cX12_readFormula 55 = .ok (.iaload, 1) := by decide +kernel
theorem dX12_readFormula_56 : decode cX12_readFormula 56 = .ok (.iastore, 1) := by decide +kernel
theorem dX12_readFormula_57 : decode cX12_readFormula 57 = .ok (.iinc 2 1, 3) := by decide +kernel
theorem dX12_readFormula_60 : decode cX12_readFormula 60 = .ok (.goto (-27), 3) := by decide +kernel
theorem dX12_readFormula_63 : decode cX12_readFormula 63 = .ok (.iload_n 1, 1) := by decide +kernel
theorem dX12_readFormula_64 : decode cX12_readFormula 64 = .ok (.ireturn, 1) := by decide +kernel
theorem dX12_mix_0 : decode cX12_mix 0 = .ok (.iload_n 1, 1) := by decide +kernel
theorem dX12_mix_1 : decode cX12_mix 1 = .ok (.iconst 0, 1) := by decide +kernel
theorem dX12_mix_2 : decode cX12_mix 2 = .ok (.sipush 960, 3) := by decide +kernel
theorem dX12_mix_5 : decode cX12_mix 5 = .ok (.invokestatic 66, 3) := by decide +kernel
theorem dX12_mix_8 : decode cX12_mix 8 = .ok (.ifCond .eq 11, 3) := by decide +kernel
theorem dX12_mix_11 : decode cX12_mix 11 = .ok (.aload_n 0, 1) := by decide +kernel
theorem dX12_mix_12 : decode cX12_mix 12 = .ok (.iload_n 1, 1) := by decide +kernel
theorem dX12_mix_13 : decode cX12_mix 13 = .ok (.invokevirtual 184, 3) := by decide +kernel
theorem dX12_mix_16 : decode cX12_mix 16 = .ok (.goto 5, 3) := by decide +kernel
theorem dX12_mix_19 : decode cX12_mix 19 = .ok (.ldc 132, 2) := by decide +kernel
theorem dX12_mix_21 : decode cX12_mix 21 = .ok (.ireturn, 1) := by decide +kernel
theorem dX12_more_0 : decode cX12_more 0 = .ok (.ldc2_w 292, 3) := by decide +kernel
theorem dX12_more_3 : decode cX12_more 3 = .ok (.lload_n 0, 1) := by decide +kernel
theorem dX12_more_4 : decode cX12_more 4 = .ok (.lmul, 1) := by decide +kernel
theorem dX12_more_5 : decode cX12_more 5 = .ok (.iload_n 2, 1) := by decide +kernel
theorem dX12_more_6 : decode cX12_more 6 = .ok (.i2l, 1) := by decide +kernel
theorem dX12_more_7 : decode cX12_more 7 = .ok (.ladd, 1) := by decide +kernel
theorem dX12_more_8 : decode cX12_more 8 = .ok (.lreturn, 1) := by decide +kernel
theorem dX12_moreOf_0 : decode cX12_moreOf 0 = .ok (.lload_n 1, 1) := by decide +kernel
theorem dX12_moreOf_1 : decode cX12_moreOf 1 = .ok (.aload_n 0, 1) := by decide +kernel
theorem dX12_moreOf_2 : decode cX12_moreOf 2 = .ok (.iload_n 3, 1) := by decide +kernel
theorem dX12_moreOf_3 : decode cX12_moreOf 3 = .ok (.invokevirtual 78, 3) := by decide +kernel
theorem dX12_moreOf_6 : decode cX12_moreOf 6 = .ok (.invokestatic 294, 3) := by decide +kernel
theorem dX12_moreOf_9 : decode cX12_moreOf 9 = .ok (.lstore 4, 2) := by decide +kernel
theorem dX12_moreOf_11 : decode cX12_moreOf 11 = .ok (.iconst 0, 1) := by decide +kernel
theorem dX12_moreOf_12 : decode cX12_moreOf 12 = .ok (.istore 6, 2) := by decide +kernel
theorem dX12_moreOf_14 : decode cX12_moreOf 14 = .ok (.iload 6, 2) := by decide +kernel
theorem dX12_moreOf_16 : decode cX12_moreOf 16 = .ok (.aload_n 0, 1) := by decide +kernel
theorem dX12_moreOf_17 : decode cX12_moreOf 17 = .ok (.iload_n 3, 1) := by decide +kernel
theorem dX12_moreOf_18 : decode cX12_moreOf 18 = .ok (.invokevirtual 78, 3) := by decide +kernel
theorem dX12_moreOf_21 : decode cX12_moreOf 21 = .ok (.if_icmp .ge 81, 3) := by decide +kernel
theorem dX12_moreOf_24 : decode cX12_moreOf 24 = .ok (.lload 4, 2) := by decide +kernel
theorem dX12_moreOf_26 : decode cX12_moreOf 26 = .ok (.aload_n 0, 1) := by decide +kernel
theorem dX12_moreOf_27 : decode cX12_moreOf 27 = .ok (.iload_n 3, 1) := by decide +kernel
theorem dX12_moreOf_28 : decode cX12_moreOf 28 = .ok (.iload 6, 2) := by decide +kernel
theorem dX12_moreOf_30 : decode cX12_moreOf 30 = .ok (.invokevirtual 82, 3) := by decide +kernel
theorem dX12_moreOf_33 : decode cX12_moreOf 33 = .ok (.invokestatic 294, 3) := by decide +kernel
theorem dX12_moreOf_36 : decode cX12_moreOf 36 = .ok (.aload_n 0, 1) := by decide +kernel
theorem dX12_moreOf_37 : decode cX12_moreOf 37 = .ok (.getfield 7, 3) := by decide +kernel
theorem dX12_moreOf_40 : decode cX12_moreOf 40 = .ok (.iload_n 3, 1) := by decide +kernel
theorem dX12_moreOf_41 : decode cX12_moreOf 41 = .ok (.bipush 28, 2) := by decide +kernel
theorem dX12_moreOf_43 : decode cX12_moreOf 43 = .ok (.iload 6, 2) := by decide +kernel
theorem dX12_moreOf_45 : decode cX12_moreOf 45 = .ok (.invokestatic 70, 3) := by decide +kernel
theorem dX12_moreOf_48 : decode cX12_moreOf 48 = .ok (.iaload, 1) := by decide +kernel
theorem dX12_moreOf_49 : decode cX12_moreOf 49 = .ok (.invokestatic 294, 3) := by decide +kernel
theorem dX12_moreOf_52 : decode cX12_moreOf 52 = .ok (.aload_n 0, 1) := by decide +kernel
theorem dX12_moreOf_53 : decode cX12_moreOf 53 = .ok (.getfield 7, 3) := by decide +kernel
theorem dX12_moreOf_56 : decode cX12_moreOf 56 = .ok (.iload_n 3, 1) := by decide +kernel
theorem dX12_moreOf_57 : decode cX12_moreOf 57 = .ok (.bipush 52, 2) := by decide +kernel
theorem dX12_moreOf_59 : decode cX12_moreOf 59 = .ok (.iload 6, 2) := by decide +kernel
theorem dX12_moreOf_61 : decode cX12_moreOf 61 = .ok (.invokestatic 70, 3) := by decide +kernel
theorem dX12_moreOf_64 : decode cX12_moreOf 64 = .ok (.iaload, 1) := by decide +kernel
theorem dX12_moreOf_65 : decode cX12_moreOf 65 = .ok (.invokestatic 294, 3) := by decide +kernel
theorem dX12_moreOf_68 : decode cX12_moreOf 68 = .ok (.lstore 4, 2) := by decide +kernel
theorem dX12_moreOf_70 : decode cX12_moreOf 70 = .ok (.lload 4, 2) := by decide +kernel
theorem dX12_moreOf_72 : decode cX12_moreOf 72 = .ok (.aload_n 0, 1) := by decide +kernel
theorem dX12_moreOf_73 : decode cX12_moreOf 73 = .ok (.iload_n 3, 1) := by decide +kernel
theorem dX12_moreOf_74 : decode cX12_moreOf 74 = .ok (.iload 6, 2) := by decide +kernel
theorem dX12_moreOf_76 : decode cX12_moreOf 76 = .ok (.iconst 0, 1) := by decide +kernel
theorem dX12_moreOf_77 : decode cX12_moreOf 77 = .ok (.invokevirtual 122, 3) := by decide +kernel
theorem dX12_moreOf_80 : decode cX12_moreOf 80 = .ok (.invokestatic 294, 3) := by decide +kernel
theorem dX12_moreOf_83 : decode cX12_moreOf 83 = .ok (.aload_n 0, 1) := by decide +kernel
theorem dX12_moreOf_84 : decode cX12_moreOf 84 = .ok (.iload_n 3, 1) := by decide +kernel
theorem dX12_moreOf_85 : decode cX12_moreOf 85 = .ok (.iload 6, 2) := by decide +kernel
theorem dX12_moreOf_87 : decode cX12_moreOf 87 = .ok (.iconst 1, 1) := by decide +kernel
theorem dX12_moreOf_88 : decode cX12_moreOf 88 = .ok (.invokevirtual 122, 3) := by decide +kernel
theorem dX12_moreOf_91 : decode cX12_moreOf 91 = .ok (.invokestatic 294, 3) := by decide +kernel
theorem dX12_moreOf_94 : decode cX12_moreOf 94 = .ok (.lstore 4, 2) := by decide +kernel
theorem dX12_moreOf_96 : decode cX12_moreOf 96 = .ok (.iinc 6 1, 3) := by decide +kernel
theorem dX12_moreOf_99 : decode cX12_moreOf 99 = .ok (.goto (-85), 3) := by decide +kernel
theorem dX12_moreOf_102 : decode cX12_moreOf 102 = .ok (.lload 4, 2) := by decide +kernel
theorem dX12_moreOf_104 : decode cX12_moreOf 104 = .ok (.bipush 10, 2) := by decide +kernel
theorem dX12_moreOf_106 : decode cX12_moreOf 106 = .ok (.aload_n 0, 1) := by decide +kernel
theorem dX12_moreOf_107 : decode cX12_moreOf 107 = .ok (.getfield 7, 3) := by decide +kernel
theorem dX12_moreOf_110 : decode cX12_moreOf 110 = .ok (.iload_n 3, 1) := by decide +kernel
theorem dX12_moreOf_111 : decode cX12_moreOf 111 = .ok (.iconst 1, 1) := by decide +kernel
theorem dX12_moreOf_112 : decode cX12_moreOf 112 = .ok (.iconst 0, 1) := by decide +kernel
theorem dX12_moreOf_113 : decode cX12_moreOf 113 = .ok (.invokestatic 70, 3) := by decide +kernel
theorem dX12_moreOf_116 : decode cX12_moreOf 116 = .ok (.iaload, 1) := by decide +kernel
theorem dX12_moreOf_117 : decode cX12_moreOf 117 = .ok (.imul, 1) := by decide +kernel
theorem dX12_moreOf_118 : decode cX12_moreOf 118 = .ok (.aload_n 0, 1) := by decide +kernel
theorem dX12_moreOf_119 : decode cX12_moreOf 119 = .ok (.getfield 7, 3) := by decide +kernel
theorem dX12_moreOf_122 : decode cX12_moreOf 122 = .ok (.iload_n 3, 1) := by decide +kernel
theorem dX12_moreOf_123 : decode cX12_moreOf 123 = .ok (.iconst 2, 1) := by decide +kernel
theorem dX12_moreOf_124 : decode cX12_moreOf 124 = .ok (.iconst 0, 1) := by decide +kernel
theorem dX12_moreOf_125 : decode cX12_moreOf 125 = .ok (.invokestatic 70, 3) := by decide +kernel
theorem dX12_moreOf_128 : decode cX12_moreOf 128 = .ok (.iaload, 1) := by decide +kernel
theorem dX12_moreOf_129 : decode cX12_moreOf 129 = .ok (.iadd, 1) := by decide +kernel
theorem dX12_moreOf_130 : decode cX12_moreOf 130 = .ok (.invokestatic 294, 3) := by decide +kernel
theorem dX12_moreOf_133 : decode cX12_moreOf 133 = .ok (.lstore 4, 2) := by decide +kernel
theorem dX12_moreOf_135 : decode cX12_moreOf 135 = .ok (.iconst 0, 1) := by decide +kernel
theorem dX12_moreOf_136 : decode cX12_moreOf 136 = .ok (.istore 6, 2) := by decide +kernel
theorem dX12_moreOf_138 : decode cX12_moreOf 138 = .ok (.iload 6, 2) := by decide +kernel
theorem dX12_moreOf_140 : decode cX12_moreOf 140 = .ok (.sipush 960, 3) := by decide +kernel
theorem dX12_moreOf_143 : decode cX12_moreOf 143 = .ok (.if_icmp .gt 31, 3) := by decide +kernel
theorem dX12_moreOf_146 : decode cX12_moreOf 146 = .ok (.aload_n 0, 1) := by decide +kernel
theorem dX12_moreOf_147 : decode cX12_moreOf 147 = .ok (.iload_n 3, 1) := by decide +kernel
theorem dX12_moreOf_148 : decode cX12_moreOf 148 = .ok (.invokevirtual 78, 3) := by decide +kernel
theorem dX12_moreOf_151 : decode cX12_moreOf 151 = .ok (.ifCond .le 23, 3) := by decide +kernel
theorem dX12_moreOf_154 : decode cX12_moreOf 154 = .ok (.lload 4, 2) := by decide +kernel
theorem dX12_moreOf_156 : decode cX12_moreOf 156 = .ok (.aload_n 0, 1) := by decide +kernel
theorem dX12_moreOf_157 : decode cX12_moreOf 157 = .ok (.iload_n 3, 1) := by decide +kernel
theorem dX12_moreOf_158 : decode cX12_moreOf 158 = .ok (.iload 6, 2) := by decide +kernel
theorem dX12_moreOf_160 : decode cX12_moreOf 160 = .ok (.invokevirtual 133, 3) := by decide +kernel
theorem dX12_moreOf_163 : decode cX12_moreOf 163 = .ok (.invokestatic 294, 3) := by decide +kernel
theorem dX12_moreOf_166 : decode cX12_moreOf 166 = .ok (.lstore 4, 2) := by decide +kernel
theorem dX12_moreOf_168 : decode cX12_moreOf 168 = .ok (.iinc 6 60, 3) := by decide +kernel
theorem dX12_moreOf_171 : decode cX12_moreOf 171 = .ok (.goto (-33), 3) := by decide +kernel
theorem dX12_moreOf_174 : decode cX12_moreOf 174 = .ok (.lload 4, 2) := by decide +kernel
theorem dX12_moreOf_176 : decode cX12_moreOf 176 = .ok (.lreturn, 1) := by decide +kernel
theorem dX12_checksum_0 : decode cX12_checksum 0 = .ok (.ldc2_w 298, 3) := by decide +kernel
theorem dX12_checksum_3 : decode cX12_checksum 3 = .ok (.lstore_n 1, 1) := by decide +kernel
theorem dX12_checksum_4 : decode cX12_checksum 4 = .ok (.iconst 0, 1) := by decide +kernel
theorem dX12_checksum_5 : decode cX12_checksum 5 = .ok (.istore_n 3, 1) := by decide +kernel
theorem dX12_checksum_6 : decode cX12_checksum 6 = .ok (.iload_n 3, 1) := by decide +kernel
theorem dX12_checksum_7 : decode cX12_checksum 7 = .ok (.iconst 4, 1) := by decide +kernel
theorem dX12_checksum_8 : decode cX12_checksum 8 = .ok (.if_icmp .ge 16, 3) := by decide +kernel
theorem dX12_checksum_11 : decode cX12_checksum 11 = .ok (.aload_n 0, 1) := by decide +kernel
theorem dX12_checksum_12 : decode cX12_checksum 12 = .ok (.lload_n 1, 1) := by decide +kernel
theorem dX12_checksum_13 : decode cX12_checksum 13 = .ok (.iload_n 3, 1) := by decide +kernel
theorem dX12_checksum_14 : decode cX12_checksum 14 = .ok (.invokevirtual 300, 3) := by decide +kernel
theorem dX12_checksum_17 : decode cX12_checksum 17 = .ok (.lstore_n 1, 1) := by decide +kernel
theorem dX12_checksum_18 : decode cX12_checksum 18 = .ok (.iinc 3 1, 3) := by decide +kernel
theorem dX12_checksum_21 : decode cX12_checksum 21 = .ok (.goto (-15), 3) := by decide +kernel
theorem dX12_checksum_24 : decode cX12_checksum 24 = .ok (.lload_n 1, 1) := by decide +kernel
theorem dX12_checksum_25 : decode cX12_checksum 25 = .ok (.aload_n 0, 1) := by decide +kernel
theorem dX12_checksum_26 : decode cX12_checksum 26 = .ok (.getfield 7, 3) := by decide +kernel
theorem dX12_checksum_29 : decode cX12_checksum 29 = .ok (.sipush 512, 3) := by decide +kernel
theorem dX12_checksum_32 : decode cX12_checksum 32 = .ok (.iaload, 1) := by decide +kernel
theorem dX12_checksum_33 : decode cX12_checksum 33 = .ok (.invokestatic 294, 3) := by decide +kernel
theorem dX12_checksum_36 : decode cX12_checksum 36 = .ok (.lstore_n 1, 1) := by decide +kernel
theorem dX12_checksum_37 : decode cX12_checksum 37 = .ok (.iconst 0, 1) := by decide +kernel
theorem dX12_checksum_38 : decode cX12_checksum 38 = .ok (.istore_n 3, 1) := by decide +kernel
theorem dX12_checksum_39 : decode cX12_checksum 39 = .ok (.iload_n 3, 1) := by decide +kernel
theorem dX12_checksum_40 : decode cX12_checksum 40 = .ok (.aload_n 0, 1) := by decide +kernel
theorem dX12_checksum_41 : decode cX12_checksum 41 = .ok (.getfield 7, 3) := by decide +kernel
theorem dX12_checksum_44 : decode cX12_checksum 44 = .ok (.sipush 512, 3) := by decide +kernel
theorem dX12_checksum_47 : decode cX12_checksum 47 = .ok (.iaload, 1) := by decide +kernel
theorem dX12_checksum_48 : decode cX12_checksum 48 = .ok (.if_icmp .ge 37, 3) := by decide +kernel
theorem dX12_checksum_51 : decode cX12_checksum 51 = .ok (.lload_n 1, 1) := by decide +kernel
theorem dX12_checksum_52 : decode cX12_checksum 52 = .ok (.aload_n 0, 1) := by decide +kernel
theorem dX12_checksum_53 : decode cX12_checksum 53 = .ok (.getfield 7, 3) := by decide +kernel
theorem dX12_checksum_56 : decode cX12_checksum 56 = .ok (.sipush 513, 3) := by decide +kernel
theorem dX12_checksum_59 : decode cX12_checksum 59 = .ok (.iload_n 3, 1) := by decide +kernel
theorem dX12_checksum_60 : decode cX12_checksum 60 = .ok (.iadd, 1) := by decide +kernel
theorem dX12_checksum_61 : decode cX12_checksum 61 = .ok (.iaload, 1) := by decide +kernel
theorem dX12_checksum_62 : decode cX12_checksum 62 = .ok (.invokestatic 294, 3) := by decide +kernel
theorem dX12_checksum_65 : decode cX12_checksum 65 = .ok (.aload_n 0, 1) := by decide +kernel
theorem dX12_checksum_66 : decode cX12_checksum 66 = .ok (.getfield 7, 3) := by decide +kernel
theorem dX12_checksum_69 : decode cX12_checksum 69 = .ok (.sipush 521, 3) := by decide +kernel
theorem dX12_checksum_72 : decode cX12_checksum 72 = .ok (.iload_n 3, 1) := by decide +kernel
theorem dX12_checksum_73 : decode cX12_checksum 73 = .ok (.iadd, 1) := by decide +kernel
theorem dX12_checksum_74 : decode cX12_checksum 74 = .ok (.iaload, 1) := by decide +kernel
theorem dX12_checksum_75 : decode cX12_checksum 75 = .ok (.invokestatic 294, 3) := by decide +kernel
theorem dX12_checksum_78 : decode cX12_checksum 78 = .ok (.lstore_n 1, 1) := by decide +kernel
theorem dX12_checksum_79 : decode cX12_checksum 79 = .ok (.iinc 3 1, 3) := by decide +kernel
theorem dX12_checksum_82 : decode cX12_checksum 82 = .ok (.goto (-43), 3) := by decide +kernel
theorem dX12_checksum_85 : decode cX12_checksum 85 = .ok (.iconst 0, 1) := by decide +kernel
theorem dX12_checksum_86 : decode cX12_checksum 86 = .ok (.istore_n 3, 1) := by decide +kernel
theorem dX12_checksum_87 : decode cX12_checksum 87 = .ok (.iload_n 3, 1) := by decide +kernel
theorem dX12_checksum_88 : decode cX12_checksum 88 = .ok (.sipush 960, 3) := by decide +kernel
theorem dX12_checksum_91 : decode cX12_checksum 91 = .ok (.if_icmp .gt 19, 3) := by decide +kernel
theorem dX12_checksum_94 : decode cX12_checksum 94 = .ok (.lload_n 1, 1) := by decide +kernel
theorem dX12_checksum_95 : decode cX12_checksum 95 = .ok (.aload_n 0, 1) := by decide +kernel
theorem dX12_checksum_96 : decode cX12_checksum 96 = .ok (.iload_n 3, 1) := by decide +kernel
theorem dX12_checksum_97 : decode cX12_checksum 97 = .ok (.invokevirtual 184, 3) := by decide +kernel
theorem dX12_checksum_100 : decode cX12_checksum 100 = .ok (.invokestatic 294, 3) := by decide +kernel
theorem dX12_checksum_103 : decode cX12_checksum 103 = .ok (.lstore_n 1, 1) := by decide +kernel
theorem dX12_checksum_104 : decode cX12_checksum 104 = .ok (.iinc 3 60, 3) := by decide +kernel
theorem dX12_checksum_107 : decode cX12_checksum 107 = .ok (.goto (-20), 3) := by decide +kernel
theorem dX12_checksum_110 : decode cX12_checksum 110 = .ok (.lload_n 1, 1) := by decide +kernel
theorem dX12_checksum_111 : decode cX12_checksum 111 = .ok (.lreturn, 1) := by decide +kernel
theorem dJ9_floorDiv_7cf53_0 : decode cJ9_floorDiv_7cf53 0 = .ok (.iload_n 0, 1) := by decide +kernel
theorem dJ9_floorDiv_7cf53_1 : decode cJ9_floorDiv_7cf53 1 = .ok (.iload_n 1, 1) := by decide +kernel
theorem dJ9_floorDiv_7cf53_2 : decode cJ9_floorDiv_7cf53 2 = .ok (.idiv, 1) := by decide +kernel
theorem dJ9_floorDiv_7cf53_3 : decode cJ9_floorDiv_7cf53 3 = .ok (.istore_n 2, 1) := by decide +kernel
theorem dJ9_floorDiv_7cf53_4 : decode cJ9_floorDiv_7cf53 4 = .ok (.iload_n 0, 1) := by decide +kernel
theorem dJ9_floorDiv_7cf53_5 : decode cJ9_floorDiv_7cf53 5 = .ok (.iload_n 1, 1) := by decide +kernel
theorem dJ9_floorDiv_7cf53_6 : decode cJ9_floorDiv_7cf53 6 = .ok (.ixor, 1) := by decide +kernel
theorem dJ9_floorDiv_7cf53_7 : decode cJ9_floorDiv_7cf53 7 = .ok (.ifCond .ge 14, 3) := by decide +kernel
theorem dJ9_floorDiv_7cf53_10 : decode cJ9_floorDiv_7cf53 10 = .ok (.iload_n 2, 1) := by decide +kernel
theorem dJ9_floorDiv_7cf53_11 : decode cJ9_floorDiv_7cf53 11 = .ok (.iload_n 1, 1) := by decide +kernel
theorem dJ9_floorDiv_7cf53_12 : decode cJ9_floorDiv_7cf53 12 = .ok (.imul, 1) := by decide +kernel
theorem dJ9_floorDiv_7cf53_13 : decode cJ9_floorDiv_7cf53 13 = .ok (.iload_n 0, 1) := by decide +kernel
theorem dJ9_floorDiv_7cf53_14 : decode cJ9_floorDiv_7cf53 14 = .ok (.if_icmp .eq 7, 3) := by decide +kernel
theorem dJ9_floorDiv_7cf53_17 : decode cJ9_floorDiv_7cf53 17 = .ok (.iload_n 2, 1) := by decide +kernel
theorem dJ9_floorDiv_7cf53_18 : decode cJ9_floorDiv_7cf53 18 = .ok (.iconst 1, 1) := by decide +kernel
theorem dJ9_floorDiv_7cf53_19 : decode cJ9_floorDiv_7cf53 19 = .ok (.isub, 1) := by decide +kernel
theorem dJ9_floorDiv_7cf53_20 : decode cJ9_floorDiv_7cf53 20 = .ok (.ireturn, 1) := by decide +kernel
theorem dJ9_floorDiv_7cf53_21 : decode cJ9_floorDiv_7cf53 21 = .ok (.iload_n 2, 1) := by decide +kernel
theorem dJ9_floorDiv_7cf53_22 : decode cJ9_floorDiv_7cf53 22 = .ok (.ireturn, 1) := by decide +kernel
theorem dJ9_floorDiv_f86c9_0 : decode cJ9_floorDiv_f86c9 0 = .ok (.lload_n 0, 1) := by decide +kernel
theorem dJ9_floorDiv_f86c9_1 : decode cJ9_floorDiv_f86c9 1 = .ok (.lload_n 2, 1) := by decide +kernel
theorem dJ9_floorDiv_f86c9_2 : decode cJ9_floorDiv_f86c9 2 = .ok (.ldiv, 1) := by decide +kernel
theorem dJ9_floorDiv_f86c9_3 : decode cJ9_floorDiv_f86c9 3 = .ok (.lstore 4, 2) := by decide +kernel
theorem dJ9_floorDiv_f86c9_5 : decode cJ9_floorDiv_f86c9 5 = .ok (.lload_n 0, 1) := by decide +kernel
theorem dJ9_floorDiv_f86c9_6 : decode cJ9_floorDiv_f86c9 6 = .ok (.lload_n 2, 1) := by decide +kernel
theorem dJ9_floorDiv_f86c9_7 : decode cJ9_floorDiv_f86c9 7 = .ok (.lxor, 1) := by decide +kernel
theorem dJ9_floorDiv_f86c9_8 : decode cJ9_floorDiv_f86c9 8 = .ok (.lconst 0, 1) := by decide +kernel
theorem dJ9_floorDiv_f86c9_9 : decode cJ9_floorDiv_f86c9 9 = .ok (.lcmp, 1) := by decide +kernel
theorem dJ9_floorDiv_f86c9_10 : decode cJ9_floorDiv_f86c9 10 = .ok (.ifCond .ge 17, 3) := by decide +kernel
theorem dJ9_floorDiv_f86c9_13 : decode cJ9_floorDiv_f86c9 13 = .ok (.lload 4, 2) := by decide +kernel
theorem dJ9_floorDiv_f86c9_15 : decode cJ9_floorDiv_f86c9 15 = .ok (.lload_n 2, 1) := by decide +kernel
theorem dJ9_floorDiv_f86c9_16 : decode cJ9_floorDiv_f86c9 16 = .ok (.lmul, 1) := by decide +kernel
theorem dJ9_floorDiv_f86c9_17 : decode cJ9_floorDiv_f86c9 17 = .ok (.lload_n 0, 1) := by decide +kernel
theorem dJ9_floorDiv_f86c9_18 : decode cJ9_floorDiv_f86c9 18 = .ok (.lcmp, 1) := by decide +kernel
theorem dJ9_floorDiv_f86c9_19 : decode cJ9_floorDiv_f86c9 19 = .ok (.ifCond .eq 8, 3) := by decide +kernel
theorem dJ9_floorDiv_f86c9_22 : decode cJ9_floorDiv_f86c9 22 = .ok (.lload 4, 2) := by decide +kernel
theorem dJ9_floorDiv_f86c9_24 : decode cJ9_floorDiv_f86c9 24 = .ok (.lconst 1, 1) := by decide +kernel
theorem dJ9_floorDiv_f86c9_25 : decode cJ9_floorDiv_f86c9 25 = .ok (.lsub, 1) := by decide +kernel
theorem dJ9_floorDiv_f86c9_26 : decode cJ9_floorDiv_f86c9 26 = .ok (.lreturn, 1) := by decide +kernel
theorem dJ9_floorDiv_f86c9_27 : decode cJ9_floorDiv_f86c9 27 = .ok (.lload 4, 2) := by decide +kernel
theorem dJ9_floorDiv_f86c9_29 : decode cJ9_floorDiv_f86c9 29 = .ok (.lreturn, 1) := by decide +kernel
theorem dJ9_floorMod_7cf53_0 : decode cJ9_floorMod_7cf53 0 = .ok (.iload_n 0, 1) := by decide +kernel
theorem dJ9_floorMod_7cf53_1 : decode cJ9_floorMod_7cf53 1 = .ok (.iload_n 1, 1) := by decide +kernel
theorem dJ9_floorMod_7cf53_2 : decode cJ9_floorMod_7cf53 2 = .ok (.irem, 1) := by decide +kernel
theorem dJ9_floorMod_7cf53_3 : decode cJ9_floorMod_7cf53 3 = .ok (.istore_n 2, 1) := by decide +kernel
theorem dJ9_floorMod_7cf53_4 : decode cJ9_floorMod_7cf53 4 = .ok (.iload_n 0, 1) := by decide +kernel
theorem dJ9_floorMod_7cf53_5 : decode cJ9_floorMod_7cf53 5 = .ok (.iload_n 1, 1) := by decide +kernel
theorem dJ9_floorMod_7cf53_6 : decode cJ9_floorMod_7cf53 6 = .ok (.ixor, 1) := by decide +kernel
theorem dJ9_floorMod_7cf53_7 : decode cJ9_floorMod_7cf53 7 = .ok (.ifCond .ge 11, 3) := by decide +kernel
theorem dJ9_floorMod_7cf53_10 : decode cJ9_floorMod_7cf53 10 = .ok (.iload_n 2, 1) := by decide +kernel
theorem dJ9_floorMod_7cf53_11 : decode cJ9_floorMod_7cf53 11 = .ok (.ifCond .eq 7, 3) := by decide +kernel
theorem dJ9_floorMod_7cf53_14 : decode cJ9_floorMod_7cf53 14 = .ok (.iload_n 2, 1) := by decide +kernel
theorem dJ9_floorMod_7cf53_15 : decode cJ9_floorMod_7cf53 15 = .ok (.iload_n 1, 1) := by decide +kernel
theorem dJ9_floorMod_7cf53_16 : decode cJ9_floorMod_7cf53 16 = .ok (.iadd, 1) := by decide +kernel
theorem dJ9_floorMod_7cf53_17 : decode cJ9_floorMod_7cf53 17 = .ok (.ireturn, 1) := by decide +kernel
theorem dJ9_floorMod_7cf53_18 : decode cJ9_floorMod_7cf53 18 = .ok (.iload_n 2, 1) := by decide +kernel
theorem dJ9_floorMod_7cf53_19 : decode cJ9_floorMod_7cf53 19 = .ok (.ireturn, 1) := by decide +kernel
theorem dJ9_abs_0f7a4_0 : decode cJ9_abs_0f7a4 0 = .ok (.iload_n 0, 1) := by decide +kernel
theorem dJ9_abs_0f7a4_1 : decode cJ9_abs_0f7a4 1 = .ok (.ifCond .ge 8, 3) := by decide +kernel
theorem dJ9_abs_0f7a4_4 : decode cJ9_abs_0f7a4 4 = .ok (.iload_n 0, 1) := by decide +kernel
theorem dJ9_abs_0f7a4_5 : decode cJ9_abs_0f7a4 5 = .ok (.ineg, 1) := by decide +kernel
theorem dJ9_abs_0f7a4_6 : decode cJ9_abs_0f7a4 6 = .ok (.goto 4, 3) := by decide +kernel
theorem dJ9_abs_0f7a4_9 : decode cJ9_abs_0f7a4 9 = .ok (.iload_n 0, 1) := by decide +kernel
theorem dJ9_abs_0f7a4_10 : decode cJ9_abs_0f7a4 10 = .ok (.ireturn, 1) := by decide +kernel
theorem dJ9_abs_067f4_0 : decode cJ9_abs_067f4 0 = .ok (.lload_n 0, 1) := by decide +kernel
theorem dJ9_abs_067f4_1 : decode cJ9_abs_067f4 1 = .ok (.lconst 0, 1) := by decide +kernel
theorem dJ9_abs_067f4_2 : decode cJ9_abs_067f4 2 = .ok (.lcmp, 1) := by decide +kernel
theorem dJ9_abs_067f4_3 : decode cJ9_abs_067f4 3 = .ok (.ifCond .ge 8, 3) := by decide +kernel
theorem dJ9_abs_067f4_6 : decode cJ9_abs_067f4 6 = .ok (.lload_n 0, 1) := by decide +kernel
theorem dJ9_abs_067f4_7 : decode cJ9_abs_067f4 7 = .ok (.lneg, 1) := by decide +kernel
theorem dJ9_abs_067f4_8 : decode cJ9_abs_067f4 8 = .ok (.goto 4, 3) := by decide +kernel
theorem dJ9_abs_067f4_11 : decode cJ9_abs_067f4 11 = .ok (.lload_n 0, 1) := by decide +kernel
theorem dJ9_abs_067f4_12 : decode cJ9_abs_067f4 12 = .ok (.lreturn, 1) := by decide +kernel
theorem dJ9_max_7cf53_0 : decode cJ9_max_7cf53 0 = .ok (.iload_n 0, 1) := by decide +kernel
theorem dJ9_max_7cf53_1 : decode cJ9_max_7cf53 1 = .ok (.iload_n 1, 1) := by decide +kernel
theorem dJ9_max_7cf53_2 : decode cJ9_max_7cf53 2 = .ok (.if_icmp .lt 7, 3) := by decide +kernel
theorem dJ9_max_7cf53_5 : decode cJ9_max_7cf53 5 = .ok (.iload_n 0, 1) := by decide +kernel
theorem dJ9_max_7cf53_6 : decode cJ9_max_7cf53 6 = .ok (.goto 4, 3) := by decide +kernel
theorem dJ9_max_7cf53_9 : decode cJ9_max_7cf53 9 = .ok (.iload_n 1, 1) := by decide +kernel
theorem dJ9_max_7cf53_10 : decode cJ9_max_7cf53 10 = .ok (.ireturn, 1) := by decide +kernel
theorem dJ9_max_f86c9_0 : decode cJ9_max_f86c9 0 = .ok (.lload_n 0, 1) := by decide +kernel
theorem dJ9_max_f86c9_1 : decode cJ9_max_f86c9 1 = .ok (.lload_n 2, 1) := by decide +kernel
theorem dJ9_max_f86c9_2 : decode cJ9_max_f86c9 2 = .ok (.lcmp, 1) := by decide +kernel
theorem dJ9_max_f86c9_3 : decode cJ9_max_f86c9 3 = .ok (.ifCond .lt 7, 3) := by decide +kernel
theorem dJ9_max_f86c9_6 : decode cJ9_max_f86c9 6 = .ok (.lload_n 0, 1) := by decide +kernel
theorem dJ9_max_f86c9_7 : decode cJ9_max_f86c9 7 = .ok (.goto 4, 3) := by decide +kernel
theorem dJ9_max_f86c9_10 : decode cJ9_max_f86c9 10 = .ok (.lload_n 2, 1) := by decide +kernel
theorem dJ9_max_f86c9_11 : decode cJ9_max_f86c9 11 = .ok (.lreturn, 1) := by decide +kernel
theorem dJ9_min_7cf53_0 : decode cJ9_min_7cf53 0 = .ok (.iload_n 0, 1) := by decide +kernel
theorem dJ9_min_7cf53_1 : decode cJ9_min_7cf53 1 = .ok (.iload_n 1, 1) := by decide +kernel
theorem dJ9_min_7cf53_2 : decode cJ9_min_7cf53 2 = .ok (.if_icmp .gt 7, 3) := by decide +kernel
theorem dJ9_min_7cf53_5 : decode cJ9_min_7cf53 5 = .ok (.iload_n 0, 1) := by decide +kernel
theorem dJ9_min_7cf53_6 : decode cJ9_min_7cf53 6 = .ok (.goto 4, 3) := by decide +kernel
theorem dJ9_min_7cf53_9 : decode cJ9_min_7cf53 9 = .ok (.iload_n 1, 1) := by decide +kernel
theorem dJ9_min_7cf53_10 : decode cJ9_min_7cf53 10 = .ok (.ireturn, 1) := by decide +kernel
theorem dJ9_min_f86c9_0 : decode cJ9_min_f86c9 0 = .ok (.lload_n 0, 1) := by decide +kernel
theorem dJ9_min_f86c9_1 : decode cJ9_min_f86c9 1 = .ok (.lload_n 2, 1) := by decide +kernel
theorem dJ9_min_f86c9_2 : decode cJ9_min_f86c9 2 = .ok (.lcmp, 1) := by decide +kernel
theorem dJ9_min_f86c9_3 : decode cJ9_min_f86c9 3 = .ok (.ifCond .gt 7, 3) := by decide +kernel
theorem dJ9_min_f86c9_6 : decode cJ9_min_f86c9 6 = .ok (.lload_n 0, 1) := by decide +kernel
theorem dJ9_min_f86c9_7 : decode cJ9_min_f86c9 7 = .ok (.goto 4, 3) := by decide +kernel
theorem dJ9_min_f86c9_10 : decode cJ9_min_f86c9 10 = .ok (.lload_n 2, 1) := by decide +kernel
theorem dJ9_min_f86c9_11 : decode cJ9_min_f86c9 11 = .ok (.lreturn, 1) := by decide +kernel
theorem dL_law_0 : decode cL_law 0 = .ok (.new 7, 3) := by decide +kernel
theorem dL_law_3 : decode cL_law 3 = .ok (.dup, 1) := by decide +kernel
theorem dL_law_4 : decode cL_law 4 = .ok (.invokespecial 9, 3) := by decide +kernel
theorem dL_law_7 : decode cL_law 7 = .ok (.astore_n 1, 1) := by decide +kernel
theorem dL_law_8 : decode cL_law 8 = .ok (.new 10, 3) := by decide +kernel
theorem dL_law_11 : decode cL_law 11 = .ok (.dup, 1) := by decide +kernel
theorem dL_law_12 : decode cL_law 12 = .ok (.invokespecial 12, 3) := by decide +kernel
theorem dL_law_15 : decode cL_law 15 = .ok (.astore_n 2, 1) := by decide +kernel
theorem dL_law_16 : decode cL_law 16 = .ok (.iconst 0, 1) := by decide +kernel
theorem dL_law_17 : decode cL_law 17 = .ok (.istore_n 3, 1) := by decide +kernel
theorem dL_law_18 : decode cL_law 18 = .ok (.iload_n 3, 1) := by decide +kernel
theorem dL_law_19 : decode cL_law 19 = .ok (.aload_n 0, 1) := by decide +kernel
theorem dL_law_20 : decode cL_law 20 = .ok (.arraylength, 1) := by decide +kernel
theorem dL_law_21 : decode cL_law 21 = .ok (.bipush 6, 2) := by decide +kernel
theorem dL_law_23 : decode cL_law 23 = .ok (.isub, 1) := by decide +kernel
theorem dL_law_24 : decode cL_law 24 = .ok (.if_icmp .gt 1405, 3) := by decide +kernel
theorem dL_law_27 : decode cL_law 27 = .ok (.aload_n 0, 1) := by decide +kernel
theorem dL_law_28 : decode cL_law 28 = .ok (.iload_n 3, 1) := by decide +kernel
theorem dL_law_29 : decode cL_law 29 = .ok (.iaload, 1) := by decide +kernel
theorem dL_law_30 : decode cL_law 30 = .ok (.bipush 63, 2) := by decide +kernel
theorem dL_law_32 : decode cL_law 32 = .ok (.iand, 1) := by decide +kernel
theorem dL_law_33 : decode cL_law 33 = .ok (.tableswitch 1390 0 33 #[151, 194, 227, 270, 313, 366, 399, 422, 465, 488, 521, 554, 587, 646, 679, 742, 813, 882, 935, 968, 981, 1004, 1027, 1080, 1133, 1196, 1229, 1252, 1265, 1304, 1327, 1340, 1363, 1376], 151) := by decide +kernel
theorem dL_law_184 : decode cL_law 184 = .ok (.aload_n 1, 1) := by decide +kernel
theorem dL_law_185 : decode cL_law 185 = .ok (.aload_n 0, 1) := by decide +kernel
theorem dL_law_186 : decode cL_law 186 = .ok (.iload_n 3, 1) := by decide +kernel
theorem dL_law_187 : decode cL_law 187 = .ok (.iconst 1, 1) := by decide +kernel
theorem dL_law_188 : decode cL_law 188 = .ok (.iadd, 1) := by decide +kernel
theorem dL_law_189 : decode cL_law 189 = .ok (.iaload, 1) := by decide +kernel
theorem dL_law_190 : decode cL_law 190 = .ok (.aload_n 0, 1) := by decide +kernel
theorem dL_law_191 : decode cL_law 191 = .ok (.iload_n 3, 1) := by decide +kernel
theorem dL_law_192 : decode cL_law 192 = .ok (.iconst 2, 1) := by decide +kernel
theorem dL_law_193 : decode cL_law 193 = .ok (.iadd, 1) := by decide +kernel
theorem dL_law_194 : decode cL_law 194 = .ok (.iaload, 1) := by decide +kernel
theorem dL_law_195 : decode cL_law 195 = .ok (.aload_n 0, 1) := by decide +kernel
theorem dL_law_196 : decode cL_law 196 = .ok (.iload_n 3, 1) := by decide +kernel
theorem dL_law_197 : decode cL_law 197 = .ok (.iconst 3, 1) := by decide +kernel
theorem dL_law_198 : decode cL_law 198 = .ok (.iadd, 1) := by decide +kernel
theorem dL_law_199 : decode cL_law 199 = .ok (.iaload, 1) := by decide +kernel
theorem dL_law_200 : decode cL_law 200 = .ok (.invokevirtual 13, 3) := by decide +kernel
theorem dL_law_203 : decode cL_law 203 = .ok (.aload_n 2, 1) := by decide +kernel
theorem dL_law_204 : decode cL_law 204 = .ok (.aload_n 0, 1) := by decide +kernel
theorem dL_law_205 : decode cL_law 205 = .ok (.iload_n 3, 1) := by decide +kernel
theorem dL_law_206 : decode cL_law 206 = .ok (.iconst 1, 1) := by decide +kernel
theorem dL_law_207 : decode cL_law 207 = .ok (.iadd, 1) := by decide +kernel
